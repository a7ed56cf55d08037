section
-- ===== PART A: goes FIRST, ahead of the names: the tables' words, and 'selects' of the private methods out of them =====
/-- a private method of a class that the tables say can be made, by its rows of tables_1 -/
def lw_okq (q : MethodName × Nat) : Prop := (q.1.cls ≠ "java/lang/invoke/MethodHandle" ∧ q.1.cls ≠ "java/lang/invoke/VarHandle") ∧ Cond.instantiable q.1.cls q.2 ∈ tables_1 ∧ Cond.privateMethod q.1 ∈ tables_1 ∧ Cond.instanceMethod q.1 ∈ tables_1
theorem lw_p0 : lw_okq (⟨"FacingDoors$Text", "append", "(I)V"⟩, 2) := ⟨⟨by decide +kernel, by decide +kernel⟩, List.mem_of_getElem? (i := 25) (by decide +kernel), List.mem_of_getElem? (i := 334) (by decide +kernel), List.mem_of_getElem? (i := 335) (by decide +kernel)⟩
theorem lw_p1 : lw_okq (⟨"FacingDoors$Reader", "read", "()I"⟩, 9) := ⟨⟨by decide +kernel, by decide +kernel⟩, List.mem_of_getElem? (i := 99) (by decide +kernel), List.mem_of_getElem? (i := 346) (by decide +kernel), List.mem_of_getElem? (i := 347) (by decide +kernel)⟩
theorem lw_p2 : lw_okq (⟨"FacingDoors$Plan", "empty", "()V"⟩, 9) := ⟨⟨by decide +kernel, by decide +kernel⟩, List.mem_of_getElem? (i := 41) (by decide +kernel), List.mem_of_getElem? (i := 350) (by decide +kernel), List.mem_of_getElem? (i := 351) (by decide +kernel)⟩
theorem lw_p3 : lw_okq (⟨"FacingDoors$Reader", "advance", "()V"⟩, 9) := ⟨⟨by decide +kernel, by decide +kernel⟩, List.mem_of_getElem? (i := 99) (by decide +kernel), List.mem_of_getElem? (i := 354) (by decide +kernel), List.mem_of_getElem? (i := 355) (by decide +kernel)⟩
theorem lw_p4 : lw_okq (⟨"FacingDoors$Text", "byteAt", "(I)I"⟩, 2) := ⟨⟨by decide +kernel, by decide +kernel⟩, List.mem_of_getElem? (i := 25) (by decide +kernel), List.mem_of_getElem? (i := 358) (by decide +kernel), List.mem_of_getElem? (i := 359) (by decide +kernel)⟩
theorem lw_p5 : lw_okq (⟨"FacingDoors$Reader", "advanceOverNumber", "()V"⟩, 9) := ⟨⟨by decide +kernel, by decide +kernel⟩, List.mem_of_getElem? (i := 99) (by decide +kernel), List.mem_of_getElem? (i := 365) (by decide +kernel), List.mem_of_getElem? (i := 366) (by decide +kernel)⟩
theorem lw_p6 : lw_okq (⟨"FacingDoors$Reader", "takeItem", "()Z"⟩, 9) := ⟨⟨by decide +kernel, by decide +kernel⟩, List.mem_of_getElem? (i := 99) (by decide +kernel), List.mem_of_getElem? (i := 372) (by decide +kernel), List.mem_of_getElem? (i := 373) (by decide +kernel)⟩
theorem lw_p7 : lw_okq (⟨"FacingDoors$Reader", "takeWide", "()Z"⟩, 9) := ⟨⟨by decide +kernel, by decide +kernel⟩, List.mem_of_getElem? (i := 99) (by decide +kernel), List.mem_of_getElem? (i := 376) (by decide +kernel), List.mem_of_getElem? (i := 377) (by decide +kernel)⟩
theorem lw_p8 : lw_okq (⟨"FacingDoors$Reader", "nextIsNumber", "(II)Z"⟩, 9) := ⟨⟨by decide +kernel, by decide +kernel⟩, List.mem_of_getElem? (i := 99) (by decide +kernel), List.mem_of_getElem? (i := 380) (by decide +kernel), List.mem_of_getElem? (i := 381) (by decide +kernel)⟩
theorem lw_p9 : lw_okq (⟨"FacingDoors$Reader", "takeEnd", "()Z"⟩, 9) := ⟨⟨by decide +kernel, by decide +kernel⟩, List.mem_of_getElem? (i := 99) (by decide +kernel), List.mem_of_getElem? (i := 384) (by decide +kernel), List.mem_of_getElem? (i := 385) (by decide +kernel)⟩
theorem lw_p10 : lw_okq (⟨"FacingDoors$Reader", "takeRow", "()Z"⟩, 9) := ⟨⟨by decide +kernel, by decide +kernel⟩, List.mem_of_getElem? (i := 99) (by decide +kernel), List.mem_of_getElem? (i := 388) (by decide +kernel), List.mem_of_getElem? (i := 389) (by decide +kernel)⟩
theorem lw_p11 : lw_okq (⟨"FacingDoors$Reader", "nextGround", "()I"⟩, 9) := ⟨⟨by decide +kernel, by decide +kernel⟩, List.mem_of_getElem? (i := 99) (by decide +kernel), List.mem_of_getElem? (i := 392) (by decide +kernel), List.mem_of_getElem? (i := 393) (by decide +kernel)⟩
theorem lw_p12 : lw_okq (⟨"FacingDoors$Reader", "takeDoor", "()Z"⟩, 9) := ⟨⟨by decide +kernel, by decide +kernel⟩, List.mem_of_getElem? (i := 99) (by decide +kernel), List.mem_of_getElem? (i := 399) (by decide +kernel), List.mem_of_getElem? (i := 400) (by decide +kernel)⟩
theorem lw_p13 : lw_okq (⟨"FacingDoors$Plan", "isFreeForDoor", "(II)Z"⟩, 9) := ⟨⟨by decide +kernel, by decide +kernel⟩, List.mem_of_getElem? (i := 41) (by decide +kernel), List.mem_of_getElem? (i := 403) (by decide +kernel), List.mem_of_getElem? (i := 404) (by decide +kernel)⟩
theorem lw_p14 : lw_okq (⟨"FacingDoors$Plan", "hasCell", "(II)Z"⟩, 9) := ⟨⟨by decide +kernel, by decide +kernel⟩, List.mem_of_getElem? (i := 41) (by decide +kernel), List.mem_of_getElem? (i := 407) (by decide +kernel), List.mem_of_getElem? (i := 408) (by decide +kernel)⟩
theorem lw_p15 : lw_okq (⟨"FacingDoors$Plan", "groundAt", "(II)I"⟩, 9) := ⟨⟨by decide +kernel, by decide +kernel⟩, List.mem_of_getElem? (i := 41) (by decide +kernel), List.mem_of_getElem? (i := 411) (by decide +kernel), List.mem_of_getElem? (i := 412) (by decide +kernel)⟩
def lw_privs_1 : List (MethodName × Nat) := [(⟨"FacingDoors$Text", "append", "(I)V"⟩, 2), (⟨"FacingDoors$Reader", "read", "()I"⟩, 9), (⟨"FacingDoors$Plan", "empty", "()V"⟩, 9), (⟨"FacingDoors$Reader", "advance", "()V"⟩, 9), (⟨"FacingDoors$Text", "byteAt", "(I)I"⟩, 2), (⟨"FacingDoors$Reader", "advanceOverNumber", "()V"⟩, 9), (⟨"FacingDoors$Reader", "takeItem", "()Z"⟩, 9), (⟨"FacingDoors$Reader", "takeWide", "()Z"⟩, 9), (⟨"FacingDoors$Reader", "nextIsNumber", "(II)Z"⟩, 9), (⟨"FacingDoors$Reader", "takeEnd", "()Z"⟩, 9), (⟨"FacingDoors$Reader", "takeRow", "()Z"⟩, 9), (⟨"FacingDoors$Reader", "nextGround", "()I"⟩, 9), (⟨"FacingDoors$Reader", "takeDoor", "()Z"⟩, 9), (⟨"FacingDoors$Plan", "isFreeForDoor", "(II)Z"⟩, 9), (⟨"FacingDoors$Plan", "hasCell", "(II)Z"⟩, 9), (⟨"FacingDoors$Plan", "groundAt", "(II)I"⟩, 9)]
theorem lw_r1 : ∀ q ∈ lw_privs_1, lw_okq q := List.forall_mem_cons.mpr ⟨lw_p0, List.forall_mem_cons.mpr ⟨lw_p1, List.forall_mem_cons.mpr ⟨lw_p2, List.forall_mem_cons.mpr ⟨lw_p3, List.forall_mem_cons.mpr ⟨lw_p4, List.forall_mem_cons.mpr ⟨lw_p5, List.forall_mem_cons.mpr ⟨lw_p6, List.forall_mem_cons.mpr ⟨lw_p7, List.forall_mem_cons.mpr ⟨lw_p8, List.forall_mem_cons.mpr ⟨lw_p9, List.forall_mem_cons.mpr ⟨lw_p10, List.forall_mem_cons.mpr ⟨lw_p11, List.forall_mem_cons.mpr ⟨lw_p12, List.forall_mem_cons.mpr ⟨lw_p13, List.forall_mem_cons.mpr ⟨lw_p14, List.forall_mem_cons.mpr ⟨lw_p15, fun _ h => absurd h List.not_mem_nil⟩⟩⟩⟩⟩⟩⟩⟩⟩⟩⟩⟩⟩⟩⟩⟩
theorem lw_p16 : lw_okq (⟨"FacingDoors$Reader", "takePrice", "()Z"⟩, 9) := ⟨⟨by decide +kernel, by decide +kernel⟩, List.mem_of_getElem? (i := 99) (by decide +kernel), List.mem_of_getElem? (i := 416) (by decide +kernel), List.mem_of_getElem? (i := 417) (by decide +kernel)⟩
theorem lw_p17 : lw_okq (⟨"FacingDoors$Reader", "takeSight", "()Z"⟩, 9) := ⟨⟨by decide +kernel, by decide +kernel⟩, List.mem_of_getElem? (i := 99) (by decide +kernel), List.mem_of_getElem? (i := 420) (by decide +kernel), List.mem_of_getElem? (i := 421) (by decide +kernel)⟩
theorem lw_p18 : lw_okq (⟨"FacingDoors$Plan", "copyFrom", "(LFacingDoors$Plan;)V"⟩, 9) := ⟨⟨by decide +kernel, by decide +kernel⟩, List.mem_of_getElem? (i := 41) (by decide +kernel), List.mem_of_getElem? (i := 424) (by decide +kernel), List.mem_of_getElem? (i := 425) (by decide +kernel)⟩
theorem lw_p19 : lw_okq (⟨"FacingDoors$Scene", "begin", "(LFacingDoors$Plan;)V"⟩, 8) := ⟨⟨by decide +kernel, by decide +kernel⟩, List.mem_of_getElem? (i := 133) (by decide +kernel), List.mem_of_getElem? (i := 431) (by decide +kernel), List.mem_of_getElem? (i := 432) (by decide +kernel)⟩
theorem lw_p20 : lw_okq (⟨"FacingDoors$Scene", "doorOn", "(III)I"⟩, 8) := ⟨⟨by decide +kernel, by decide +kernel⟩, List.mem_of_getElem? (i := 133) (by decide +kernel), List.mem_of_getElem? (i := 443) (by decide +kernel), List.mem_of_getElem? (i := 444) (by decide +kernel)⟩
theorem lw_p21 : lw_okq (⟨"FacingDoors$Scene", "hasCart", "(II)Z"⟩, 8) := ⟨⟨by decide +kernel, by decide +kernel⟩, List.mem_of_getElem? (i := 133) (by decide +kernel), List.mem_of_getElem? (i := 447) (by decide +kernel), List.mem_of_getElem? (i := 448) (by decide +kernel)⟩
theorem lw_p22 : lw_okq (⟨"FacingDoors$Plan", "hasDoor", "(I)Z"⟩, 9) := ⟨⟨by decide +kernel, by decide +kernel⟩, List.mem_of_getElem? (i := 41) (by decide +kernel), List.mem_of_getElem? (i := 457) (by decide +kernel), List.mem_of_getElem? (i := 458) (by decide +kernel)⟩
theorem lw_p23 : lw_okq (⟨"FacingDoors$Scene", "isOpen", "(I)Z"⟩, 8) := ⟨⟨by decide +kernel, by decide +kernel⟩, List.mem_of_getElem? (i := 133) (by decide +kernel), List.mem_of_getElem? (i := 461) (by decide +kernel), List.mem_of_getElem? (i := 462) (by decide +kernel)⟩
theorem lw_p24 : lw_okq (⟨"FacingDoors$Sights", "seesWhom", "(I)I"⟩, 2) := ⟨⟨by decide +kernel, by decide +kernel⟩, List.mem_of_getElem? (i := 199) (by decide +kernel), List.mem_of_getElem? (i := 471) (by decide +kernel), List.mem_of_getElem? (i := 472) (by decide +kernel)⟩
theorem lw_p25 : lw_okq (⟨"FacingDoors$Sights", "wouldSee", "(II)I"⟩, 2) := ⟨⟨by decide +kernel, by decide +kernel⟩, List.mem_of_getElem? (i := 199) (by decide +kernel), List.mem_of_getElem? (i := 476) (by decide +kernel), List.mem_of_getElem? (i := 477) (by decide +kernel)⟩
theorem lw_p26 : lw_okq (⟨"FacingDoors$Sights", "hidesWhatIsBehind", "(I)Z"⟩, 2) := ⟨⟨by decide +kernel, by decide +kernel⟩, List.mem_of_getElem? (i := 199) (by decide +kernel), List.mem_of_getElem? (i := 487) (by decide +kernel), List.mem_of_getElem? (i := 488) (by decide +kernel)⟩
theorem lw_p27 : lw_okq (⟨"FacingDoors$Sights", "dueOf", "(I)I"⟩, 2) := ⟨⟨by decide +kernel, by decide +kernel⟩, List.mem_of_getElem? (i := 199) (by decide +kernel), List.mem_of_getElem? (i := 492) (by decide +kernel), List.mem_of_getElem? (i := 493) (by decide +kernel)⟩
theorem lw_p28 : lw_okq (⟨"FacingDoors$Sights", "dueIfOpen", "(I)I"⟩, 2) := ⟨⟨by decide +kernel, by decide +kernel⟩, List.mem_of_getElem? (i := 199) (by decide +kernel), List.mem_of_getElem? (i := 496) (by decide +kernel), List.mem_of_getElem? (i := 497) (by decide +kernel)⟩
theorem lw_p29 : lw_okq (⟨"FacingDoors$Sights", "hasWayIn", "(II)Z"⟩, 2) := ⟨⟨by decide +kernel, by decide +kernel⟩, List.mem_of_getElem? (i := 199) (by decide +kernel), List.mem_of_getElem? (i := 503) (by decide +kernel), List.mem_of_getElem? (i := 504) (by decide +kernel)⟩
theorem lw_p30 : lw_okq (⟨"FacingDoors$Sights", "isVacant", "(II)Z"⟩, 2) := ⟨⟨by decide +kernel, by decide +kernel⟩, List.mem_of_getElem? (i := 199) (by decide +kernel), List.mem_of_getElem? (i := 507) (by decide +kernel), List.mem_of_getElem? (i := 508) (by decide +kernel)⟩
theorem lw_p31 : lw_okq (⟨"FacingDoors$Sights", "seenBy", "(I)I"⟩, 2) := ⟨⟨by decide +kernel, by decide +kernel⟩, List.mem_of_getElem? (i := 199) (by decide +kernel), List.mem_of_getElem? (i := 513) (by decide +kernel), List.mem_of_getElem? (i := 514) (by decide +kernel)⟩
def lw_privs_2 : List (MethodName × Nat) := [(⟨"FacingDoors$Reader", "takePrice", "()Z"⟩, 9), (⟨"FacingDoors$Reader", "takeSight", "()Z"⟩, 9), (⟨"FacingDoors$Plan", "copyFrom", "(LFacingDoors$Plan;)V"⟩, 9), (⟨"FacingDoors$Scene", "begin", "(LFacingDoors$Plan;)V"⟩, 8), (⟨"FacingDoors$Scene", "doorOn", "(III)I"⟩, 8), (⟨"FacingDoors$Scene", "hasCart", "(II)Z"⟩, 8), (⟨"FacingDoors$Plan", "hasDoor", "(I)Z"⟩, 9), (⟨"FacingDoors$Scene", "isOpen", "(I)Z"⟩, 8), (⟨"FacingDoors$Sights", "seesWhom", "(I)I"⟩, 2), (⟨"FacingDoors$Sights", "wouldSee", "(II)I"⟩, 2), (⟨"FacingDoors$Sights", "hidesWhatIsBehind", "(I)Z"⟩, 2), (⟨"FacingDoors$Sights", "dueOf", "(I)I"⟩, 2), (⟨"FacingDoors$Sights", "dueIfOpen", "(I)I"⟩, 2), (⟨"FacingDoors$Sights", "hasWayIn", "(II)Z"⟩, 2), (⟨"FacingDoors$Sights", "isVacant", "(II)Z"⟩, 2), (⟨"FacingDoors$Sights", "seenBy", "(I)I"⟩, 2)]
theorem lw_r2 : ∀ q ∈ lw_privs_2, lw_okq q := List.forall_mem_cons.mpr ⟨lw_p16, List.forall_mem_cons.mpr ⟨lw_p17, List.forall_mem_cons.mpr ⟨lw_p18, List.forall_mem_cons.mpr ⟨lw_p19, List.forall_mem_cons.mpr ⟨lw_p20, List.forall_mem_cons.mpr ⟨lw_p21, List.forall_mem_cons.mpr ⟨lw_p22, List.forall_mem_cons.mpr ⟨lw_p23, List.forall_mem_cons.mpr ⟨lw_p24, List.forall_mem_cons.mpr ⟨lw_p25, List.forall_mem_cons.mpr ⟨lw_p26, List.forall_mem_cons.mpr ⟨lw_p27, List.forall_mem_cons.mpr ⟨lw_p28, List.forall_mem_cons.mpr ⟨lw_p29, List.forall_mem_cons.mpr ⟨lw_p30, List.forall_mem_cons.mpr ⟨lw_p31, fun _ h => absurd h List.not_mem_nil⟩⟩⟩⟩⟩⟩⟩⟩⟩⟩⟩⟩⟩⟩⟩⟩
theorem lw_p32 : lw_okq (⟨"FacingDoors$History", "push", "(LFacingDoors$Scene;)V"⟩, 2) := ⟨⟨by decide +kernel, by decide +kernel⟩, List.mem_of_getElem? (i := 180) (by decide +kernel), List.mem_of_getElem? (i := 526) (by decide +kernel), List.mem_of_getElem? (i := 527) (by decide +kernel)⟩
theorem lw_p33 : lw_okq (⟨"FacingDoors$History", "loseOldest", "()V"⟩, 2) := ⟨⟨by decide +kernel, by decide +kernel⟩, List.mem_of_getElem? (i := 180) (by decide +kernel), List.mem_of_getElem? (i := 530) (by decide +kernel), List.mem_of_getElem? (i := 531) (by decide +kernel)⟩
theorem lw_p34 : lw_okq (⟨"FacingDoors$Scene", "copyFrom", "(LFacingDoors$Scene;)V"⟩, 8) := ⟨⟨by decide +kernel, by decide +kernel⟩, List.mem_of_getElem? (i := 133) (by decide +kernel), List.mem_of_getElem? (i := 534) (by decide +kernel), List.mem_of_getElem? (i := 535) (by decide +kernel)⟩
theorem lw_p35 : lw_okq (⟨"FacingDoors$Sights", "dueOfAll", "()I"⟩, 2) := ⟨⟨by decide +kernel, by decide +kernel⟩, List.mem_of_getElem? (i := 199) (by decide +kernel), List.mem_of_getElem? (i := 568) (by decide +kernel), List.mem_of_getElem? (i := 569) (by decide +kernel)⟩
theorem lw_p36 : lw_okq (⟨"FacingDoors$History", "pop", "(LFacingDoors$Scene;)V"⟩, 2) := ⟨⟨by decide +kernel, by decide +kernel⟩, List.mem_of_getElem? (i := 180) (by decide +kernel), List.mem_of_getElem? (i := 586) (by decide +kernel), List.mem_of_getElem? (i := 587) (by decide +kernel)⟩
theorem lw_p37 : lw_okq (⟨"FacingDoors$Sights", "whoHasWayIn", "()I"⟩, 2) := ⟨⟨by decide +kernel, by decide +kernel⟩, List.mem_of_getElem? (i := 199) (by decide +kernel), List.mem_of_getElem? (i := 594) (by decide +kernel), List.mem_of_getElem? (i := 595) (by decide +kernel)⟩
theorem lw_p38 : lw_okq (⟨"FacingDoors$Sights", "pairs", "()I"⟩, 2) := ⟨⟨by decide +kernel, by decide +kernel⟩, List.mem_of_getElem? (i := 199) (by decide +kernel), List.mem_of_getElem? (i := 599) (by decide +kernel), List.mem_of_getElem? (i := 600) (by decide +kernel)⟩
theorem lw_p39 : lw_okq (⟨"FacingDoors$Scene", "owedByAll", "(I)I"⟩, 8) := ⟨⟨by decide +kernel, by decide +kernel⟩, List.mem_of_getElem? (i := 133) (by decide +kernel), List.mem_of_getElem? (i := 603) (by decide +kernel), List.mem_of_getElem? (i := 604) (by decide +kernel)⟩
theorem lw_p40 : lw_okq (⟨"FacingDoors$TurnSearch", "run", "()Z"⟩, 10) := ⟨⟨by decide +kernel, by decide +kernel⟩, List.mem_of_getElem? (i := 212) (by decide +kernel), List.mem_of_getElem? (i := 611) (by decide +kernel), List.mem_of_getElem? (i := 612) (by decide +kernel)⟩
theorem lw_p41 : lw_okq (⟨"FacingDoors$TurnSearch", "choose", "(III)V"⟩, 10) := ⟨⟨by decide +kernel, by decide +kernel⟩, List.mem_of_getElem? (i := 212) (by decide +kernel), List.mem_of_getElem? (i := 617) (by decide +kernel), List.mem_of_getElem? (i := 618) (by decide +kernel)⟩
theorem lw_p42 : lw_okq (⟨"FacingDoors$TurnSearch", "isBetter", "(II)Z"⟩, 10) := ⟨⟨by decide +kernel, by decide +kernel⟩, List.mem_of_getElem? (i := 212) (by decide +kernel), List.mem_of_getElem? (i := 621) (by decide +kernel), List.mem_of_getElem? (i := 622) (by decide +kernel)⟩
theorem lw_p43 : lw_okq (⟨"FacingDoors$TurnSearch", "chooseEachWay", "(III)V"⟩, 10) := ⟨⟨by decide +kernel, by decide +kernel⟩, List.mem_of_getElem? (i := 212) (by decide +kernel), List.mem_of_getElem? (i := 625) (by decide +kernel), List.mem_of_getElem? (i := 626) (by decide +kernel)⟩
theorem lw_p44 : lw_okq (⟨"FacingDoors$TurnSearch", "dueThatComes", "(I)I"⟩, 10) := ⟨⟨by decide +kernel, by decide +kernel⟩, List.mem_of_getElem? (i := 212) (by decide +kernel), List.mem_of_getElem? (i := 629) (by decide +kernel), List.mem_of_getElem? (i := 630) (by decide +kernel)⟩
theorem lw_p45 : lw_okq (⟨"FacingDoors$TurnSearch", "priceFor", "(I)I"⟩, 10) := ⟨⟨by decide +kernel, by decide +kernel⟩, List.mem_of_getElem? (i := 212) (by decide +kernel), List.mem_of_getElem? (i := 633) (by decide +kernel), List.mem_of_getElem? (i := 634) (by decide +kernel)⟩
theorem lw_p46 : lw_okq (⟨"FacingDoors", "addRelief", "(I)V"⟩, 13) := ⟨⟨by decide +kernel, by decide +kernel⟩, List.mem_of_getElem? (i := 17) (by decide +kernel), List.mem_of_getElem? (i := 645) (by decide +kernel), List.mem_of_getElem? (i := 646) (by decide +kernel)⟩
theorem lw_p47 : lw_okq (⟨"FacingDoors$Sights", "eachCanHaveWayIn", "()Z"⟩, 2) := ⟨⟨by decide +kernel, by decide +kernel⟩, List.mem_of_getElem? (i := 199) (by decide +kernel), List.mem_of_getElem? (i := 653) (by decide +kernel), List.mem_of_getElem? (i := 654) (by decide +kernel)⟩
def lw_privs_3 : List (MethodName × Nat) := [(⟨"FacingDoors$History", "push", "(LFacingDoors$Scene;)V"⟩, 2), (⟨"FacingDoors$History", "loseOldest", "()V"⟩, 2), (⟨"FacingDoors$Scene", "copyFrom", "(LFacingDoors$Scene;)V"⟩, 8), (⟨"FacingDoors$Sights", "dueOfAll", "()I"⟩, 2), (⟨"FacingDoors$History", "pop", "(LFacingDoors$Scene;)V"⟩, 2), (⟨"FacingDoors$Sights", "whoHasWayIn", "()I"⟩, 2), (⟨"FacingDoors$Sights", "pairs", "()I"⟩, 2), (⟨"FacingDoors$Scene", "owedByAll", "(I)I"⟩, 8), (⟨"FacingDoors$TurnSearch", "run", "()Z"⟩, 10), (⟨"FacingDoors$TurnSearch", "choose", "(III)V"⟩, 10), (⟨"FacingDoors$TurnSearch", "isBetter", "(II)Z"⟩, 10), (⟨"FacingDoors$TurnSearch", "chooseEachWay", "(III)V"⟩, 10), (⟨"FacingDoors$TurnSearch", "dueThatComes", "(I)I"⟩, 10), (⟨"FacingDoors$TurnSearch", "priceFor", "(I)I"⟩, 10), (⟨"FacingDoors", "addRelief", "(I)V"⟩, 13), (⟨"FacingDoors$Sights", "eachCanHaveWayIn", "()Z"⟩, 2)]
theorem lw_r3 : ∀ q ∈ lw_privs_3, lw_okq q := List.forall_mem_cons.mpr ⟨lw_p32, List.forall_mem_cons.mpr ⟨lw_p33, List.forall_mem_cons.mpr ⟨lw_p34, List.forall_mem_cons.mpr ⟨lw_p35, List.forall_mem_cons.mpr ⟨lw_p36, List.forall_mem_cons.mpr ⟨lw_p37, List.forall_mem_cons.mpr ⟨lw_p38, List.forall_mem_cons.mpr ⟨lw_p39, List.forall_mem_cons.mpr ⟨lw_p40, List.forall_mem_cons.mpr ⟨lw_p41, List.forall_mem_cons.mpr ⟨lw_p42, List.forall_mem_cons.mpr ⟨lw_p43, List.forall_mem_cons.mpr ⟨lw_p44, List.forall_mem_cons.mpr ⟨lw_p45, List.forall_mem_cons.mpr ⟨lw_p46, List.forall_mem_cons.mpr ⟨lw_p47, fun _ h => absurd h List.not_mem_nil⟩⟩⟩⟩⟩⟩⟩⟩⟩⟩⟩⟩⟩⟩⟩⟩
theorem lw_p48 : lw_okq (⟨"FacingDoors$Sights", "mustSee", "(II)Z"⟩, 2) := ⟨⟨by decide +kernel, by decide +kernel⟩, List.mem_of_getElem? (i := 199) (by decide +kernel), List.mem_of_getElem? (i := 657) (by decide +kernel), List.mem_of_getElem? (i := 658) (by decide +kernel)⟩
theorem lw_p49 : lw_okq (⟨"FacingDoors$Told", "add", "(II)V"⟩, 3) := ⟨⟨by decide +kernel, by decide +kernel⟩, List.mem_of_getElem? (i := 253) (by decide +kernel), List.mem_of_getElem? (i := 668) (by decide +kernel), List.mem_of_getElem? (i := 669) (by decide +kernel)⟩
theorem lw_p50 : lw_okq (⟨"FacingDoors", "lookUpDues", "()V"⟩, 13) := ⟨⟨by decide +kernel, by decide +kernel⟩, List.mem_of_getElem? (i := 17) (by decide +kernel), List.mem_of_getElem? (i := 680) (by decide +kernel), List.mem_of_getElem? (i := 681) (by decide +kernel)⟩
theorem lw_p51 : lw_okq (⟨"FacingDoors$Told", "agreesWith", "(I[I)Z"⟩, 3) := ⟨⟨by decide +kernel, by decide +kernel⟩, List.mem_of_getElem? (i := 253) (by decide +kernel), List.mem_of_getElem? (i := 685) (by decide +kernel), List.mem_of_getElem? (i := 686) (by decide +kernel)⟩
theorem lw_p52 : lw_okq (⟨"FacingDoors", "dueOfSet", "(I)I"⟩, 13) := ⟨⟨by decide +kernel, by decide +kernel⟩, List.mem_of_getElem? (i := 17) (by decide +kernel), List.mem_of_getElem? (i := 697) (by decide +kernel), List.mem_of_getElem? (i := 698) (by decide +kernel)⟩
theorem lw_p53 : lw_okq (⟨"FacingDoors", "weightOfSet", "(II)I"⟩, 13) := ⟨⟨by decide +kernel, by decide +kernel⟩, List.mem_of_getElem? (i := 17) (by decide +kernel), List.mem_of_getElem? (i := 702) (by decide +kernel), List.mem_of_getElem? (i := 703) (by decide +kernel)⟩
theorem lw_p54 : lw_okq (⟨"FacingDoors", "doorMark", "(I)I"⟩, 13) := ⟨⟨by decide +kernel, by decide +kernel⟩, List.mem_of_getElem? (i := 17) (by decide +kernel), List.mem_of_getElem? (i := 721) (by decide +kernel), List.mem_of_getElem? (i := 722) (by decide +kernel)⟩
theorem lw_p55 : lw_okq (⟨"FacingDoors", "porchMark", "(I)I"⟩, 13) := ⟨⟨by decide +kernel, by decide +kernel⟩, List.mem_of_getElem? (i := 17) (by decide +kernel), List.mem_of_getElem? (i := 725) (by decide +kernel), List.mem_of_getElem? (i := 726) (by decide +kernel)⟩
theorem lw_p56 : lw_okq (⟨"FacingDoors", "gateMark", "(I)I"⟩, 13) := ⟨⟨by decide +kernel, by decide +kernel⟩, List.mem_of_getElem? (i := 17) (by decide +kernel), List.mem_of_getElem? (i := 736) (by decide +kernel), List.mem_of_getElem? (i := 737) (by decide +kernel)⟩
theorem lw_p57 : lw_okq (⟨"FacingDoors", "bayMark", "(I)I"⟩, 13) := ⟨⟨by decide +kernel, by decide +kernel⟩, List.mem_of_getElem? (i := 17) (by decide +kernel), List.mem_of_getElem? (i := 741) (by decide +kernel), List.mem_of_getElem? (i := 742) (by decide +kernel)⟩
theorem lw_p58 : lw_okq (⟨"FacingDoors", "schoolMark", "(I)I"⟩, 13) := ⟨⟨by decide +kernel, by decide +kernel⟩, List.mem_of_getElem? (i := 17) (by decide +kernel), List.mem_of_getElem? (i := 746) (by decide +kernel), List.mem_of_getElem? (i := 747) (by decide +kernel)⟩
theorem lw_p59 : lw_okq (⟨"FacingDoors", "hatchMark", "(I)I"⟩, 13) := ⟨⟨by decide +kernel, by decide +kernel⟩, List.mem_of_getElem? (i := 17) (by decide +kernel), List.mem_of_getElem? (i := 751) (by decide +kernel), List.mem_of_getElem? (i := 752) (by decide +kernel)⟩
theorem lw_p60 : lw_okq (⟨"FacingDoors$Image", "take", "(LFacingDoors$Scene;LFacingDoors$History;)V"⟩, 3) := ⟨⟨by decide +kernel, by decide +kernel⟩, List.mem_of_getElem? (i := 269) (by decide +kernel), List.mem_of_getElem? (i := 763) (by decide +kernel), List.mem_of_getElem? (i := 764) (by decide +kernel)⟩
theorem lw_p61 : lw_okq (⟨"FacingDoors$History", "copyFrom", "(LFacingDoors$History;)V"⟩, 2) := ⟨⟨by decide +kernel, by decide +kernel⟩, List.mem_of_getElem? (i := 180) (by decide +kernel), List.mem_of_getElem? (i := 768) (by decide +kernel), List.mem_of_getElem? (i := 769) (by decide +kernel)⟩
theorem lw_p62 : lw_okq (⟨"FacingDoors$Image", "give", "(LFacingDoors$Scene;LFacingDoors$History;)V"⟩, 3) := ⟨⟨by decide +kernel, by decide +kernel⟩, List.mem_of_getElem? (i := 269) (by decide +kernel), List.mem_of_getElem? (i := 776) (by decide +kernel), List.mem_of_getElem? (i := 777) (by decide +kernel)⟩
theorem lw_p63 : lw_okq (⟨"FacingDoorsModel", "plain", "()V"⟩, 24) := ⟨⟨by decide +kernel, by decide +kernel⟩, List.mem_of_getElem? (i := 788) (by decide +kernel), List.mem_of_getElem? (i := 794) (by decide +kernel), List.mem_of_getElem? (i := 795) (by decide +kernel)⟩
def lw_privs_4 : List (MethodName × Nat) := [(⟨"FacingDoors$Sights", "mustSee", "(II)Z"⟩, 2), (⟨"FacingDoors$Told", "add", "(II)V"⟩, 3), (⟨"FacingDoors", "lookUpDues", "()V"⟩, 13), (⟨"FacingDoors$Told", "agreesWith", "(I[I)Z"⟩, 3), (⟨"FacingDoors", "dueOfSet", "(I)I"⟩, 13), (⟨"FacingDoors", "weightOfSet", "(II)I"⟩, 13), (⟨"FacingDoors", "doorMark", "(I)I"⟩, 13), (⟨"FacingDoors", "porchMark", "(I)I"⟩, 13), (⟨"FacingDoors", "gateMark", "(I)I"⟩, 13), (⟨"FacingDoors", "bayMark", "(I)I"⟩, 13), (⟨"FacingDoors", "schoolMark", "(I)I"⟩, 13), (⟨"FacingDoors", "hatchMark", "(I)I"⟩, 13), (⟨"FacingDoors$Image", "take", "(LFacingDoors$Scene;LFacingDoors$History;)V"⟩, 3), (⟨"FacingDoors$History", "copyFrom", "(LFacingDoors$History;)V"⟩, 2), (⟨"FacingDoors$Image", "give", "(LFacingDoors$Scene;LFacingDoors$History;)V"⟩, 3), (⟨"FacingDoorsModel", "plain", "()V"⟩, 24)]
theorem lw_r4 : ∀ q ∈ lw_privs_4, lw_okq q := List.forall_mem_cons.mpr ⟨lw_p48, List.forall_mem_cons.mpr ⟨lw_p49, List.forall_mem_cons.mpr ⟨lw_p50, List.forall_mem_cons.mpr ⟨lw_p51, List.forall_mem_cons.mpr ⟨lw_p52, List.forall_mem_cons.mpr ⟨lw_p53, List.forall_mem_cons.mpr ⟨lw_p54, List.forall_mem_cons.mpr ⟨lw_p55, List.forall_mem_cons.mpr ⟨lw_p56, List.forall_mem_cons.mpr ⟨lw_p57, List.forall_mem_cons.mpr ⟨lw_p58, List.forall_mem_cons.mpr ⟨lw_p59, List.forall_mem_cons.mpr ⟨lw_p60, List.forall_mem_cons.mpr ⟨lw_p61, List.forall_mem_cons.mpr ⟨lw_p62, List.forall_mem_cons.mpr ⟨lw_p63, fun _ h => absurd h List.not_mem_nil⟩⟩⟩⟩⟩⟩⟩⟩⟩⟩⟩⟩⟩⟩⟩⟩
theorem lw_p64 : lw_okq (⟨"FacingDoorsModel", "takeDraft", "()V"⟩, 24) := ⟨⟨by decide +kernel, by decide +kernel⟩, List.mem_of_getElem? (i := 788) (by decide +kernel), List.mem_of_getElem? (i := 798) (by decide +kernel), List.mem_of_getElem? (i := 799) (by decide +kernel)⟩
theorem lw_p65 : lw_okq (⟨"FacingDoorsModel", "step", "()V"⟩, 24) := ⟨⟨by decide +kernel, by decide +kernel⟩, List.mem_of_getElem? (i := 788) (by decide +kernel), List.mem_of_getElem? (i := 891) (by decide +kernel), List.mem_of_getElem? (i := 892) (by decide +kernel)⟩
theorem lw_p66 : lw_okq (⟨"FacingDoorsModel", "here", "()I"⟩, 24) := ⟨⟨by decide +kernel, by decide +kernel⟩, List.mem_of_getElem? (i := 788) (by decide +kernel), List.mem_of_getElem? (i := 895) (by decide +kernel), List.mem_of_getElem? (i := 896) (by decide +kernel)⟩
theorem lw_p67 : lw_okq (⟨"FacingDoorsModel", "mayBe", "(II)Z"⟩, 24) := ⟨⟨by decide +kernel, by decide +kernel⟩, List.mem_of_getElem? (i := 788) (by decide +kernel), List.mem_of_getElem? (i := 899) (by decide +kernel), List.mem_of_getElem? (i := 900) (by decide +kernel)⟩
theorem lw_p68 : lw_okq (⟨"FacingDoorsModel", "due", "(Z)I"⟩, 24) := ⟨⟨by decide +kernel, by decide +kernel⟩, List.mem_of_getElem? (i := 788) (by decide +kernel), List.mem_of_getElem? (i := 903) (by decide +kernel), List.mem_of_getElem? (i := 904) (by decide +kernel)⟩
theorem lw_p69 : lw_okq (⟨"FacingDoorsModel", "readRow", "(I)V"⟩, 24) := ⟨⟨by decide +kernel, by decide +kernel⟩, List.mem_of_getElem? (i := 788) (by decide +kernel), List.mem_of_getElem? (i := 907) (by decide +kernel), List.mem_of_getElem? (i := 908) (by decide +kernel)⟩
theorem lw_p70 : lw_okq (⟨"FacingDoorsModel", "number", "(II)I"⟩, 24) := ⟨⟨by decide +kernel, by decide +kernel⟩, List.mem_of_getElem? (i := 788) (by decide +kernel), List.mem_of_getElem? (i := 911) (by decide +kernel), List.mem_of_getElem? (i := 912) (by decide +kernel)⟩
theorem lw_p71 : lw_okq (⟨"FacingDoorsModel", "isFreeDraft", "(I)Z"⟩, 24) := ⟨⟨by decide +kernel, by decide +kernel⟩, List.mem_of_getElem? (i := 788) (by decide +kernel), List.mem_of_getElem? (i := 918) (by decide +kernel), List.mem_of_getElem? (i := 919) (by decide +kernel)⟩
theorem lw_p72 : lw_okq (⟨"FacingDoorsModel", "isCell", "(II)Z"⟩, 24) := ⟨⟨by decide +kernel, by decide +kernel⟩, List.mem_of_getElem? (i := 788) (by decide +kernel), List.mem_of_getElem? (i := 926) (by decide +kernel), List.mem_of_getElem? (i := 927) (by decide +kernel)⟩
theorem lw_p73 : lw_okq (⟨"FacingDoorsModel", "doorAt", "(II)I"⟩, 24) := ⟨⟨by decide +kernel, by decide +kernel⟩, List.mem_of_getElem? (i := 788) (by decide +kernel), List.mem_of_getElem? (i := 930) (by decide +kernel), List.mem_of_getElem? (i := 931) (by decide +kernel)⟩
theorem lw_p74 : lw_okq (⟨"FacingDoorsModel", "hasCart", "(II)Z"⟩, 24) := ⟨⟨by decide +kernel, by decide +kernel⟩, List.mem_of_getElem? (i := 788) (by decide +kernel), List.mem_of_getElem? (i := 934) (by decide +kernel), List.mem_of_getElem? (i := 935) (by decide +kernel)⟩
theorem lw_p75 : lw_okq (⟨"FacingDoorsModel", "isDoor", "(I)Z"⟩, 24) := ⟨⟨by decide +kernel, by decide +kernel⟩, List.mem_of_getElem? (i := 788) (by decide +kernel), List.mem_of_getElem? (i := 942) (by decide +kernel), List.mem_of_getElem? (i := 943) (by decide +kernel)⟩
theorem lw_p76 : lw_okq (⟨"FacingDoorsModel", "take", "()V"⟩, 24) := ⟨⟨by decide +kernel, by decide +kernel⟩, List.mem_of_getElem? (i := 788) (by decide +kernel), List.mem_of_getElem? (i := 946) (by decide +kernel), List.mem_of_getElem? (i := 947) (by decide +kernel)⟩
theorem lw_p77 : lw_okq (⟨"FacingDoorsModel", "sees", "(I)I"⟩, 24) := ⟨⟨by decide +kernel, by decide +kernel⟩, List.mem_of_getElem? (i := 788) (by decide +kernel), List.mem_of_getElem? (i := 950) (by decide +kernel), List.mem_of_getElem? (i := 951) (by decide +kernel)⟩
theorem lw_p78 : lw_okq (⟨"FacingDoorsModel", "dueOf", "(I)I"⟩, 24) := ⟨⟨by decide +kernel, by decide +kernel⟩, List.mem_of_getElem? (i := 788) (by decide +kernel), List.mem_of_getElem? (i := 961) (by decide +kernel), List.mem_of_getElem? (i := 962) (by decide +kernel)⟩
theorem lw_p79 : lw_okq (⟨"FacingDoorsModel", "hasWay", "(I)Z"⟩, 24) := ⟨⟨by decide +kernel, by decide +kernel⟩, List.mem_of_getElem? (i := 788) (by decide +kernel), List.mem_of_getElem? (i := 965) (by decide +kernel), List.mem_of_getElem? (i := 966) (by decide +kernel)⟩
def lw_privs_5 : List (MethodName × Nat) := [(⟨"FacingDoorsModel", "takeDraft", "()V"⟩, 24), (⟨"FacingDoorsModel", "step", "()V"⟩, 24), (⟨"FacingDoorsModel", "here", "()I"⟩, 24), (⟨"FacingDoorsModel", "mayBe", "(II)Z"⟩, 24), (⟨"FacingDoorsModel", "due", "(Z)I"⟩, 24), (⟨"FacingDoorsModel", "readRow", "(I)V"⟩, 24), (⟨"FacingDoorsModel", "number", "(II)I"⟩, 24), (⟨"FacingDoorsModel", "isFreeDraft", "(I)Z"⟩, 24), (⟨"FacingDoorsModel", "isCell", "(II)Z"⟩, 24), (⟨"FacingDoorsModel", "doorAt", "(II)I"⟩, 24), (⟨"FacingDoorsModel", "hasCart", "(II)Z"⟩, 24), (⟨"FacingDoorsModel", "isDoor", "(I)Z"⟩, 24), (⟨"FacingDoorsModel", "take", "()V"⟩, 24), (⟨"FacingDoorsModel", "sees", "(I)I"⟩, 24), (⟨"FacingDoorsModel", "dueOf", "(I)I"⟩, 24), (⟨"FacingDoorsModel", "hasWay", "(I)Z"⟩, 24)]
theorem lw_r5 : ∀ q ∈ lw_privs_5, lw_okq q := List.forall_mem_cons.mpr ⟨lw_p64, List.forall_mem_cons.mpr ⟨lw_p65, List.forall_mem_cons.mpr ⟨lw_p66, List.forall_mem_cons.mpr ⟨lw_p67, List.forall_mem_cons.mpr ⟨lw_p68, List.forall_mem_cons.mpr ⟨lw_p69, List.forall_mem_cons.mpr ⟨lw_p70, List.forall_mem_cons.mpr ⟨lw_p71, List.forall_mem_cons.mpr ⟨lw_p72, List.forall_mem_cons.mpr ⟨lw_p73, List.forall_mem_cons.mpr ⟨lw_p74, List.forall_mem_cons.mpr ⟨lw_p75, List.forall_mem_cons.mpr ⟨lw_p76, List.forall_mem_cons.mpr ⟨lw_p77, List.forall_mem_cons.mpr ⟨lw_p78, List.forall_mem_cons.mpr ⟨lw_p79, fun _ h => absurd h List.not_mem_nil⟩⟩⟩⟩⟩⟩⟩⟩⟩⟩⟩⟩⟩⟩⟩⟩
theorem lw_p80 : lw_okq (⟨"FacingDoorsModel", "seenBy", "(I)I"⟩, 24) := ⟨⟨by decide +kernel, by decide +kernel⟩, List.mem_of_getElem? (i := 788) (by decide +kernel), List.mem_of_getElem? (i := 969) (by decide +kernel), List.mem_of_getElem? (i := 970) (by decide +kernel)⟩
theorem lw_p81 : lw_okq (⟨"FacingDoorsModel", "know", "()V"⟩, 24) := ⟨⟨by decide +kernel, by decide +kernel⟩, List.mem_of_getElem? (i := 788) (by decide +kernel), List.mem_of_getElem? (i := 977) (by decide +kernel), List.mem_of_getElem? (i := 978) (by decide +kernel)⟩
theorem lw_p82 : lw_okq (⟨"FacingDoorsModel", "carts", "()I"⟩, 24) := ⟨⟨by decide +kernel, by decide +kernel⟩, List.mem_of_getElem? (i := 788) (by decide +kernel), List.mem_of_getElem? (i := 993) (by decide +kernel), List.mem_of_getElem? (i := 994) (by decide +kernel)⟩
theorem lw_p83 : lw_okq (⟨"FacingDoorsModel", "set", "(II)I"⟩, 24) := ⟨⟨by decide +kernel, by decide +kernel⟩, List.mem_of_getElem? (i := 788) (by decide +kernel), List.mem_of_getElem? (i := 1004) (by decide +kernel), List.mem_of_getElem? (i := 1005) (by decide +kernel)⟩
theorem lw_p84 : lw_okq (⟨"FacingDoorsModel", "duesNow", "()I"⟩, 24) := ⟨⟨by decide +kernel, by decide +kernel⟩, List.mem_of_getElem? (i := 788) (by decide +kernel), List.mem_of_getElem? (i := 1008) (by decide +kernel), List.mem_of_getElem? (i := 1009) (by decide +kernel)⟩
theorem lw_p85 : lw_okq (⟨"FacingDoorsModel", "dues", "()I"⟩, 24) := ⟨⟨by decide +kernel, by decide +kernel⟩, List.mem_of_getElem? (i := 788) (by decide +kernel), List.mem_of_getElem? (i := 1012) (by decide +kernel), List.mem_of_getElem? (i := 1013) (by decide +kernel)⟩
theorem lw_p86 : lw_okq (⟨"FacingDoorsModel", "codes", "()I"⟩, 24) := ⟨⟨by decide +kernel, by decide +kernel⟩, List.mem_of_getElem? (i := 788) (by decide +kernel), List.mem_of_getElem? (i := 1036) (by decide +kernel), List.mem_of_getElem? (i := 1037) (by decide +kernel)⟩
theorem lw_p87 : lw_okq (⟨"FacingDoorsModel", "takeWays", "(I)I"⟩, 24) := ⟨⟨by decide +kernel, by decide +kernel⟩, List.mem_of_getElem? (i := 788) (by decide +kernel), List.mem_of_getElem? (i := 1040) (by decide +kernel), List.mem_of_getElem? (i := 1041) (by decide +kernel)⟩
theorem lw_p88 : lw_okq (⟨"FacingDoorsModel", "allHaveWays", "()Z"⟩, 24) := ⟨⟨by decide +kernel, by decide +kernel⟩, List.mem_of_getElem? (i := 788) (by decide +kernel), List.mem_of_getElem? (i := 1044) (by decide +kernel), List.mem_of_getElem? (i := 1045) (by decide +kernel)⟩
theorem lw_p89 : lw_okq (⟨"FacingDoorsModel", "sum", "(II)I"⟩, 24) := ⟨⟨by decide +kernel, by decide +kernel⟩, List.mem_of_getElem? (i := 788) (by decide +kernel), List.mem_of_getElem? (i := 1072) (by decide +kernel), List.mem_of_getElem? (i := 1073) (by decide +kernel)⟩
theorem lw_p90 : lw_okq (⟨"FacingDoorsModel", "part", "(II)I"⟩, 24) := ⟨⟨by decide +kernel, by decide +kernel⟩, List.mem_of_getElem? (i := 788) (by decide +kernel), List.mem_of_getElem? (i := 1076) (by decide +kernel), List.mem_of_getElem? (i := 1077) (by decide +kernel)⟩
def lw_privs_6 : List (MethodName × Nat) := [(⟨"FacingDoorsModel", "seenBy", "(I)I"⟩, 24), (⟨"FacingDoorsModel", "know", "()V"⟩, 24), (⟨"FacingDoorsModel", "carts", "()I"⟩, 24), (⟨"FacingDoorsModel", "set", "(II)I"⟩, 24), (⟨"FacingDoorsModel", "duesNow", "()I"⟩, 24), (⟨"FacingDoorsModel", "dues", "()I"⟩, 24), (⟨"FacingDoorsModel", "codes", "()I"⟩, 24), (⟨"FacingDoorsModel", "takeWays", "(I)I"⟩, 24), (⟨"FacingDoorsModel", "allHaveWays", "()Z"⟩, 24), (⟨"FacingDoorsModel", "sum", "(II)I"⟩, 24), (⟨"FacingDoorsModel", "part", "(II)I"⟩, 24)]
theorem lw_r6 : ∀ q ∈ lw_privs_6, lw_okq q := List.forall_mem_cons.mpr ⟨lw_p80, List.forall_mem_cons.mpr ⟨lw_p81, List.forall_mem_cons.mpr ⟨lw_p82, List.forall_mem_cons.mpr ⟨lw_p83, List.forall_mem_cons.mpr ⟨lw_p84, List.forall_mem_cons.mpr ⟨lw_p85, List.forall_mem_cons.mpr ⟨lw_p86, List.forall_mem_cons.mpr ⟨lw_p87, List.forall_mem_cons.mpr ⟨lw_p88, List.forall_mem_cons.mpr ⟨lw_p89, List.forall_mem_cons.mpr ⟨lw_p90, fun _ h => absurd h List.not_mem_nil⟩⟩⟩⟩⟩⟩⟩⟩⟩⟩⟩
def lw_privs : List (MethodName × Nat) := lw_privs_1 ++ (lw_privs_2 ++ (lw_privs_3 ++ (lw_privs_4 ++ (lw_privs_5 ++ (lw_privs_6)))))
def lw_tbl : List Cond := k2_sels lw_privs ++ tables_1
theorem lw_privs_ok : ∀ q ∈ lw_privs, lw_okq q := by
  show ∀ q ∈ lw_privs_1 ++ (lw_privs_2 ++ (lw_privs_3 ++ (lw_privs_4 ++ (lw_privs_5 ++ (lw_privs_6))))), lw_okq q
  exact List.forall_mem_append.mpr ⟨lw_r1, List.forall_mem_append.mpr ⟨lw_r2, List.forall_mem_append.mpr ⟨lw_r3, List.forall_mem_append.mpr ⟨lw_r4, List.forall_mem_append.mpr ⟨lw_r5, lw_r6⟩⟩⟩⟩⟩
end
section
-- classes: names, fields in the order of their slots
def fd_T0 : u_T := fun k => match k with
  | 0 => ("FacingDoors", "text", "LFacingDoors$Text;", true)
  | 1 => ("FacingDoors", "plan", "LFacingDoors$Plan;", true)
  | 2 => ("FacingDoors", "draft", "LFacingDoors$Plan;", true)
  | 3 => ("FacingDoors", "reader", "LFacingDoors$Reader;", true)
  | 4 => ("FacingDoors", "scene", "LFacingDoors$Scene;", true)
  | 5 => ("FacingDoors", "history", "LFacingDoors$History;", true)
  | 6 => ("FacingDoors", "images", "[LFacingDoors$Image;", true)
  | 7 => ("FacingDoors", "sights", "LFacingDoors$Sights;", true)
  | 8 => ("FacingDoors", "search", "LFacingDoors$TurnSearch;", true)
  | 9 => ("FacingDoors", "told", "LFacingDoors$Told;", true)
  | 10 => ("FacingDoors", "dues", "[I", true)
  | 11 => ("FacingDoors", "relief", "[I", true)
  | _ => ("FacingDoors", "trace", "J", false)
def fd_t0 : Nat → FieldType := fun k => match k with
  | 0 => .object "FacingDoors$Text"
  | 1 => .object "FacingDoors$Plan"
  | 2 => .object "FacingDoors$Plan"
  | 3 => .object "FacingDoors$Reader"
  | 4 => .object "FacingDoors$Scene"
  | 5 => .object "FacingDoors$History"
  | 6 => .array (.object "FacingDoors$Image")
  | 7 => .object "FacingDoors$Sights"
  | 8 => .object "FacingDoors$TurnSearch"
  | 9 => .object "FacingDoors$Told"
  | 10 => .array (.int)
  | 11 => .array (.int)
  | _ => .long
def fd_T1 : u_T := fun k => match k with
  | 0 => ("FacingDoors$History", "scenes", "[LFacingDoors$Scene;", true)
  | _ => ("FacingDoors$History", "size", "I", false)
def fd_t1 : Nat → FieldType := fun k => match k with
  | 0 => .array (.object "FacingDoors$Scene")
  | _ => .int
def fd_T2 : u_T := fun k => match k with
  | 0 => ("FacingDoors$Image", "scene", "LFacingDoors$Scene;", true)
  | 1 => ("FacingDoors$Image", "history", "LFacingDoors$History;", true)
  | _ => ("FacingDoors$Image", "kept", "Z", false)
def fd_t2 : Nat → FieldType := fun k => match k with
  | 0 => .object "FacingDoors$Scene"
  | 1 => .object "FacingDoors$History"
  | _ => .boolean
def fd_T3 : u_T := fun k => match k with
  | 0 => ("FacingDoors$Plan", "wide", "I", false)
  | 1 => ("FacingDoors$Plan", "rows", "I", false)
  | 2 => ("FacingDoors$Plan", "doors", "I", false)
  | 3 => ("FacingDoors$Plan", "price", "I", false)
  | 4 => ("FacingDoors$Plan", "sight", "I", false)
  | 5 => ("FacingDoors$Plan", "ground", "[I", true)
  | 6 => ("FacingDoors$Plan", "doorX", "[I", true)
  | 7 => ("FacingDoors$Plan", "doorY", "[I", true)
  | _ => ("FacingDoors$Plan", "doorFacing", "[I", true)
def fd_t3 : Nat → FieldType := fun k => match k with
  | 0 => .int
  | 1 => .int
  | 2 => .int
  | 3 => .int
  | 4 => .int
  | 5 => .array (.int)
  | 6 => .array (.int)
  | 7 => .array (.int)
  | _ => .array (.int)
def fd_T4 : u_T := fun k => match k with
  | 0 => ("FacingDoors$Reader", "text", "LFacingDoors$Text;", true)
  | 1 => ("FacingDoors$Reader", "plan", "LFacingDoors$Plan;", true)
  | 2 => ("FacingDoors$Reader", "next", "I", false)
  | 3 => ("FacingDoors$Reader", "start", "I", false)
  | 4 => ("FacingDoors$Reader", "token", "I", false)
  | 5 => ("FacingDoors$Reader", "value", "I", false)
  | 6 => ("FacingDoors$Reader", "items", "I", false)
  | 7 => ("FacingDoors$Reader", "priceTold", "Z", false)
  | _ => ("FacingDoors$Reader", "sightTold", "Z", false)
def fd_t4 : Nat → FieldType := fun k => match k with
  | 0 => .object "FacingDoors$Text"
  | 1 => .object "FacingDoors$Plan"
  | 2 => .int
  | 3 => .int
  | 4 => .int
  | 5 => .int
  | 6 => .int
  | 7 => .boolean
  | _ => .boolean
def fd_T5 : u_T := fun k => match k with
  | 0 => ("FacingDoors$Scene", "x", "[I", true)
  | 1 => ("FacingDoors$Scene", "y", "[I", true)
  | 2 => ("FacingDoors$Scene", "facing", "[I", true)
  | 3 => ("FacingDoors$Scene", "owed", "[I", true)
  | 4 => ("FacingDoors$Scene", "openBits", "I", false)
  | 5 => ("FacingDoors$Scene", "carts", "J", false)
  | 6 => ("FacingDoors$Scene", "inLeaf", "Z", false)
  | _ => ("FacingDoors$Scene", "foggy", "Z", false)
def fd_t5 : Nat → FieldType := fun k => match k with
  | 0 => .array (.int)
  | 1 => .array (.int)
  | 2 => .array (.int)
  | 3 => .array (.int)
  | 4 => .int
  | 5 => .long
  | 6 => .boolean
  | _ => .boolean
def fd_T6 : u_T := fun k => match k with
  | 0 => ("FacingDoors$Sights", "plan", "LFacingDoors$Plan;", true)
  | _ => ("FacingDoors$Sights", "scene", "LFacingDoors$Scene;", true)
def fd_t6 : Nat → FieldType := fun k => match k with
  | 0 => .object "FacingDoors$Plan"
  | _ => .object "FacingDoors$Scene"
def fd_T7 : u_T := fun k => match k with
  | 0 => ("FacingDoors$Text", "bytes", "[I", true)
  | _ => ("FacingDoors$Text", "length", "I", false)
def fd_t7 : Nat → FieldType := fun k => match k with
  | 0 => .array (.int)
  | _ => .int
def fd_T8 : u_T := fun k => match k with
  | 0 => ("FacingDoors$Told", "ofDoor", "[I", true)
  | 1 => ("FacingDoors$Told", "wasDue", "[I", true)
  | _ => ("FacingDoors$Told", "size", "I", false)
def fd_t8 : Nat → FieldType := fun k => match k with
  | 0 => .array (.int)
  | 1 => .array (.int)
  | _ => .int
def fd_T9 : u_T := fun k => match k with
  | 0 => ("FacingDoors$TurnSearch", "plan", "LFacingDoors$Plan;", true)
  | 1 => ("FacingDoors$TurnSearch", "scene", "LFacingDoors$Scene;", true)
  | 2 => ("FacingDoors$TurnSearch", "sights", "LFacingDoors$Sights;", true)
  | 3 => ("FacingDoors$TurnSearch", "seen", "[I", true)
  | 4 => ("FacingDoors$TurnSearch", "allowed", "[Z", true)
  | 5 => ("FacingDoors$TurnSearch", "chosen", "[I", true)
  | 6 => ("FacingDoors$TurnSearch", "best", "[I", true)
  | 7 => ("FacingDoors$TurnSearch", "found", "Z", false)
  | 8 => ("FacingDoors$TurnSearch", "leastDue", "I", false)
  | _ => ("FacingDoors$TurnSearch", "fewestTurned", "I", false)
def fd_t9 : Nat → FieldType := fun k => match k with
  | 0 => .object "FacingDoors$Plan"
  | 1 => .object "FacingDoors$Scene"
  | 2 => .object "FacingDoors$Sights"
  | 3 => .array (.int)
  | 4 => .array (.boolean)
  | 5 => .array (.int)
  | 6 => .array (.int)
  | 7 => .boolean
  | 8 => .int
  | _ => .int
def fd_T10 : u_T := fun k => match k with
  | 0 => ("FacingDoorsModel", "trace", "J", false)
  | 1 => ("FacingDoorsModel", "text", "[B", true)
  | 2 => ("FacingDoorsModel", "typed", "I", false)
  | 3 => ("FacingDoorsModel", "wide", "[I", true)
  | 4 => ("FacingDoorsModel", "rows", "[I", true)
  | 5 => ("FacingDoorsModel", "ground", "[I", true)
  | 6 => ("FacingDoorsModel", "doors", "[I", true)
  | 7 => ("FacingDoorsModel", "draftPlace", "[I", true)
  | 8 => ("FacingDoorsModel", "draftWay", "[I", true)
  | 9 => ("FacingDoorsModel", "law", "[I", true)
  | 10 => ("FacingDoorsModel", "lawsTold", "I", false)
  | 11 => ("FacingDoorsModel", "at", "I", false)
  | 12 => ("FacingDoorsModel", "start", "I", false)
  | 13 => ("FacingDoorsModel", "sort", "I", false)
  | 14 => ("FacingDoorsModel", "value", "I", false)
  | 15 => ("FacingDoorsModel", "fault", "I", false)
  | 16 => ("FacingDoorsModel", "now", "[I", true)
  | 17 => ("FacingDoorsModel", "isKept", "[Z", true)
  | 18 => ("FacingDoorsModel", "way", "[I", true)
  | 19 => ("FacingDoorsModel", "open", "I", false)
  | 20 => ("FacingDoorsModel", "fog", "Z", false)
  | 21 => ("FacingDoorsModel", "toldDoor", "[I", true)
  | 22 => ("FacingDoorsModel", "toldDue", "[I", true)
  | _ => ("FacingDoorsModel", "told", "I", false)
def fd_t10 : Nat → FieldType := fun k => match k with
  | 0 => .long
  | 1 => .array (.byte)
  | 2 => .int
  | 3 => .array (.int)
  | 4 => .array (.int)
  | 5 => .array (.int)
  | 6 => .array (.int)
  | 7 => .array (.int)
  | 8 => .array (.int)
  | 9 => .array (.int)
  | 10 => .int
  | 11 => .int
  | 12 => .int
  | 13 => .int
  | 14 => .int
  | 15 => .int
  | 16 => .array (.int)
  | 17 => .array (.boolean)
  | 18 => .array (.int)
  | 19 => .int
  | 20 => .boolean
  | 21 => .array (.int)
  | 22 => .array (.int)
  | _ => .int
def fd_cl : List vw_C := [("FacingDoors", fd_T0, 13), ("FacingDoors$History", fd_T1, 2), ("FacingDoors$Image", fd_T2, 3), ("FacingDoors$Plan", fd_T3, 9), ("FacingDoors$Reader", fd_T4, 9), ("FacingDoors$Scene", fd_T5, 8), ("FacingDoors$Sights", fd_T6, 2), ("FacingDoors$Text", fd_T7, 2), ("FacingDoors$Told", fd_T8, 3), ("FacingDoors$TurnSearch", fd_T9, 10), ("FacingDoorsModel", fd_T10, 24)]
def fd_ty (ci : Nat) : Nat → FieldType := match ci with
  | 0 => fd_t0
  | 1 => fd_t1
  | 2 => fd_t2
  | 3 => fd_t3
  | 4 => fd_t4
  | 5 => fd_t5
  | 6 => fd_t6
  | 7 => fd_t7
  | 8 => fd_t8
  | 9 => fd_t9
  | _ => fd_t10
def fd_dfl (ci k : Nat) : Int := match fd_ty ci k with
  | .int => 0
  | .long => 0
  | .boolean => 0
  | _ => 1000
-- the shapes of the cells that the two constructors make, in their order
def fd_NC : Nat := 213
def fd_SH (c : Nat) : Nat × Nat := (bif Nat.ble 101 c then (bif Nat.ble 160 c then (bif Nat.ble 194 c then (bif Nat.ble 204 c then (bif Nat.ble 208 c then (bif Nat.ble 210 c then (bif Nat.ble 213 c then (99, 0) else (20, 6)) else (bif Nat.ble 209 c then (22, 2) else (20, 927))) else (bif Nat.ble 205 c then (bif Nat.ble 207 c then (20, 4) else (20, 6)) else (20, 2))) else (bif Nat.ble 200 c then (bif Nat.ble 201 c then (bif Nat.ble 203 c then (20, 98) else (20, 2)) else (21, 150)) else (bif Nat.ble 195 c then (bif Nat.ble 199 c then (10, 24) else (20, 6)) else (5, 8)))) else (bif Nat.ble 175 c then (bif Nat.ble 184 c then (bif Nat.ble 189 c then (bif Nat.ble 190 c then (20, 6) else (5, 8)) else (bif Nat.ble 185 c then (20, 6) else (5, 8))) else (bif Nat.ble 179 c then (bif Nat.ble 180 c then (20, 6) else (5, 8)) else (20, 6))) else (bif Nat.ble 169 c then (bif Nat.ble 170 c then (bif Nat.ble 174 c then (5, 8) else (20, 6)) else (5, 8)) else (bif Nat.ble 164 c then (bif Nat.ble 165 c then (20, 6) else (5, 8)) else (20, 6))))) else (bif Nat.ble 132 c then (bif Nat.ble 147 c then (bif Nat.ble 150 c then (bif Nat.ble 155 c then (bif Nat.ble 159 c then (5, 8) else (20, 6)) else (bif Nat.ble 154 c then (5, 8) else (20, 6))) else (bif Nat.ble 148 c then (bif Nat.ble 149 c then (5, 8) else (23, 10)) else (1, 2))) else (bif Nat.ble 141 c then (bif Nat.ble 142 c then (bif Nat.ble 143 c then (20, 6) else (5, 8)) else (2, 3)) else (bif Nat.ble 136 c then (bif Nat.ble 137 c then (20, 6) else (5, 8)) else (20, 6)))) else (bif Nat.ble 116 c then (bif Nat.ble 122 c then (bif Nat.ble 127 c then (bif Nat.ble 131 c then (5, 8) else (20, 6)) else (bif Nat.ble 126 c then (5, 8) else (20, 6))) else (bif Nat.ble 117 c then (bif Nat.ble 121 c then (5, 8) else (20, 6)) else (5, 8))) else (bif Nat.ble 107 c then (bif Nat.ble 111 c then (bif Nat.ble 112 c then (20, 6) else (5, 8)) else (20, 6)) else (bif Nat.ble 102 c then (bif Nat.ble 106 c then (5, 8) else (20, 6)) else (5, 8)))))) else (bif Nat.ble 51 c then (bif Nat.ble 76 c then (bif Nat.ble 85 c then (bif Nat.ble 91 c then (bif Nat.ble 96 c then (bif Nat.ble 97 c then (20, 6) else (5, 8)) else (bif Nat.ble 92 c then (20, 6) else (5, 8))) else (bif Nat.ble 89 c then (bif Nat.ble 90 c then (23, 10) else (1, 2)) else (20, 6))) else (bif Nat.ble 82 c then (bif Nat.ble 83 c then (bif Nat.ble 84 c then (5, 8) else (2, 3)) else (20, 49)) else (bif Nat.ble 78 c then (bif Nat.ble 79 c then (20, 6) else (8, 3)) else (20, 6)))) else (bif Nat.ble 66 c then (bif Nat.ble 72 c then (bif Nat.ble 74 c then (bif Nat.ble 75 c then (22, 24) else (20, 24)) else (bif Nat.ble 73 c then (9, 10) else (6, 2))) else (bif Nat.ble 67 c then (bif Nat.ble 71 c then (24, 2) else (20, 6)) else (5, 8))) else (bif Nat.ble 57 c then (bif Nat.ble 61 c then (bif Nat.ble 62 c then (20, 6) else (5, 8)) else (20, 6)) else (bif Nat.ble 52 c then (bif Nat.ble 56 c then (5, 8) else (20, 6)) else (5, 8))))) else (bif Nat.ble 20 c then (bif Nat.ble 32 c then (bif Nat.ble 41 c then (bif Nat.ble 46 c then (bif Nat.ble 47 c then (20, 6) else (5, 8)) else (bif Nat.ble 42 c then (20, 6) else (5, 8))) else (bif Nat.ble 36 c then (bif Nat.ble 37 c then (20, 6) else (5, 8)) else (20, 6))) else (bif Nat.ble 26 c then (bif Nat.ble 27 c then (bif Nat.ble 31 c then (5, 8) else (20, 6)) else (5, 8)) else (bif Nat.ble 21 c then (bif Nat.ble 22 c then (20, 6) else (5, 8)) else (23, 10)))) else (bif Nat.ble 8 c then (bif Nat.ble 13 c then (bif Nat.ble 15 c then (bif Nat.ble 19 c then (1, 2) else (20, 6)) else (bif Nat.ble 14 c then (5, 8) else (4, 9))) else (bif Nat.ble 9 c then (bif Nat.ble 10 c then (20, 6) else (20, 49)) else (3, 9))) else (bif Nat.ble 3 c then (bif Nat.ble 4 c then (bif Nat.ble 5 c then (20, 6) else (20, 49)) else (3, 9)) else (bif Nat.ble 1 c then (bif Nat.ble 2 c then (20, 150) else (7, 2)) else (0, 13)))))))
def fd_rfr (c : Nat) : List (Option Nat) := (bif Nat.ble 74 c then (bif Nat.ble 90 c then (bif Nat.ble 147 c then (bif Nat.ble 199 c then (bif Nat.ble 200 c then [] else [none, some 200, none, some 201, some 202, some 203, some 204, some 205, some 206, some 207, none, none, none, none, none, none, some 208, some 209, some 210, none, none, some 211, some 212, none]) else (bif Nat.ble 148 c then [] else [some 148, none])) else (bif Nat.ble 141 c then (bif Nat.ble 142 c then [] else [some 142, some 147, none]) else [])) else (bif Nat.ble 83 c then (bif Nat.ble 84 c then (bif Nat.ble 89 c then [some 90, none] else []) else [some 84, some 89, none]) else (bif Nat.ble 78 c then (bif Nat.ble 79 c then [] else [some 79, some 80, none]) else []))) else (bif Nat.ble 9 c then (bif Nat.ble 19 c then (bif Nat.ble 72 c then (bif Nat.ble 73 c then [some 3, some 14, some 72, some 74, some 75, some 76, some 77, none, none, none] else [some 3, some 14]) else (bif Nat.ble 20 c then [] else [some 20, none])) else (bif Nat.ble 13 c then (bif Nat.ble 14 c then [] else [some 1, some 8, none, none, none, none, none, none, none]) else [])) else (bif Nat.ble 3 c then (bif Nat.ble 4 c then (bif Nat.ble 8 c then [none, none, none, none, none, some 9, some 10, some 11, some 12] else []) else [none, none, none, none, none, some 4, some 5, some 6, some 7]) else (bif Nat.ble 1 c then (bif Nat.ble 2 c then [] else [some 2, none]) else [some 1, some 3, some 8, some 13, some 14, some 19, some 71, some 72, some 73, some 78, some 81, some 82, none]))))
def fd_RF (c k : Nat) : Option Nat := bif Nat.beq (fd_SH c).1 5 then (bif Nat.ble 4 k then none else some (c + 1 + k)) else (fd_rfr c).getD k none
-- the methods: name, code, locals, what they return
abbrev fd_Ins : Type := Nat × List Int
def fd_ms : List (MethodName × ByteArray × Nat × Option FieldType) := [
  (⟨"FacingDoors", "<init>", "()V"⟩, prog_1_method_1_code, 2, none),
  (⟨"FacingDoors", "type", "(I)I"⟩, prog_1_method_2_code, 2, some .int),
  (⟨"FacingDoors", "clear", "()I"⟩, prog_1_method_3_code, 2, some .int),
  (⟨"FacingDoors", "quarter", "()I"⟩, prog_1_method_4_code, 3, some .int),
  (⟨"FacingDoors", "cell", "(II)I"⟩, prog_1_method_5_code, 4, some .int),
  (⟨"FacingDoors", "door", "(II)I"⟩, prog_1_method_6_code, 3, some .int),
  (⟨"FacingDoors", "hinges", "(II)I"⟩, prog_1_method_7_code, 4, some .int),
  (⟨"FacingDoors", "moves", "(II)I"⟩, prog_1_method_8_code, 5, some .int),
  (⟨"FacingDoors", "opens", "(II)I"⟩, prog_1_method_9_code, 3, some .int),
  (⟨"FacingDoors", "cart", "(III)I"⟩, prog_1_method_10_code, 5, some .int),
  (⟨"FacingDoors", "leaf", "(I)I"⟩, prog_1_method_11_code, 2, some .int),
  (⟨"FacingDoors", "fog", "(I)I"⟩, prog_1_method_12_code, 2, some .int),
  (⟨"FacingDoors", "bills", "()I"⟩, prog_1_method_13_code, 4, some .int),
  (⟨"FacingDoors", "undo", "()I"⟩, prog_1_method_14_code, 1, some .int),
  (⟨"FacingDoors", "now", "(I)I"⟩, prog_1_method_15_code, 2, some .int),
  (⟨"FacingDoors", "turn", "(I)I"⟩, prog_1_method_16_code, 2, some .int),
  (⟨"FacingDoors", "cartAt", "()I"⟩, prog_1_method_17_code, 6, some .int),
  (⟨"FacingDoors", "bound", "(I)I"⟩, prog_1_method_18_code, 6, some .int),
  (⟨"FacingDoors", "tells", "(II)I"⟩, prog_1_method_19_code, 3, some .int),
  (⟨"FacingDoors", "forget", "()I"⟩, prog_1_method_20_code, 2, some .int),
  (⟨"FacingDoors", "open", "(I)I"⟩, prog_1_method_21_code, 7, some .int),
  (⟨"FacingDoors", "odds", "(III)I"⟩, prog_1_method_22_code, 8, some .int),
  (⟨"FacingDoors", "mean", "(II)I"⟩, prog_1_method_23_code, 4, some .int),
  (⟨"FacingDoors", "mark", "(II)I"⟩, prog_1_method_24_code, 3, some .int),
  (⟨"FacingDoors", "keep", "(I)I"⟩, prog_1_method_25_code, 2, some .int),
  (⟨"FacingDoors", "back", "(I)I"⟩, prog_1_method_26_code, 2, some .int),
  (⟨"FacingDoors", "count", "(I)I"⟩, prog_1_method_27_code, 2, some .int),
  (⟨"FacingDoors", "trace", "()J"⟩, prog_1_method_28_code, 1, some .long),
  (⟨"FacingDoors", "doorMark", "(I)I"⟩, prog_1_method_29_code, 2, some .int),
  (⟨"FacingDoors", "porchMark", "(I)I"⟩, prog_1_method_30_code, 2, some .int),
  (⟨"FacingDoors", "gateMark", "(I)I"⟩, prog_1_method_31_code, 2, some .int),
  (⟨"FacingDoors", "bayMark", "(I)I"⟩, prog_1_method_32_code, 2, some .int),
  (⟨"FacingDoors", "schoolMark", "(I)I"⟩, prog_1_method_33_code, 2, some .int),
  (⟨"FacingDoors", "hatchMark", "(I)I"⟩, prog_1_method_34_code, 2, some .int),
  (⟨"FacingDoors", "addRelief", "(I)V"⟩, prog_1_method_35_code, 8, none),
  (⟨"FacingDoors", "lookUpDues", "()V"⟩, prog_1_method_36_code, 2, none),
  (⟨"FacingDoors", "dueOfSet", "(I)I"⟩, prog_1_method_37_code, 4, some .int),
  (⟨"FacingDoors", "weightOfSet", "(II)I"⟩, prog_1_method_38_code, 5, some .int),
  (⟨"FacingDoors", "isWay", "(I)Z"⟩, prog_1_method_39_code, 1, some .boolean),
  (⟨"FacingDoors", "isFlag", "(I)Z"⟩, prog_1_method_40_code, 1, some .boolean),
  (⟨"FacingDoors", "isTenths", "(I)Z"⟩, prog_1_method_41_code, 1, some .boolean),
  (⟨"FacingDoors", "isDueTold", "(I)Z"⟩, prog_1_method_42_code, 1, some .boolean),
  (⟨"FacingDoors", "isImage", "(I)Z"⟩, prog_1_method_43_code, 1, some .boolean),
  (⟨"FacingDoors", "flag", "(Z)I"⟩, prog_1_method_44_code, 1, some .int),
  (⟨"FacingDoors", "hasBit", "(II)Z"⟩, prog_1_method_45_code, 2, some .boolean),
  (⟨"FacingDoors", "bitOf", "(I)I"⟩, prog_1_method_46_code, 1, some .int),
  (⟨"FacingDoors", "placeOf", "(II)I"⟩, prog_1_method_47_code, 2, some .int),
  (⟨"FacingDoors", "placeOf", "(II)I"⟩, prog_1_method_47_code, 2, some .int),
  (⟨"FacingDoors", "wayBack", "(I)I"⟩, prog_1_method_48_code, 1, some .int),
  (⟨"FacingDoors", "partInLeastTerms", "(III)I"⟩, prog_1_method_49_code, 5, some .int),
  (⟨"FacingDoors", "commonDivisor", "(II)I"⟩, prog_1_method_50_code, 6, some .int),
  (⟨"FacingDoorsModel", "<init>", "()V"⟩, prog_12_method_1_code, 1, none),
  (⟨"FacingDoorsModel", "in", "(III)Z"⟩, prog_12_method_3_code, 3, some .boolean),
  (⟨"FacingDoorsModel", "type", "(I)I"⟩, prog_12_method_4_code, 2, some .int),
  (⟨"FacingDoorsModel", "clear", "()I"⟩, prog_12_method_5_code, 2, some .int),
  (⟨"FacingDoorsModel", "here", "()I"⟩, prog_12_method_6_code, 1, some .int),
  (⟨"FacingDoorsModel", "step", "()V"⟩, prog_12_method_7_code, 2, none),
  (⟨"FacingDoorsModel", "due", "(Z)I"⟩, prog_12_method_8_code, 3, some .int),
  (⟨"FacingDoorsModel", "number", "(II)I"⟩, prog_12_method_9_code, 3, some .int),
  (⟨"FacingDoorsModel", "mayBe", "(II)Z"⟩, prog_12_method_10_code, 3, some .boolean),
  (⟨"FacingDoorsModel", "groundOf", "(I)I"⟩, prog_12_method_11_code, 1, some .int),
  (⟨"FacingDoorsModel", "isFreeDraft", "(I)Z"⟩, prog_12_method_12_code, 4, some .boolean),
  (⟨"FacingDoorsModel", "readRow", "(I)V"⟩, prog_12_method_13_code, 5, none),
  (⟨"FacingDoorsModel", "plain", "()V"⟩, prog_12_method_14_code, 2, none),
  (⟨"FacingDoorsModel", "takeDraft", "()V"⟩, prog_12_method_15_code, 2, none),
  (⟨"FacingDoorsModel", "quarter", "()I"⟩, prog_12_method_16_code, 3, some .int),
  (⟨"FacingDoorsModel", "isDoor", "(I)Z"⟩, prog_12_method_17_code, 2, some .boolean),
  (⟨"FacingDoorsModel", "isCell", "(II)Z"⟩, prog_12_method_18_code, 3, some .boolean),
  (⟨"FacingDoorsModel", "hasCart", "(II)Z"⟩, prog_12_method_19_code, 3, some .boolean),
  (⟨"FacingDoorsModel", "doorAt", "(II)I"⟩, prog_12_method_20_code, 4, some .int),
  (⟨"FacingDoorsModel", "cell", "(II)I"⟩, prog_12_method_21_code, 4, some .int),
  (⟨"FacingDoorsModel", "manyOf", "(I)I"⟩, prog_12_method_22_code, 3, some .int),
  (⟨"FacingDoorsModel", "take", "()V"⟩, prog_12_method_23_code, 2, none),
  (⟨"FacingDoorsModel", "stepX", "(I)I"⟩, prog_12_method_24_code, 1, some .int),
  (⟨"FacingDoorsModel", "stepY", "(I)I"⟩, prog_12_method_25_code, 1, some .int),
  (⟨"FacingDoorsModel", "sees", "(I)I"⟩, prog_12_method_26_code, 6, some .int),
  (⟨"FacingDoorsModel", "dueOf", "(I)I"⟩, prog_12_method_27_code, 3, some .int),
  (⟨"FacingDoorsModel", "dues", "()I"⟩, prog_12_method_28_code, 3, some .int),
  (⟨"FacingDoorsModel", "hasWay", "(I)Z"⟩, prog_12_method_29_code, 2, some .boolean),
  (⟨"FacingDoorsModel", "seenBy", "(I)I"⟩, prog_12_method_30_code, 4, some .int),
  (⟨"FacingDoorsModel", "door", "(II)I"⟩, prog_12_method_31_code, 3, some .int),
  (⟨"FacingDoorsModel", "know", "()V"⟩, prog_12_method_32_code, 2, none),
  (⟨"FacingDoorsModel", "duesNow", "()I"⟩, prog_12_method_33_code, 1, some .int),
  (⟨"FacingDoorsModel", "hinges", "(II)I"⟩, prog_12_method_34_code, 4, some .int),
  (⟨"FacingDoorsModel", "moves", "(II)I"⟩, prog_12_method_35_code, 5, some .int),
  (⟨"FacingDoorsModel", "opens", "(II)I"⟩, prog_12_method_36_code, 3, some .int),
  (⟨"FacingDoorsModel", "carts", "()I"⟩, prog_12_method_37_code, 3, some .int),
  (⟨"FacingDoorsModel", "cart", "(III)I"⟩, prog_12_method_38_code, 4, some .int),
  (⟨"FacingDoorsModel", "set", "(II)I"⟩, prog_12_method_39_code, 3, some .int),
  (⟨"FacingDoorsModel", "leaf", "(I)I"⟩, prog_12_method_40_code, 2, some .int),
  (⟨"FacingDoorsModel", "fog", "(I)I"⟩, prog_12_method_41_code, 2, some .int),
  (⟨"FacingDoorsModel", "bills", "()I"⟩, prog_12_method_42_code, 3, some .int),
  (⟨"FacingDoorsModel", "undo", "()I"⟩, prog_12_method_43_code, 2, some .int),
  (⟨"FacingDoorsModel", "allHaveWays", "()Z"⟩, prog_12_method_44_code, 3, some .boolean),
  (⟨"FacingDoorsModel", "now", "(I)I"⟩, prog_12_method_45_code, 5, some .int),
  (⟨"FacingDoorsModel", "takeWays", "(I)I"⟩, prog_12_method_46_code, 5, some .int),
  (⟨"FacingDoorsModel", "codes", "()I"⟩, prog_12_method_47_code, 3, some .int),
  (⟨"FacingDoorsModel", "turn", "(I)I"⟩, prog_12_method_48_code, 7, some .int),
  (⟨"FacingDoorsModel", "cartAt", "()I"⟩, prog_12_method_49_code, 6, some .int),
  (⟨"FacingDoorsModel", "bound", "(I)I"⟩, prog_12_method_50_code, 9, some .int),
  (⟨"FacingDoorsModel", "tells", "(II)I"⟩, prog_12_method_51_code, 3, some .int),
  (⟨"FacingDoorsModel", "forget", "()I"⟩, prog_12_method_52_code, 2, some .int),
  (⟨"FacingDoorsModel", "open", "(I)I"⟩, prog_12_method_53_code, 8, some .int),
  (⟨"FacingDoorsModel", "sum", "(II)I"⟩, prog_12_method_54_code, 7, some .int),
  (⟨"FacingDoorsModel", "part", "(II)I"⟩, prog_12_method_55_code, 7, some .int),
  (⟨"FacingDoorsModel", "odds", "(III)I"⟩, prog_12_method_56_code, 4, some .int),
  (⟨"FacingDoorsModel", "mean", "(II)I"⟩, prog_12_method_57_code, 3, some .int),
  (⟨"FacingDoorsModel", "mark", "(II)I"⟩, prog_12_method_58_code, 6, some .int),
  (⟨"FacingDoorsModel", "keep", "(I)I"⟩, prog_12_method_59_code, 3, some .int),
  (⟨"FacingDoorsModel", "back", "(I)I"⟩, prog_12_method_60_code, 3, some .int),
  (⟨"FacingDoorsModel", "count", "(I)I"⟩, prog_12_method_61_code, 2, some .int),
  (⟨"FacingDoorsModel", "trace", "()J"⟩, prog_12_method_62_code, 1, some .long),
  (⟨"FacingDoors$History", "<init>", "()V"⟩, prog_2_method_1_code, 2, none),
  (⟨"FacingDoors$History", "push", "(LFacingDoors$Scene;)V"⟩, prog_2_method_2_code, 2, none),
  (⟨"FacingDoors$History", "loseOldest", "()V"⟩, prog_2_method_3_code, 3, none),
  (⟨"FacingDoors$History", "pop", "(LFacingDoors$Scene;)V"⟩, prog_2_method_4_code, 2, none),
  (⟨"FacingDoors$History", "copyFrom", "(LFacingDoors$History;)V"⟩, prog_2_method_5_code, 3, none),
  (⟨"FacingDoors$Image", "<init>", "()V"⟩, prog_3_method_1_code, 1, none),
  (⟨"FacingDoors$Image", "take", "(LFacingDoors$Scene;LFacingDoors$History;)V"⟩, prog_3_method_2_code, 3, none),
  (⟨"FacingDoors$Image", "give", "(LFacingDoors$Scene;LFacingDoors$History;)V"⟩, prog_3_method_3_code, 3, none),
  (⟨"FacingDoors$Plan", "<init>", "()V"⟩, prog_4_method_1_code, 1, none),
  (⟨"FacingDoors$Plan", "empty", "()V"⟩, prog_4_method_2_code, 1, none),
  (⟨"FacingDoors$Plan", "copyFrom", "(LFacingDoors$Plan;)V"⟩, prog_4_method_3_code, 2, none),
  (⟨"FacingDoors$Plan", "hasCell", "(II)Z"⟩, prog_4_method_4_code, 3, some .boolean),
  (⟨"FacingDoors$Plan", "hasDoor", "(I)Z"⟩, prog_4_method_5_code, 2, some .boolean),
  (⟨"FacingDoors$Plan", "groundAt", "(II)I"⟩, prog_4_method_6_code, 3, some .int),
  (⟨"FacingDoors$Plan", "isFreeForDoor", "(II)Z"⟩, prog_4_method_7_code, 4, some .boolean),
  (⟨"FacingDoors$Reader", "<init>", "(LFacingDoors$Text;LFacingDoors$Plan;)V"⟩, prog_5_method_1_code, 3, none),
  (⟨"FacingDoors$Reader", "read", "()I"⟩, prog_5_method_2_code, 2, some .int),
  (⟨"FacingDoors$Reader", "advance", "()V"⟩, prog_5_method_3_code, 2, none),
  (⟨"FacingDoors$Reader", "advanceOverNumber", "()V"⟩, prog_5_method_4_code, 2, none),
  (⟨"FacingDoors$Reader", "isDigit", "(I)Z"⟩, prog_5_method_5_code, 1, some .boolean),
  (⟨"FacingDoors$Reader", "takeItem", "()Z"⟩, prog_5_method_6_code, 1, some .boolean),
  (⟨"FacingDoors$Reader", "takeWide", "()Z"⟩, prog_5_method_7_code, 1, some .boolean),
  (⟨"FacingDoors$Reader", "takeRow", "()Z"⟩, prog_5_method_8_code, 3, some .boolean),
  (⟨"FacingDoors$Reader", "nextGround", "()I"⟩, prog_5_method_9_code, 1, some .int),
  (⟨"FacingDoors$Reader", "takeDoor", "()Z"⟩, prog_5_method_10_code, 3, some .boolean),
  (⟨"FacingDoors$Reader", "takePrice", "()Z"⟩, prog_5_method_11_code, 1, some .boolean),
  (⟨"FacingDoors$Reader", "takeSight", "()Z"⟩, prog_5_method_12_code, 1, some .boolean),
  (⟨"FacingDoors$Reader", "nextIsNumber", "(II)Z"⟩, prog_5_method_13_code, 3, some .boolean),
  (⟨"FacingDoors$Reader", "takeEnd", "()Z"⟩, prog_5_method_14_code, 1, some .boolean),
  (⟨"FacingDoors$Scene", "<init>", "()V"⟩, prog_6_method_1_code, 1, none),
  (⟨"FacingDoors$Scene", "begin", "(LFacingDoors$Plan;)V"⟩, prog_6_method_2_code, 3, none),
  (⟨"FacingDoors$Scene", "copyFrom", "(LFacingDoors$Scene;)V"⟩, prog_6_method_3_code, 2, none),
  (⟨"FacingDoors$Scene", "isOpen", "(I)Z"⟩, prog_6_method_4_code, 2, some .boolean),
  (⟨"FacingDoors$Scene", "hasCart", "(II)Z"⟩, prog_6_method_5_code, 3, some .boolean),
  (⟨"FacingDoors$Scene", "hasCart", "(II)Z"⟩, prog_6_method_5_code, 3, some .boolean),
  (⟨"FacingDoors$Scene", "doorOn", "(III)I"⟩, prog_6_method_6_code, 5, some .int),
  (⟨"FacingDoors$Scene", "owedByAll", "(I)I"⟩, prog_6_method_7_code, 4, some .int),
  (⟨"FacingDoors$Sights", "<init>", "(LFacingDoors$Plan;LFacingDoors$Scene;)V"⟩, prog_7_method_1_code, 3, none),
  (⟨"FacingDoors$Sights", "isVacant", "(II)Z"⟩, prog_7_method_2_code, 3, some .boolean),
  (⟨"FacingDoors$Sights", "hidesWhatIsBehind", "(I)Z"⟩, prog_7_method_3_code, 3, some .boolean),
  (⟨"FacingDoors$Sights", "wouldSee", "(II)I"⟩, prog_7_method_4_code, 7, some .int),
  (⟨"FacingDoors$Sights", "seesWhom", "(I)I"⟩, prog_7_method_5_code, 2, some .int),
  (⟨"FacingDoors$Sights", "seenBy", "(I)I"⟩, prog_7_method_6_code, 4, some .int),
  (⟨"FacingDoors$Sights", "dueIfOpen", "(I)I"⟩, prog_7_method_7_code, 4, some .int),
  (⟨"FacingDoors$Sights", "dueOf", "(I)I"⟩, prog_7_method_8_code, 2, some .int),
  (⟨"FacingDoors$Sights", "dueOfAll", "()I"⟩, prog_7_method_9_code, 3, some .int),
  (⟨"FacingDoors$Sights", "pairs", "()I"⟩, prog_7_method_10_code, 4, some .int),
  (⟨"FacingDoors$Sights", "hasWayIn", "(II)Z"⟩, prog_7_method_11_code, 3, some .boolean),
  (⟨"FacingDoors$Sights", "whoHasWayIn", "()I"⟩, prog_7_method_12_code, 3, some .int),
  (⟨"FacingDoors$Sights", "eachCanHaveWayIn", "()Z"⟩, prog_7_method_13_code, 4, some .boolean),
  (⟨"FacingDoors$Sights", "mustSee", "(II)Z"⟩, prog_7_method_14_code, 4, some .boolean),
  (⟨"FacingDoors$Text", "<init>", "()V"⟩, prog_8_method_1_code, 1, none),
  (⟨"FacingDoors$Text", "append", "(I)V"⟩, prog_8_method_2_code, 2, none),
  (⟨"FacingDoors$Text", "byteAt", "(I)I"⟩, prog_8_method_3_code, 2, some .int),
  (⟨"FacingDoors$Told", "<init>", "()V"⟩, prog_9_method_1_code, 1, none),
  (⟨"FacingDoors$Told", "add", "(II)V"⟩, prog_9_method_2_code, 3, none),
  (⟨"FacingDoors$Told", "agreesWith", "(I[I)Z"⟩, prog_9_method_3_code, 5, some .boolean),
  (⟨"FacingDoors$TurnSearch", "<init>", "(LFacingDoors$Plan;LFacingDoors$Scene;LFacingDoors$Sights;)V"⟩, prog_10_method_1_code, 4, none),
  (⟨"FacingDoors$TurnSearch", "run", "()Z"⟩, prog_10_method_2_code, 3, some .boolean),
  (⟨"FacingDoors$TurnSearch", "choose", "(III)V"⟩, prog_10_method_3_code, 4, none),
  (⟨"FacingDoors$TurnSearch", "chooseEachWay", "(III)V"⟩, prog_10_method_4_code, 5, none),
  (⟨"FacingDoors$TurnSearch", "isBetter", "(II)Z"⟩, prog_10_method_5_code, 3, some .boolean),
  (⟨"FacingDoors$TurnSearch", "dueThatComes", "(I)I"⟩, prog_10_method_6_code, 4, some .int),
  (⟨"FacingDoors$TurnSearch", "priceFor", "(I)I"⟩, prog_10_method_7_code, 2, some .int),
  (⟨"java/lang/Integer", "bitCount", "(I)I"⟩, prog_13_method_49_code, 1, some .int)]
-- FacingDoors.<init> ()V
def fd_c0 : List fd_Ins := [(2, [0, 0]), (42, [1, 112]), (2, [0, 0]), (37, [7, 7, 115]), (24, []), (122, [163, 1, 9, 1, 117]), (28, [0, 0, 2, 10, 0, 1, 380]), (2, [0, 0]), (37, [3, 16, 131]), (24, []), (122, [120, 1, 18, 1, 133]), (28, [0, 1, 2, 19, 0, 1, 381]), (2, [0, 0]), (37, [3, 16, 131]), (24, []), (122, [120, 1, 18, 1, 133]), (28, [0, 2, 2, 23, 0, 1, 382]), (2, [0, 0]), (37, [4, 26, 189]), (24, []), (2, [0, 0]), (27, [0, 0, 2, 10, 0, 380]), (2, [0, 0]), (27, [0, 2, 2, 23, 0, 382]), (122, [127, 3, 28, 1, 191]), (28, [0, 3, 2, 31, 0, 1, 383]), (2, [0, 0]), (37, [5, 35, 223]), (24, []), (122, [141, 1, 37, 1, 225]), (28, [0, 4, 2, 38, 0, 1, 384]), (2, [0, 0]), (37, [1, 42, 270]), (24, []), (122, [112, 1, 44, 1, 272]), (28, [0, 5, 2, 45, 0, 1, 385]), (2, [0, 0]), (0, [2, 0, 0]), (39, [24, 49, 287]), (28, [0, 6, 2, 51, 0, 1, 386]), (2, [0, 0]), (37, [6, 55, 289]), (24, []), (2, [0, 0]), (27, [0, 1, 2, 19, 0, 381]), (2, [0, 0]), (27, [0, 4, 2, 38, 0, 384]), (122, [149, 3, 57, 1, 291]), (28, [0, 7, 2, 60, 0, 1, 387]), (2, [0, 0]), (37, [9, 64, 302]), (24, []), (2, [0, 0]), (27, [0, 1, 2, 19, 0, 381]), (2, [0, 0]), (27, [0, 4, 2, 38, 0, 384]), (2, [0, 0]), (27, [0, 7, 2, 60, 0, 387]), (122, [169, 4, 66, 1, 304]), (28, [0, 8, 2, 69, 0, 1, 388]), (2, [0, 0]), (37, [8, 73, 343]), (24, []), (122, [166, 1, 75, 1, 345]), (28, [0, 9, 2, 76, 0, 1, 389]), (2, [0, 0]), (0, [6, 1, 0]), (38, [20]), (28, [0, 10, 2, 80, 0, 1, 390]), (2, [0, 0]), (0, [49, 1, 0]), (38, [20]), (28, [0, 11, 2, 84, 0, 1, 391]), (2, [0, 0]), (17, [0, 0, 0]), (28, [0, 12, 1, 87, 0, 0, 392]), (0, [0, 0, 0]), (3, [1, 0]), (1, [1, 0]), (2, [0, 0]), (27, [0, 6, 2, 51, 0, 386]), (36, []), (104, [92]), (2, [0, 0]), (27, [0, 6, 2, 51, 0, 386]), (1, [1, 0]), (37, [2, 49, 287]), (24, []), (122, [117, 1, 91, 1, 361]), (35, []), (5, [1, 1]), (100, [78]), (116, [])]
def fd_p0 : List Nat := [0, 1, 4, 5, 8, 9, 12, 15, 16, 19, 20, 23, 26, 27, 30, 31, 34, 37, 38, 41, 42, 43, 46, 47, 50, 53, 56, 57, 60, 61, 64, 67, 68, 71, 72, 75, 78, 79, 80, 83, 86, 87, 90, 91, 92, 95, 96, 99, 102, 105, 106, 109, 110, 111, 114, 115, 118, 119, 122, 125, 128, 129, 132, 133, 136, 139, 140, 142, 144, 147, 148, 150, 152, 155, 156, 157, 160, 161, 162, 163, 164, 167, 168, 171, 172, 175, 176, 179, 180, 183, 184, 187, 190]
-- FacingDoors.type (I)I
def fd_c1 : List fd_Ins := [(1, [1, 0]), (109, [5]), (1, [1, 0]), (0, [255, 2, 0]), (106, [7]), (0, [-1, 0, 0]), (114, []), (2, [0, 0]), (27, [0, 0, 2, 10, 0, 380]), (27, [7, 1, 0, 92, 1, 123]), (0, [150, 2, 0]), (103, [14]), (0, [-3, 1, 0]), (114, []), (2, [0, 0]), (27, [0, 0, 2, 10, 0, 380]), (1, [1, 0]), (120, [164, 2, 96, 1, 424]), (2, [0, 0]), (27, [0, 0, 2, 10, 0, 380]), (27, [7, 1, 0, 92, 1, 123]), (114, [])]
def fd_p1 : List Nat := [0, 1, 4, 5, 8, 11, 12, 13, 14, 17, 20, 23, 26, 28, 29, 30, 33, 34, 37, 38, 41, 44]
-- FacingDoors.clear ()I
def fd_c2 : List fd_Ins := [(2, [0, 0]), (27, [0, 0, 2, 10, 0, 380]), (27, [7, 1, 0, 92, 1, 123]), (3, [1, 0]), (2, [0, 0]), (27, [0, 0, 2, 10, 0, 380]), (0, [0, 0, 0]), (28, [7, 1, 0, 92, 1, 0, 123]), (1, [1, 0]), (114, [])]
def fd_p2 : List Nat := [0, 1, 4, 7, 8, 9, 12, 13, 16, 17]
-- FacingDoors.quarter ()I
def fd_c3 : List fd_Ins := [(2, [0, 0]), (27, [0, 3, 2, 31, 0, 383]), (120, [128, 1, 100, 1, 436]), (3, [1, 0]), (1, [1, 0]), (110, [8]), (1, [1, 0]), (114, []), (2, [0, 0]), (27, [0, 0, 2, 10, 0, 380]), (0, [0, 0, 0]), (28, [7, 1, 0, 92, 1, 0, 123]), (2, [0, 0]), (27, [0, 1, 2, 19, 0, 381]), (2, [0, 0]), (27, [0, 2, 2, 23, 0, 382]), (120, [122, 2, 104, 1, 514]), (2, [0, 0]), (27, [0, 4, 2, 38, 0, 384]), (2, [0, 0]), (27, [0, 1, 2, 19, 0, 381]), (120, [142, 2, 108, 1, 521]), (2, [0, 0]), (27, [0, 5, 2, 45, 0, 385]), (0, [0, 0, 0]), (28, [1, 1, 0, 111, 1, 0, 281]), (2, [0, 0]), (27, [0, 9, 2, 76, 0, 389]), (0, [0, 0, 0]), (28, [8, 2, 0, 114, 1, 0, 352]), (0, [0, 0, 0]), (3, [2, 0]), (1, [2, 0]), (2, [0, 0]), (27, [0, 6, 2, 51, 0, 386]), (36, []), (104, [45]), (2, [0, 0]), (27, [0, 6, 2, 51, 0, 386]), (1, [2, 0]), (34, []), (0, [0, 0, 0]), (28, [2, 2, 3, 115, 1, 0, 372]), (5, [2, 1]), (100, [32]), (1, [1, 0]), (114, [])]
def fd_p3 : List Nat := [0, 1, 4, 7, 8, 9, 12, 13, 14, 15, 18, 19, 22, 23, 26, 27, 30, 33, 34, 37, 38, 41, 44, 45, 48, 49, 52, 53, 56, 57, 60, 61, 62, 63, 64, 67, 68, 71, 72, 75, 76, 77, 78, 81, 84, 87, 88]
-- FacingDoors.cell (II)I
def fd_c4 : List fd_Ins := [(2, [0, 0]), (27, [0, 1, 2, 19, 0, 381]), (1, [1, 0]), (1, [2, 0]), (120, [123, 3, 119, 1, 532]), (108, [8]), (0, [-1, 0, 0]), (114, []), (2, [0, 0]), (27, [0, 4, 2, 38, 0, 384]), (1, [1, 0]), (1, [2, 0]), (2, [0, 0]), (27, [0, 1, 2, 19, 0, 381]), (27, [3, 2, 0, 123, 1, 147]), (120, [147, 4, 126, 1, 533]), (3, [3, 0]), (1, [3, 0]), (0, [-1, 0, 0]), (101, [24]), (0, [10, 1, 0]), (1, [3, 0]), (6, []), (114, []), (2, [0, 0]), (27, [0, 4, 2, 38, 0, 384]), (1, [1, 0]), (1, [2, 0]), (120, [145, 3, 130, 1, 537]), (107, [32]), (0, [3, 0, 0]), (100, [37]), (2, [0, 0]), (27, [0, 1, 2, 19, 0, 381]), (1, [1, 0]), (1, [2, 0]), (120, [125, 3, 133, 1, 542]), (114, [])]
def fd_p4 : List Nat := [0, 1, 4, 5, 6, 9, 12, 13, 14, 15, 18, 19, 20, 21, 24, 27, 30, 31, 32, 33, 36, 38, 39, 40, 41, 42, 45, 46, 47, 50, 53, 54, 57, 58, 61, 62, 63, 66]
-- FacingDoors.door (II)I
def fd_c5 : List fd_Ins := [(2, [0, 0]), (27, [0, 1, 2, 19, 0, 381]), (1, [1, 0]), (120, [124, 2, 137, 1, 547]), (108, [7]), (0, [-1, 0, 0]), (114, []), (1, [2, 0]), (113, [66, 0, 9, 15, 21, 27, 33, 39, 44, 55, 60]), (2, [0, 0]), (27, [0, 4, 2, 38, 0, 384]), (27, [5, 0, 2, 141, 1, 231]), (1, [1, 0]), (30, []), (114, []), (2, [0, 0]), (27, [0, 4, 2, 38, 0, 384]), (27, [5, 1, 2, 144, 1, 234]), (1, [1, 0]), (30, []), (114, []), (2, [0, 0]), (27, [0, 4, 2, 38, 0, 384]), (27, [5, 2, 2, 147, 1, 238]), (1, [1, 0]), (30, []), (114, []), (2, [0, 0]), (27, [0, 4, 2, 38, 0, 384]), (1, [1, 0]), (120, [144, 2, 150, 1, 551]), (121, [43, 1, 153, 0, 558]), (114, []), (2, [0, 0]), (27, [0, 7, 2, 60, 0, 387]), (1, [1, 0]), (120, [153, 2, 157, 1, 561]), (121, [45, 1, 161, 0, 581]), (114, []), (2, [0, 0]), (27, [0, 7, 2, 60, 0, 387]), (1, [1, 0]), (120, [156, 2, 164, 1, 582]), (114, []), (2, [0, 0]), (27, [0, 7, 2, 60, 0, 387]), (1, [1, 0]), (2, [0, 0]), (27, [0, 4, 2, 38, 0, 384]), (27, [5, 2, 2, 147, 1, 238]), (1, [1, 0]), (30, []), (120, [159, 3, 167, 1, 593]), (121, [43, 1, 153, 0, 558]), (114, []), (2, [0, 0]), (27, [0, 7, 2, 60, 0, 387]), (1, [1, 0]), (120, [154, 2, 170, 1, 603]), (114, []), (2, [0, 0]), (27, [0, 4, 2, 38, 0, 384]), (27, [5, 3, 2, 173, 1, 240]), (1, [1, 0]), (30, []), (114, []), (0, [-1, 0, 0]), (114, [])]
def fd_p5 : List Nat := [0, 1, 4, 5, 8, 11, 12, 13, 14, 64, 65, 68, 71, 72, 73, 74, 75, 78, 81, 82, 83, 84, 85, 88, 91, 92, 93, 94, 95, 98, 99, 102, 105, 106, 107, 110, 111, 114, 117, 118, 119, 122, 123, 126, 127, 128, 131, 132, 133, 136, 139, 140, 141, 144, 147, 148, 149, 152, 153, 156, 157, 158, 161, 164, 165, 166, 167, 168]
-- FacingDoors.hinges (II)I
def fd_c6 : List fd_Ins := [(2, [0, 0]), (27, [0, 1, 2, 19, 0, 381]), (1, [1, 0]), (120, [124, 2, 137, 1, 547]), (107, [8]), (1, [2, 0]), (121, [38, 1, 176, 0, 613]), (108, [10]), (0, [-1, 0, 0]), (114, []), (2, [0, 0]), (27, [0, 4, 2, 38, 0, 384]), (27, [5, 2, 2, 147, 1, 238]), (1, [1, 0]), (30, []), (3, [3, 0]), (1, [3, 0]), (1, [2, 0]), (102, [21]), (0, [-2, 1, 0]), (114, []), (2, [0, 0]), (27, [0, 5, 2, 45, 0, 385]), (2, [0, 0]), (27, [0, 4, 2, 38, 0, 384]), (120, [113, 2, 179, 1, 616]), (2, [0, 0]), (27, [0, 4, 2, 38, 0, 384]), (27, [5, 2, 2, 147, 1, 238]), (1, [1, 0]), (1, [2, 0]), (31, []), (1, [3, 0]), (114, [])]
def fd_p6 : List Nat := [0, 1, 4, 5, 8, 11, 12, 15, 18, 19, 20, 21, 24, 27, 28, 29, 30, 31, 32, 35, 37, 38, 39, 42, 43, 46, 49, 50, 53, 56, 57, 58, 59, 60]
-- FacingDoors.moves (II)I
def fd_c7 : List fd_Ins := [(2, [0, 0]), (27, [0, 1, 2, 19, 0, 381]), (1, [1, 0]), (120, [124, 2, 137, 1, 547]), (107, [8]), (1, [2, 0]), (121, [38, 1, 176, 0, 613]), (108, [10]), (0, [-1, 0, 0]), (114, []), (2, [0, 0]), (27, [0, 4, 2, 38, 0, 384]), (27, [5, 0, 2, 141, 1, 231]), (1, [1, 0]), (30, []), (29, [1001, 183, 0, 633]), (1, [2, 0]), (43, []), (6, []), (3, [3, 0]), (2, [0, 0]), (27, [0, 4, 2, 38, 0, 384]), (27, [5, 1, 2, 144, 1, 234]), (1, [1, 0]), (30, []), (29, [1002, 186, 0, 634]), (1, [2, 0]), (43, []), (6, []), (3, [4, 1]), (2, [0, 0]), (27, [0, 7, 2, 60, 0, 387]), (1, [3, 0]), (1, [4, 1]), (120, [150, 3, 189, 1, 635]), (108, [38]), (0, [-2, 1, 0]), (114, []), (2, [0, 0]), (27, [0, 5, 2, 45, 0, 385]), (2, [0, 0]), (27, [0, 4, 2, 38, 0, 384]), (120, [113, 2, 179, 1, 616]), (2, [0, 0]), (27, [0, 4, 2, 38, 0, 384]), (27, [5, 0, 2, 141, 1, 231]), (1, [1, 0]), (1, [3, 0]), (31, []), (2, [0, 0]), (27, [0, 4, 2, 38, 0, 384]), (27, [5, 1, 2, 144, 1, 234]), (1, [1, 0]), (1, [4, 1]), (31, []), (2, [0, 0]), (27, [0, 5, 2, 45, 0, 385]), (27, [1, 1, 0, 111, 1, 281]), (114, [])]
def fd_p7 : List Nat := [0, 1, 4, 5, 8, 11, 12, 15, 18, 19, 20, 21, 24, 27, 28, 29, 32, 33, 34, 35, 36, 37, 40, 43, 44, 45, 48, 49, 50, 51, 53, 54, 57, 58, 60, 63, 66, 68, 69, 70, 73, 74, 77, 80, 81, 84, 87, 88, 89, 90, 91, 94, 97, 98, 100, 101, 102, 105, 108]
-- FacingDoors.opens (II)I
def fd_c8 : List fd_Ins := [(2, [0, 0]), (27, [0, 1, 2, 19, 0, 381]), (1, [1, 0]), (120, [124, 2, 137, 1, 547]), (107, [8]), (1, [2, 0]), (121, [39, 1, 192, 0, 640]), (108, [10]), (0, [-1, 0, 0]), (114, []), (2, [0, 0]), (27, [0, 4, 2, 38, 0, 384]), (1, [1, 0]), (120, [144, 2, 150, 1, 551]), (121, [43, 1, 153, 0, 558]), (1, [2, 0]), (102, [19]), (0, [-2, 1, 0]), (114, []), (2, [0, 0]), (27, [0, 5, 2, 45, 0, 385]), (2, [0, 0]), (27, [0, 4, 2, 38, 0, 384]), (120, [113, 2, 179, 1, 616]), (2, [0, 0]), (27, [0, 4, 2, 38, 0, 384]), (24, []), (27, [5, 4, 0, 195, 1, 242]), (1, [1, 0]), (121, [45, 1, 161, 0, 581]), (13, []), (28, [5, 4, 0, 195, 1, 0, 242]), (2, [0, 0]), (27, [0, 7, 2, 60, 0, 387]), (1, [1, 0]), (120, [156, 2, 164, 1, 582]), (114, [])]
def fd_p8 : List Nat := [0, 1, 4, 5, 8, 11, 12, 15, 18, 19, 20, 21, 24, 25, 28, 31, 32, 35, 37, 38, 39, 42, 43, 46, 49, 50, 53, 54, 57, 58, 61, 62, 65, 66, 69, 70, 73]
-- FacingDoors.cart (III)I
def fd_c9 : List fd_Ins := [(2, [0, 0]), (27, [0, 1, 2, 19, 0, 381]), (1, [1, 0]), (1, [2, 0]), (120, [123, 3, 119, 1, 532]), (107, [9]), (1, [3, 0]), (121, [39, 1, 192, 0, 640]), (108, [11]), (0, [-1, 0, 0]), (114, []), (1, [3, 0]), (0, [1, 0, 0]), (102, [20]), (2, [0, 0]), (27, [0, 7, 2, 60, 0, 387]), (1, [1, 0]), (1, [2, 0]), (120, [150, 3, 189, 1, 635]), (100, [25]), (2, [0, 0]), (27, [0, 4, 2, 38, 0, 384]), (1, [1, 0]), (1, [2, 0]), (120, [145, 3, 130, 1, 537]), (3, [4, 1]), (1, [4, 1]), (108, [30]), (0, [-2, 1, 0]), (114, []), (2, [0, 0]), (27, [0, 5, 2, 45, 0, 385]), (2, [0, 0]), (27, [0, 4, 2, 38, 0, 384]), (120, [113, 2, 179, 1, 616]), (2, [0, 0]), (27, [0, 4, 2, 38, 0, 384]), (24, []), (27, [5, 5, 1, 198, 1, 245]), (17, [1, 0, 0]), (1, [1, 0]), (1, [2, 0]), (121, [46, 2, 201, 0, 647]), (21, []), (19, []), (28, [5, 5, 1, 198, 1, 0, 245]), (2, [0, 0]), (27, [0, 4, 2, 38, 0, 384]), (27, [5, 5, 1, 198, 1, 245]), (41, [204, 648]), (114, [])]
def fd_p9 : List Nat := [0, 1, 4, 5, 6, 9, 12, 13, 16, 19, 20, 21, 22, 23, 26, 27, 30, 31, 32, 35, 38, 39, 42, 43, 44, 47, 49, 51, 54, 56, 57, 58, 61, 62, 65, 68, 69, 72, 73, 76, 77, 78, 79, 82, 83, 84, 87, 88, 91, 94, 97]
-- FacingDoors.leaf (I)I
def fd_c10 : List fd_Ins := [(1, [1, 0]), (121, [39, 1, 192, 0, 640]), (108, [5]), (0, [-1, 0, 0]), (114, []), (2, [0, 0]), (27, [0, 4, 2, 38, 0, 384]), (27, [5, 6, 3, 210, 1, 248]), (121, [43, 1, 153, 0, 558]), (1, [1, 0]), (102, [13]), (0, [-2, 1, 0]), (114, []), (2, [0, 0]), (27, [0, 5, 2, 45, 0, 385]), (2, [0, 0]), (27, [0, 4, 2, 38, 0, 384]), (120, [113, 2, 179, 1, 616]), (2, [0, 0]), (27, [0, 4, 2, 38, 0, 384]), (1, [1, 0]), (0, [1, 0, 0]), (102, [25]), (0, [1, 0, 0]), (100, [26]), (0, [0, 0, 0]), (28, [5, 6, 3, 210, 1, 0, 248]), (2, [0, 0]), (27, [0, 7, 2, 60, 0, 387]), (120, [157, 1, 213, 1, 658]), (114, [])]
def fd_p10 : List Nat := [0, 1, 4, 7, 8, 9, 10, 13, 16, 19, 20, 23, 25, 26, 27, 30, 31, 34, 37, 38, 41, 42, 43, 46, 47, 50, 51, 54, 55, 58, 61]
-- FacingDoors.fog (I)I
def fd_c11 : List fd_Ins := [(1, [1, 0]), (121, [39, 1, 192, 0, 640]), (108, [5]), (0, [-1, 0, 0]), (114, []), (2, [0, 0]), (27, [0, 4, 2, 38, 0, 384]), (27, [5, 7, 3, 216, 1, 252]), (121, [43, 1, 153, 0, 558]), (1, [1, 0]), (102, [13]), (0, [-2, 1, 0]), (114, []), (2, [0, 0]), (27, [0, 5, 2, 45, 0, 385]), (2, [0, 0]), (27, [0, 4, 2, 38, 0, 384]), (120, [113, 2, 179, 1, 616]), (2, [0, 0]), (27, [0, 4, 2, 38, 0, 384]), (1, [1, 0]), (0, [1, 0, 0]), (102, [25]), (0, [1, 0, 0]), (100, [26]), (0, [0, 0, 0]), (28, [5, 7, 3, 216, 1, 0, 252]), (2, [0, 0]), (27, [0, 7, 2, 60, 0, 387]), (120, [157, 1, 213, 1, 658]), (114, [])]
def fd_p11 : List Nat := [0, 1, 4, 7, 8, 9, 10, 13, 16, 19, 20, 23, 25, 26, 27, 30, 31, 34, 37, 38, 41, 42, 43, 46, 47, 50, 51, 54, 55, 58, 61]
-- FacingDoors.bills ()I
def fd_c12 : List fd_Ins := [(2, [0, 0]), (27, [0, 5, 2, 45, 0, 385]), (2, [0, 0]), (27, [0, 4, 2, 38, 0, 384]), (120, [113, 2, 179, 1, 616]), (0, [0, 0, 0]), (3, [1, 0]), (0, [0, 0, 0]), (3, [2, 0]), (1, [2, 0]), (2, [0, 0]), (27, [0, 1, 2, 19, 0, 381]), (27, [3, 2, 0, 123, 1, 147]), (104, [39]), (2, [0, 0]), (27, [0, 7, 2, 60, 0, 387]), (1, [2, 0]), (120, [156, 2, 164, 1, 582]), (3, [3, 0]), (2, [0, 0]), (27, [0, 4, 2, 38, 0, 384]), (27, [5, 3, 2, 173, 1, 240]), (1, [2, 0]), (0, [9999, 2, 0]), (2, [0, 0]), (27, [0, 4, 2, 38, 0, 384]), (27, [5, 3, 2, 173, 1, 240]), (1, [2, 0]), (30, []), (1, [3, 0]), (6, []), (44, [219, 671]), (31, []), (1, [1, 0]), (1, [3, 0]), (6, []), (3, [1, 0]), (5, [2, 1]), (100, [9]), (1, [1, 0]), (114, [])]
def fd_p12 : List Nat := [0, 1, 4, 5, 8, 11, 12, 13, 14, 15, 16, 17, 20, 23, 26, 27, 30, 31, 34, 35, 36, 39, 42, 43, 46, 47, 50, 53, 54, 55, 56, 57, 60, 61, 62, 63, 64, 65, 68, 71, 72]
-- FacingDoors.undo ()I
def fd_c13 : List fd_Ins := [(2, [0, 0]), (27, [0, 5, 2, 45, 0, 385]), (27, [1, 1, 0, 111, 1, 281]), (111, [6]), (0, [-2, 1, 0]), (114, []), (2, [0, 0]), (27, [0, 5, 2, 45, 0, 385]), (2, [0, 0]), (27, [0, 4, 2, 38, 0, 384]), (120, [115, 2, 224, 1, 676]), (2, [0, 0]), (27, [0, 5, 2, 45, 0, 385]), (27, [1, 1, 0, 111, 1, 281]), (114, [])]
def fd_p13 : List Nat := [0, 1, 4, 7, 10, 12, 13, 14, 17, 18, 21, 24, 25, 28, 31]
-- FacingDoors.now (I)I
def fd_c14 : List fd_Ins := [(1, [1, 0]), (113, [40, 0, 2, 6, 10, 14, 18, 23, 28, 33]), (2, [0, 0]), (27, [0, 7, 2, 60, 0, 387]), (120, [157, 1, 213, 1, 658]), (114, []), (2, [0, 0]), (27, [0, 4, 2, 38, 0, 384]), (27, [5, 4, 0, 195, 1, 242]), (114, []), (2, [0, 0]), (27, [0, 7, 2, 60, 0, 387]), (120, [160, 1, 227, 1, 684]), (114, []), (2, [0, 0]), (27, [0, 7, 2, 60, 0, 387]), (120, [158, 1, 230, 1, 689]), (114, []), (2, [0, 0]), (27, [0, 4, 2, 38, 0, 384]), (27, [5, 5, 1, 198, 1, 245]), (41, [204, 648]), (114, []), (2, [0, 0]), (27, [0, 4, 2, 38, 0, 384]), (27, [5, 6, 3, 210, 1, 248]), (121, [43, 1, 153, 0, 558]), (114, []), (2, [0, 0]), (27, [0, 4, 2, 38, 0, 384]), (27, [5, 7, 3, 216, 1, 252]), (121, [43, 1, 153, 0, 558]), (114, []), (2, [0, 0]), (27, [0, 4, 2, 38, 0, 384]), (2, [0, 0]), (27, [0, 1, 2, 19, 0, 381]), (27, [3, 2, 0, 123, 1, 147]), (120, [148, 2, 233, 1, 693]), (114, []), (0, [-1, 0, 0]), (114, [])]
def fd_p14 : List Nat := [0, 1, 48, 49, 52, 55, 56, 57, 60, 63, 64, 65, 68, 71, 72, 73, 76, 79, 80, 81, 84, 87, 90, 91, 92, 95, 98, 101, 102, 103, 106, 109, 112, 113, 114, 117, 118, 121, 124, 127, 128, 129]
-- FacingDoors.turn (I)I
def fd_c15 : List fd_Ins := [(1, [1, 0]), (0, [-1, 0, 0]), (101, [13]), (1, [1, 0]), (0, [-2, 1, 0]), (101, [13]), (2, [0, 0]), (27, [0, 1, 2, 19, 0, 381]), (1, [1, 0]), (120, [124, 2, 137, 1, 547]), (108, [13]), (0, [-1, 0, 0]), (114, []), (2, [0, 0]), (27, [0, 8, 2, 69, 0, 388]), (120, [170, 1, 236, 1, 701]), (108, [19]), (0, [-9, 1, 0]), (114, []), (1, [1, 0]), (0, [-1, 0, 0]), (102, [26]), (2, [0, 0]), (27, [0, 8, 2, 69, 0, 388]), (27, [9, 8, 0, 240, 1, 318]), (114, []), (1, [1, 0]), (0, [-2, 1, 0]), (102, [33]), (2, [0, 0]), (27, [0, 8, 2, 69, 0, 388]), (27, [9, 9, 0, 243, 1, 320]), (100, [38]), (2, [0, 0]), (27, [0, 8, 2, 69, 0, 388]), (27, [9, 6, 2, 246, 1, 315]), (1, [1, 0]), (30, []), (114, [])]
def fd_p15 : List Nat := [0, 1, 2, 5, 6, 8, 11, 12, 15, 16, 19, 22, 23, 24, 25, 28, 31, 34, 36, 37, 38, 39, 42, 43, 46, 49, 50, 51, 53, 56, 57, 60, 63, 66, 67, 70, 73, 74, 75]
-- FacingDoors.cartAt ()I
def fd_c16 : List fd_Ins := [(0, [0, 0, 0]), (3, [1, 0]), (1, [1, 0]), (2, [0, 0]), (27, [0, 11, 2, 84, 0, 391]), (36, []), (104, [14]), (2, [0, 0]), (27, [0, 11, 2, 84, 0, 391]), (1, [1, 0]), (0, [0, 0, 0]), (31, []), (5, [1, 1]), (100, [2]), (0, [0, 0, 0]), (3, [1, 0]), (1, [1, 0]), (2, [0, 0]), (27, [0, 1, 2, 19, 0, 381]), (27, [3, 2, 0, 123, 1, 147]), (104, [26]), (2, [0, 0]), (1, [1, 0]), (120, [34, 2, 249, 0, 735]), (5, [1, 1]), (100, [16]), (0, [-9, 1, 0]), (3, [1, 0]), (0, [0, 0, 0]), (3, [2, 0]), (0, [0, 0, 0]), (3, [3, 0]), (1, [3, 0]), (2, [0, 0]), (27, [0, 1, 2, 19, 0, 381]), (27, [3, 1, 0, 252, 1, 142]), (104, [66]), (0, [0, 0, 0]), (3, [4, 1]), (1, [4, 1]), (2, [0, 0]), (27, [0, 1, 2, 19, 0, 381]), (27, [3, 0, 0, 255, 1, 139]), (104, [64]), (2, [0, 0]), (27, [0, 11, 2, 84, 0, 391]), (1, [4, 1]), (1, [3, 0]), (121, [46, 2, 201, 0, 647]), (30, []), (3, [5, 1]), (1, [5, 1]), (1, [2, 0]), (106, [62]), (1, [5, 1]), (3, [2, 0]), (0, [10, 1, 0]), (1, [3, 0]), (8, []), (1, [4, 1]), (6, []), (3, [1, 0]), (5, [4, 1]), (100, [39]), (5, [3, 1]), (100, [32]), (1, [1, 0]), (114, [])]
def fd_p16 : List Nat := [0, 1, 2, 3, 4, 7, 8, 11, 12, 15, 16, 17, 18, 21, 24, 25, 26, 27, 28, 31, 34, 37, 38, 39, 42, 45, 48, 50, 51, 52, 53, 54, 55, 56, 57, 60, 63, 66, 67, 69, 71, 72, 75, 78, 81, 82, 85, 87, 88, 91, 92, 94, 96, 97, 100, 102, 103, 105, 106, 107, 109, 110, 111, 114, 117, 120, 123, 124]
-- FacingDoors.bound (I)I
def fd_c17 : List fd_Ins := [(1, [1, 0]), (121, [39, 1, 192, 0, 640]), (108, [5]), (0, [-1, 0, 0]), (114, []), (2, [0, 0]), (27, [0, 7, 2, 60, 0, 387]), (120, [161, 1, 258, 1, 743]), (108, [11]), (0, [-9, 1, 0]), (114, []), (0, [0, 0, 0]), (3, [2, 0]), (0, [-9, 1, 0]), (3, [3, 0]), (0, [0, 0, 0]), (3, [4, 1]), (1, [4, 1]), (2, [0, 0]), (27, [0, 1, 2, 19, 0, 381]), (27, [3, 2, 0, 123, 1, 147]), (104, [59]), (1, [4, 1]), (0, [1, 0, 0]), (6, []), (3, [5, 1]), (1, [5, 1]), (2, [0, 0]), (27, [0, 1, 2, 19, 0, 381]), (27, [3, 2, 0, 123, 1, 147]), (104, [57]), (2, [0, 0]), (27, [0, 7, 2, 60, 0, 387]), (1, [4, 1]), (1, [5, 1]), (120, [162, 3, 261, 1, 747]), (108, [43]), (2, [0, 0]), (27, [0, 7, 2, 60, 0, 387]), (1, [5, 1]), (1, [4, 1]), (120, [162, 3, 261, 1, 747]), (107, [55]), (5, [2, 1]), (1, [3, 0]), (0, [-9, 1, 0]), (102, [53]), (0, [10, 1, 0]), (1, [4, 1]), (8, []), (1, [5, 1]), (6, []), (100, [54]), (1, [3, 0]), (3, [3, 0]), (5, [5, 1]), (100, [26]), (5, [4, 1]), (100, [17]), (1, [1, 0]), (108, [63]), (1, [2, 0]), (100, [64]), (1, [3, 0]), (114, [])]
def fd_p17 : List Nat := [0, 1, 4, 7, 8, 9, 10, 13, 16, 19, 21, 22, 23, 24, 26, 27, 28, 30, 32, 33, 36, 39, 42, 44, 45, 46, 48, 50, 51, 54, 57, 60, 61, 64, 66, 68, 71, 74, 75, 78, 80, 82, 85, 88, 91, 92, 94, 97, 99, 101, 102, 104, 105, 108, 109, 110, 113, 116, 119, 122, 123, 126, 127, 130, 131]
-- FacingDoors.tells (II)I
def fd_c18 : List fd_Ins := [(2, [0, 0]), (27, [0, 1, 2, 19, 0, 381]), (1, [1, 0]), (120, [124, 2, 137, 1, 547]), (107, [8]), (1, [2, 0]), (121, [41, 1, 264, 0, 755]), (108, [10]), (0, [-1, 0, 0]), (114, []), (2, [0, 0]), (27, [0, 9, 2, 76, 0, 389]), (27, [8, 2, 0, 114, 1, 352]), (0, [6, 1, 0]), (103, [17]), (0, [-3, 1, 0]), (114, []), (2, [0, 0]), (27, [0, 9, 2, 76, 0, 389]), (1, [1, 0]), (1, [2, 0]), (120, [167, 3, 267, 1, 758]), (2, [0, 0]), (27, [0, 9, 2, 76, 0, 389]), (27, [8, 2, 0, 114, 1, 352]), (114, [])]
def fd_p18 : List Nat := [0, 1, 4, 5, 8, 11, 12, 15, 18, 19, 20, 21, 24, 27, 29, 32, 34, 35, 36, 39, 40, 41, 44, 45, 48, 51]
-- FacingDoors.forget ()I
def fd_c19 : List fd_Ins := [(2, [0, 0]), (27, [0, 9, 2, 76, 0, 389]), (27, [8, 2, 0, 114, 1, 352]), (3, [1, 0]), (2, [0, 0]), (27, [0, 9, 2, 76, 0, 389]), (0, [0, 0, 0]), (28, [8, 2, 0, 114, 1, 0, 352]), (1, [1, 0]), (114, [])]
def fd_p19 : List Nat := [0, 1, 4, 7, 8, 9, 12, 13, 16, 17]
-- FacingDoors.open (I)I
def fd_c20 : List fd_Ins := [(1, [1, 0]), (109, [5]), (1, [1, 0]), (0, [2, 0, 0]), (106, [7]), (0, [-1, 0, 0]), (114, []), (2, [0, 0]), (120, [35, 1, 271, 0, 770]), (2, [0, 0]), (27, [0, 1, 2, 19, 0, 381]), (27, [3, 2, 0, 123, 1, 147]), (121, [45, 1, 161, 0, 581]), (0, [1, 0, 0]), (7, []), (3, [2, 0]), (0, [0, 0, 0]), (3, [3, 0]), (0, [-9, 1, 0]), (3, [4, 1]), (1, [2, 0]), (3, [5, 1]), (0, [0, 0, 0]), (3, [6, 1]), (1, [6, 1]), (1, [2, 0]), (105, [48]), (2, [0, 0]), (27, [0, 9, 2, 76, 0, 389]), (1, [6, 1]), (2, [0, 0]), (27, [0, 10, 2, 80, 0, 390]), (120, [168, 3, 274, 1, 775]), (107, [46]), (5, [3, 1]), (1, [4, 1]), (0, [-9, 1, 0]), (102, [40]), (1, [6, 1]), (100, [41]), (1, [4, 1]), (3, [4, 1]), (1, [5, 1]), (1, [6, 1]), (11, []), (3, [5, 1]), (5, [6, 1]), (100, [24]), (1, [1, 0]), (108, [52]), (1, [3, 0]), (114, []), (1, [3, 0]), (108, [56]), (0, [-9, 1, 0]), (114, []), (1, [1, 0]), (0, [1, 0, 0]), (102, [61]), (1, [4, 1]), (100, [62]), (1, [5, 1]), (114, [])]
def fd_p20 : List Nat := [0, 1, 4, 5, 6, 9, 10, 11, 12, 15, 16, 19, 22, 25, 26, 27, 28, 29, 30, 32, 34, 35, 37, 38, 40, 42, 43, 46, 47, 50, 52, 53, 56, 59, 62, 65, 67, 69, 72, 74, 77, 79, 81, 83, 85, 86, 88, 91, 94, 95, 98, 99, 100, 101, 104, 106, 107, 108, 109, 112, 114, 117, 119]
-- FacingDoors.odds (III)I
def fd_c21 : List fd_Ins := [(1, [1, 0]), (121, [40, 1, 278, 0, 784]), (107, [9]), (1, [2, 0]), (121, [41, 1, 264, 0, 755]), (107, [9]), (1, [3, 0]), (121, [39, 1, 192, 0, 640]), (108, [11]), (0, [-1, 0, 0]), (114, []), (2, [0, 0]), (120, [35, 1, 271, 0, 770]), (0, [0, 0, 0]), (3, [4, 1]), (0, [1, 0, 0]), (3, [5, 1]), (0, [0, 0, 0]), (3, [6, 1]), (1, [6, 1]), (2, [0, 0]), (27, [0, 1, 2, 19, 0, 381]), (27, [3, 2, 0, 123, 1, 147]), (104, [30]), (1, [5, 1]), (0, [10, 1, 0]), (8, []), (3, [5, 1]), (5, [6, 1]), (100, [19]), (2, [0, 0]), (27, [0, 1, 2, 19, 0, 381]), (27, [3, 2, 0, 123, 1, 147]), (121, [45, 1, 161, 0, 581]), (3, [6, 1]), (0, [0, 0, 0]), (3, [7, 1]), (1, [7, 1]), (1, [6, 1]), (104, [54]), (2, [0, 0]), (1, [7, 1]), (120, [36, 2, 281, 0, 787]), (1, [2, 0]), (103, [52]), (1, [4, 1]), (2, [0, 0]), (1, [7, 1]), (1, [1, 0]), (120, [37, 3, 284, 0, 792]), (6, []), (3, [4, 1]), (5, [7, 1]), (100, [37]), (1, [4, 1]), (1, [5, 1]), (1, [3, 0]), (121, [49, 3, 287, 0, 796]), (114, [])]
def fd_p21 : List Nat := [0, 1, 4, 7, 8, 11, 14, 15, 18, 21, 22, 23, 24, 27, 28, 30, 31, 33, 34, 36, 38, 39, 42, 45, 48, 50, 52, 53, 55, 58, 61, 62, 65, 68, 71, 73, 74, 76, 78, 80, 83, 84, 86, 89, 90, 93, 95, 96, 98, 99, 102, 103, 105, 108, 111, 113, 115, 116, 119]
-- FacingDoors.mean (II)I
def fd_c22 : List fd_Ins := [(1, [1, 0]), (121, [40, 1, 278, 0, 784]), (107, [6]), (1, [2, 0]), (121, [39, 1, 192, 0, 640]), (108, [8]), (0, [-1, 0, 0]), (114, []), (2, [0, 0]), (120, [35, 1, 271, 0, 770]), (1, [1, 0]), (2, [0, 0]), (2, [0, 0]), (27, [0, 1, 2, 19, 0, 381]), (27, [3, 2, 0, 123, 1, 147]), (121, [45, 1, 161, 0, 581]), (0, [1, 0, 0]), (7, []), (120, [36, 2, 281, 0, 787]), (8, []), (3, [3, 0]), (1, [3, 0]), (0, [10, 1, 0]), (1, [2, 0]), (121, [49, 3, 287, 0, 796]), (114, [])]
def fd_p22 : List Nat := [0, 1, 4, 7, 8, 11, 14, 15, 16, 17, 20, 21, 22, 23, 26, 29, 32, 33, 34, 37, 38, 39, 40, 42, 43, 46]
-- FacingDoors.mark (II)I
def fd_c23 : List fd_Ins := [(2, [0, 0]), (27, [0, 1, 2, 19, 0, 381]), (1, [2, 0]), (120, [124, 2, 137, 1, 547]), (108, [7]), (0, [-1000000, 4, 290, 810]), (114, []), (1, [1, 0]), (113, [33, 0, 9, 13, 17, 21, 25, 29]), (2, [0, 0]), (1, [2, 0]), (120, [28, 2, 291, 0, 811]), (114, []), (2, [0, 0]), (1, [2, 0]), (120, [29, 2, 294, 0, 815]), (114, []), (2, [0, 0]), (1, [2, 0]), (120, [30, 2, 297, 0, 826]), (114, []), (2, [0, 0]), (1, [2, 0]), (120, [31, 2, 300, 0, 831]), (114, []), (2, [0, 0]), (1, [2, 0]), (120, [32, 2, 303, 0, 836]), (114, []), (2, [0, 0]), (1, [2, 0]), (120, [33, 2, 306, 0, 841]), (114, []), (0, [-1000000, 4, 290, 810]), (114, [])]
def fd_p23 : List Nat := [0, 1, 4, 5, 8, 11, 14, 15, 16, 56, 57, 58, 61, 62, 63, 64, 67, 68, 69, 70, 73, 74, 75, 76, 79, 80, 81, 82, 85, 86, 87, 88, 91, 92, 95]
-- FacingDoors.keep (I)I
def fd_c24 : List fd_Ins := [(1, [1, 0]), (121, [42, 1, 309, 0, 850]), (108, [5]), (0, [-1, 0, 0]), (114, []), (2, [0, 0]), (27, [0, 6, 2, 51, 0, 386]), (1, [1, 0]), (34, []), (2, [0, 0]), (27, [0, 4, 2, 38, 0, 384]), (2, [0, 0]), (27, [0, 5, 2, 45, 0, 385]), (120, [118, 3, 312, 1, 853]), (2, [0, 0]), (27, [0, 7, 2, 60, 0, 387]), (120, [157, 1, 213, 1, 658]), (114, [])]
def fd_p24 : List Nat := [0, 1, 4, 7, 8, 9, 10, 13, 14, 15, 16, 19, 20, 23, 26, 27, 30, 33]
-- FacingDoors.back (I)I
def fd_c25 : List fd_Ins := [(1, [1, 0]), (121, [42, 1, 309, 0, 850]), (108, [5]), (0, [-1, 0, 0]), (114, []), (2, [0, 0]), (27, [0, 6, 2, 51, 0, 386]), (1, [1, 0]), (34, []), (27, [2, 2, 3, 115, 1, 372]), (108, [13]), (0, [-2, 1, 0]), (114, []), (2, [0, 0]), (27, [0, 6, 2, 51, 0, 386]), (1, [1, 0]), (34, []), (2, [0, 0]), (27, [0, 4, 2, 38, 0, 384]), (2, [0, 0]), (27, [0, 5, 2, 45, 0, 385]), (120, [119, 3, 316, 1, 866]), (2, [0, 0]), (27, [0, 7, 2, 60, 0, 387]), (120, [157, 1, 213, 1, 658]), (114, [])]
def fd_p25 : List Nat := [0, 1, 4, 7, 8, 9, 10, 13, 14, 15, 18, 21, 23, 24, 25, 28, 29, 30, 31, 34, 35, 38, 41, 42, 45, 48]
-- FacingDoors.count (I)I
def fd_c26 : List fd_Ins := [(1, [1, 0]), (113, [34, 0, 2, 6, 10, 14, 18, 22, 26, 30]), (2, [0, 0]), (27, [0, 1, 2, 19, 0, 381]), (27, [3, 0, 0, 255, 1, 139]), (114, []), (2, [0, 0]), (27, [0, 1, 2, 19, 0, 381]), (27, [3, 1, 0, 252, 1, 142]), (114, []), (2, [0, 0]), (27, [0, 1, 2, 19, 0, 381]), (27, [3, 2, 0, 123, 1, 147]), (114, []), (2, [0, 0]), (27, [0, 1, 2, 19, 0, 381]), (27, [3, 3, 0, 319, 1, 153]), (114, []), (2, [0, 0]), (27, [0, 1, 2, 19, 0, 381]), (27, [3, 4, 0, 322, 1, 157]), (114, []), (2, [0, 0]), (27, [0, 9, 2, 76, 0, 389]), (27, [8, 2, 0, 114, 1, 352]), (114, []), (2, [0, 0]), (27, [0, 5, 2, 45, 0, 385]), (27, [1, 1, 0, 111, 1, 281]), (114, []), (2, [0, 0]), (27, [0, 0, 2, 10, 0, 380]), (27, [7, 1, 0, 92, 1, 123]), (114, []), (0, [-1, 0, 0]), (114, [])]
def fd_p26 : List Nat := [0, 1, 48, 49, 52, 55, 56, 57, 60, 63, 64, 65, 68, 71, 72, 73, 76, 79, 80, 81, 84, 87, 88, 89, 92, 95, 96, 97, 100, 103, 104, 105, 108, 111, 112, 113]
-- FacingDoors.trace ()J
def fd_c27 : List fd_Ins := [(2, [0, 0]), (27, [0, 12, 1, 87, 0, 392]), (115, [])]
def fd_p27 : List Nat := [0, 1, 4]
-- FacingDoors.doorMark (I)I
def fd_c28 : List fd_Ins := [(2, [0, 0]), (24, []), (27, [0, 12, 1, 87, 0, 392]), (17, [1, 0, 0]), (18, []), (28, [0, 12, 1, 87, 0, 0, 392]), (2, [0, 0]), (27, [0, 7, 2, 60, 0, 387]), (1, [1, 0]), (120, [156, 2, 164, 1, 582]), (114, [])]
def fd_p28 : List Nat := [0, 1, 2, 5, 6, 7, 10, 11, 14, 15, 18]
-- FacingDoors.porchMark (I)I
def fd_c29 : List fd_Ins := [(2, [0, 0]), (24, []), (27, [0, 12, 1, 87, 0, 392]), (17, [10, 1, 325, 819]), (18, []), (28, [0, 12, 1, 87, 0, 0, 392]), (2, [0, 0]), (1, [1, 0]), (120, [28, 2, 291, 0, 811]), (2, [0, 0]), (27, [0, 7, 2, 60, 0, 387]), (1, [1, 0]), (120, [154, 2, 170, 1, 603]), (121, [176, 1, 327, 0, 820]), (6, []), (114, [])]
def fd_p29 : List Nat := [0, 1, 2, 5, 8, 9, 12, 13, 14, 17, 18, 21, 22, 25, 28, 29]
-- FacingDoors.gateMark (I)I
def fd_c30 : List fd_Ins := [(2, [0, 0]), (24, []), (27, [0, 12, 1, 87, 0, 392]), (17, [100, 1, 331, 830]), (18, []), (28, [0, 12, 1, 87, 0, 0, 392]), (2, [0, 0]), (1, [1, 0]), (120, [28, 2, 291, 0, 811]), (2, [0, 0]), (27, [0, 4, 2, 38, 0, 384]), (27, [5, 2, 2, 147, 1, 238]), (1, [1, 0]), (30, []), (7, []), (114, [])]
def fd_p30 : List Nat := [0, 1, 2, 5, 8, 9, 12, 13, 14, 17, 18, 21, 24, 25, 26, 27]
-- FacingDoors.bayMark (I)I
def fd_c31 : List fd_Ins := [(2, [0, 0]), (24, []), (27, [0, 12, 1, 87, 0, 392]), (17, [1000, 1, 333, 835]), (18, []), (28, [0, 12, 1, 87, 0, 0, 392]), (2, [0, 0]), (1, [1, 0]), (120, [29, 2, 294, 0, 815]), (0, [2, 0, 0]), (8, []), (114, [])]
def fd_p31 : List Nat := [0, 1, 2, 5, 8, 9, 12, 13, 14, 17, 18, 19]
-- FacingDoors.schoolMark (I)I
def fd_c32 : List fd_Ins := [(2, [0, 0]), (24, []), (27, [0, 12, 1, 87, 0, 392]), (17, [10000, 1, 335, 840]), (18, []), (28, [0, 12, 1, 87, 0, 0, 392]), (2, [0, 0]), (1, [1, 0]), (120, [30, 2, 297, 0, 826]), (2, [0, 0]), (27, [0, 4, 2, 38, 0, 384]), (1, [1, 0]), (120, [144, 2, 150, 1, 551]), (107, [16]), (0, [7, 1, 0]), (100, [17]), (0, [0, 0, 0]), (6, []), (114, [])]
def fd_p32 : List Nat := [0, 1, 2, 5, 8, 9, 12, 13, 14, 17, 18, 21, 22, 25, 28, 30, 33, 34, 35]
-- FacingDoors.hatchMark (I)I
def fd_c33 : List fd_Ins := [(2, [0, 0]), (24, []), (27, [0, 12, 1, 87, 0, 392]), (17, [100000, 1, 337, 845]), (18, []), (28, [0, 12, 1, 87, 0, 0, 392]), (2, [0, 0]), (1, [1, 0]), (120, [28, 2, 291, 0, 811]), (2, [0, 0]), (27, [0, 4, 2, 38, 0, 384]), (27, [5, 3, 2, 173, 1, 240]), (1, [1, 0]), (30, []), (6, []), (114, [])]
def fd_p33 : List Nat := [0, 1, 2, 5, 8, 9, 12, 13, 14, 17, 18, 21, 24, 25, 26, 27]
-- FacingDoors.addRelief (I)V
def fd_c34 : List fd_Ins := [(2, [0, 0]), (27, [0, 7, 2, 60, 0, 387]), (1, [1, 0]), (120, [153, 2, 157, 1, 561]), (3, [2, 0]), (1, [2, 0]), (0, [-1, 0, 0]), (102, [9]), (116, []), (2, [0, 0]), (27, [0, 7, 2, 60, 0, 387]), (1, [1, 0]), (120, [156, 2, 164, 1, 582]), (3, [3, 0]), (2, [0, 0]), (27, [0, 4, 2, 38, 0, 384]), (27, [5, 2, 2, 147, 1, 238]), (1, [1, 0]), (30, []), (3, [4, 1]), (2, [0, 0]), (27, [0, 4, 2, 38, 0, 384]), (27, [5, 0, 2, 141, 1, 231]), (1, [1, 0]), (30, []), (3, [5, 1]), (2, [0, 0]), (27, [0, 4, 2, 38, 0, 384]), (27, [5, 1, 2, 144, 1, 234]), (1, [1, 0]), (30, []), (3, [6, 1]), (0, [1, 0, 0]), (3, [7, 1]), (1, [7, 1]), (0, [7, 1, 0]), (104, [88]), (1, [5, 1]), (29, [1001, 183, 0, 633]), (1, [4, 1]), (43, []), (6, []), (3, [5, 1]), (1, [6, 1]), (29, [1002, 186, 0, 634]), (1, [4, 1]), (43, []), (6, []), (3, [6, 1]), (2, [0, 0]), (27, [0, 1, 2, 19, 0, 381]), (1, [5, 1]), (1, [6, 1]), (120, [123, 3, 119, 1, 532]), (107, [69]), (2, [0, 0]), (27, [0, 4, 2, 38, 0, 384]), (27, [5, 0, 2, 141, 1, 231]), (1, [2, 0]), (30, []), (1, [5, 1]), (102, [70]), (2, [0, 0]), (27, [0, 4, 2, 38, 0, 384]), (27, [5, 1, 2, 144, 1, 234]), (1, [2, 0]), (30, []), (1, [6, 1]), (102, [70]), (116, []), (2, [0, 0]), (27, [0, 1, 2, 19, 0, 381]), (1, [5, 1]), (1, [6, 1]), (120, [125, 3, 133, 1, 542]), (108, [86]), (2, [0, 0]), (27, [0, 11, 2, 84, 0, 391]), (1, [5, 1]), (1, [6, 1]), (121, [46, 2, 201, 0, 647]), (25, []), (30, []), (1, [3, 0]), (6, []), (31, []), (5, [7, 1]), (100, [34]), (116, [])]
def fd_p34 : List Nat := [0, 1, 4, 5, 8, 9, 10, 11, 14, 15, 16, 19, 20, 23, 24, 25, 28, 31, 32, 33, 35, 36, 39, 42, 43, 44, 46, 47, 50, 53, 54, 55, 57, 58, 60, 62, 64, 67, 69, 72, 74, 75, 76, 78, 80, 83, 85, 86, 87, 89, 90, 93, 95, 97, 100, 103, 104, 107, 110, 111, 112, 114, 117, 118, 121, 124, 125, 126, 128, 131, 132, 133, 136, 138, 140, 143, 146, 147, 150, 152, 154, 157, 158, 159, 160, 161, 162, 165, 168]
-- FacingDoors.lookUpDues ()V
def fd_c35 : List fd_Ins := [(0, [0, 0, 0]), (3, [1, 0]), (1, [1, 0]), (2, [0, 0]), (27, [0, 1, 2, 19, 0, 381]), (27, [3, 2, 0, 123, 1, 147]), (104, [17]), (2, [0, 0]), (27, [0, 10, 2, 80, 0, 390]), (1, [1, 0]), (2, [0, 0]), (27, [0, 7, 2, 60, 0, 387]), (1, [1, 0]), (120, [155, 2, 339, 1, 774]), (31, []), (5, [1, 1]), (100, [2]), (116, [])]
def fd_p35 : List Nat := [0, 1, 2, 3, 4, 7, 10, 13, 14, 17, 18, 19, 22, 23, 26, 27, 30, 33]
-- FacingDoors.dueOfSet (I)I
def fd_c36 : List fd_Ins := [(0, [0, 0, 0]), (3, [2, 0]), (0, [0, 0, 0]), (3, [3, 0]), (1, [3, 0]), (2, [0, 0]), (27, [0, 1, 2, 19, 0, 381]), (27, [3, 2, 0, 123, 1, 147]), (104, [22]), (1, [1, 0]), (1, [3, 0]), (121, [44, 2, 342, 0, 791]), (107, [20]), (1, [2, 0]), (2, [0, 0]), (27, [0, 10, 2, 80, 0, 390]), (1, [3, 0]), (30, []), (6, []), (3, [2, 0]), (5, [3, 1]), (100, [4]), (1, [2, 0]), (114, [])]
def fd_p36 : List Nat := [0, 1, 2, 3, 4, 5, 6, 9, 12, 15, 16, 17, 20, 23, 24, 25, 28, 29, 30, 31, 32, 35, 38, 39]
-- FacingDoors.weightOfSet (II)I
def fd_c37 : List fd_Ins := [(0, [1, 0, 0]), (3, [3, 0]), (0, [0, 0, 0]), (3, [4, 1]), (1, [4, 1]), (2, [0, 0]), (27, [0, 1, 2, 19, 0, 381]), (27, [3, 2, 0, 123, 1, 147]), (104, [23]), (1, [3, 0]), (1, [1, 0]), (1, [4, 1]), (121, [44, 2, 342, 0, 791]), (107, [16]), (1, [2, 0]), (100, [19]), (0, [10, 1, 0]), (1, [2, 0]), (7, []), (8, []), (3, [3, 0]), (5, [4, 1]), (100, [4]), (1, [3, 0]), (114, [])]
def fd_p37 : List Nat := [0, 1, 2, 3, 5, 7, 8, 11, 14, 17, 18, 19, 21, 24, 27, 28, 31, 33, 34, 35, 36, 37, 40, 43, 44]
-- FacingDoors.isWay (I)Z
def fd_c38 : List fd_Ins := [(1, [0, 0]), (109, [7]), (1, [0, 0]), (0, [4, 0, 0]), (104, [7]), (0, [1, 0, 0]), (100, [8]), (0, [0, 0, 0]), (114, [])]
def fd_p38 : List Nat := [0, 1, 4, 5, 6, 9, 10, 13, 14]
-- FacingDoors.isFlag (I)Z
def fd_c39 : List fd_Ins := [(1, [0, 0]), (107, [5]), (1, [0, 0]), (0, [1, 0, 0]), (102, [7]), (0, [1, 0, 0]), (100, [8]), (0, [0, 0, 0]), (114, [])]
def fd_p39 : List Nat := [0, 1, 4, 5, 6, 9, 10, 13, 14]
-- FacingDoors.isTenths (I)Z
def fd_c40 : List fd_Ins := [(1, [0, 0]), (109, [7]), (1, [0, 0]), (0, [10, 1, 0]), (105, [7]), (0, [1, 0, 0]), (100, [8]), (0, [0, 0, 0]), (114, [])]
def fd_p40 : List Nat := [0, 1, 4, 5, 7, 10, 11, 14, 15]
-- FacingDoors.isDueTold (I)Z
def fd_c41 : List fd_Ins := [(1, [0, 0]), (109, [7]), (1, [0, 0]), (0, [99, 1, 0]), (105, [7]), (0, [1, 0, 0]), (100, [8]), (0, [0, 0, 0]), (114, [])]
def fd_p41 : List Nat := [0, 1, 4, 5, 7, 10, 11, 14, 15]
-- FacingDoors.isImage (I)Z
def fd_c42 : List fd_Ins := [(1, [0, 0]), (109, [7]), (1, [0, 0]), (0, [2, 0, 0]), (104, [7]), (0, [1, 0, 0]), (100, [8]), (0, [0, 0, 0]), (114, [])]
def fd_p42 : List Nat := [0, 1, 4, 5, 6, 9, 10, 13, 14]
-- FacingDoors.flag (Z)I
def fd_c43 : List fd_Ins := [(1, [0, 0]), (107, [4]), (0, [1, 0, 0]), (100, [5]), (0, [0, 0, 0]), (114, [])]
def fd_p43 : List Nat := [0, 1, 4, 5, 8, 9]
-- FacingDoors.hasBit (II)Z
def fd_c44 : List fd_Ins := [(1, [0, 0]), (1, [1, 0]), (15, []), (0, [1, 0, 0]), (11, []), (107, [8]), (0, [1, 0, 0]), (100, [9]), (0, [0, 0, 0]), (114, [])]
def fd_p44 : List Nat := [0, 1, 2, 3, 4, 5, 8, 9, 12, 13]
-- FacingDoors.bitOf (I)I
def fd_c45 : List fd_Ins := [(1, [0, 0]), (0, [-1, 0, 0]), (102, [5]), (0, [0, 0, 0]), (100, [8]), (0, [1, 0, 0]), (1, [0, 0]), (14, []), (114, [])]
def fd_p45 : List Nat := [0, 1, 2, 5, 6, 9, 10, 11, 12]
-- FacingDoors.placeOf (II)I
def fd_c46 : List fd_Ins := [(1, [1, 0]), (0, [7, 1, 0]), (8, []), (1, [0, 0]), (6, []), (114, [])]
def fd_p46 : List Nat := [0, 1, 3, 4, 5, 6]
-- FacingDoors.placeOf (II)I
def fd_c47 : List fd_Ins := [(1, [1, 0]), (0, [7, 1, 0]), (8, []), (1, [0, 0]), (6, []), (114, [])]
def fd_p47 : List Nat := [0, 1, 3, 4, 5, 6]
-- FacingDoors.wayBack (I)I
def fd_c48 : List fd_Ins := [(1, [0, 0]), (0, [2, 0, 0]), (6, []), (0, [3, 0, 0]), (11, []), (114, [])]
def fd_p48 : List Nat := [0, 1, 2, 3, 4, 5]
-- FacingDoors.partInLeastTerms (III)I
def fd_c49 : List fd_Ins := [(1, [0, 0]), (1, [1, 0]), (121, [50, 2, 345, 0, 799]), (3, [3, 0]), (1, [2, 0]), (108, [8]), (1, [0, 0]), (100, [9]), (1, [1, 0]), (3, [4, 1]), (1, [3, 0]), (108, [14]), (1, [4, 1]), (100, [17]), (1, [4, 1]), (1, [3, 0]), (9, []), (114, [])]
def fd_p49 : List Nat := [0, 1, 2, 5, 6, 7, 10, 11, 14, 15, 17, 18, 21, 23, 26, 28, 29, 30]
-- FacingDoors.commonDivisor (II)I
def fd_c50 : List fd_Ins := [(1, [0, 0]), (3, [2, 0]), (1, [1, 0]), (3, [3, 0]), (0, [0, 0, 0]), (3, [4, 1]), (1, [4, 1]), (0, [64, 1, 0]), (104, [21]), (1, [3, 0]), (107, [21]), (1, [2, 0]), (1, [3, 0]), (10, []), (3, [5, 1]), (1, [3, 0]), (3, [2, 0]), (1, [5, 1]), (3, [3, 0]), (5, [4, 1]), (100, [6]), (1, [2, 0]), (114, [])]
def fd_p50 : List Nat := [0, 1, 2, 3, 4, 5, 7, 9, 11, 14, 15, 18, 19, 20, 21, 23, 24, 25, 27, 28, 31, 34, 35]
-- FacingDoorsModel.<init> ()V
def fd_c51 : List fd_Ins := [(2, [0, 0]), (42, [1, 883]), (2, [0, 0]), (0, [150, 2, 0]), (38, [21]), (28, [10, 1, 2, 7, 0, 1, 893]), (2, [0, 0]), (0, [2, 0, 0]), (38, [20]), (28, [10, 3, 2, 13, 0, 1, 895]), (2, [0, 0]), (0, [2, 0, 0]), (38, [20]), (28, [10, 4, 2, 17, 0, 1, 896]), (2, [0, 0]), (0, [98, 1, 0]), (38, [20]), (28, [10, 5, 2, 20, 0, 1, 897]), (2, [0, 0]), (0, [2, 0, 0]), (38, [20]), (28, [10, 6, 2, 23, 0, 1, 898]), (2, [0, 0]), (0, [6, 1, 0]), (38, [20]), (28, [10, 7, 2, 26, 0, 1, 899]), (2, [0, 0]), (0, [6, 1, 0]), (38, [20]), (28, [10, 8, 2, 29, 0, 1, 900]), (2, [0, 0]), (0, [4, 0, 0]), (38, [20]), (28, [10, 9, 2, 32, 0, 1, 901]), (2, [0, 0]), (0, [927, 2, 0]), (38, [20]), (28, [10, 16, 2, 35, 0, 1, 908]), (2, [0, 0]), (0, [2, 0, 0]), (38, [22]), (28, [10, 17, 2, 38, 0, 1, 909]), (2, [0, 0]), (0, [6, 1, 0]), (38, [20]), (28, [10, 18, 2, 42, 0, 1, 910]), (2, [0, 0]), (0, [6, 1, 0]), (38, [20]), (28, [10, 21, 2, 45, 0, 1, 913]), (2, [0, 0]), (0, [6, 1, 0]), (38, [20]), (28, [10, 22, 2, 48, 0, 1, 914]), (2, [0, 0]), (120, [63, 1, 51, 0, 884]), (2, [0, 0]), (120, [64, 1, 54, 0, 888]), (116, [])]
def fd_p51 : List Nat := [0, 1, 4, 5, 8, 10, 13, 14, 15, 17, 20, 21, 22, 24, 27, 28, 30, 32, 35, 36, 37, 39, 42, 43, 45, 47, 50, 51, 53, 55, 58, 59, 60, 62, 65, 66, 69, 71, 74, 75, 76, 78, 81, 82, 84, 86, 89, 90, 92, 94, 97, 98, 100, 102, 105, 106, 109, 110, 113]
-- FacingDoorsModel.in (III)Z
def fd_c52 : List fd_Ins := [(1, [0, 0]), (1, [1, 0]), (103, [8]), (1, [0, 0]), (1, [2, 0]), (105, [8]), (0, [1, 0, 0]), (100, [9]), (0, [0, 0, 0]), (114, [])]
def fd_p52 : List Nat := [0, 1, 2, 5, 6, 7, 10, 11, 14, 15]
-- FacingDoorsModel.type (I)I
def fd_c53 : List fd_Ins := [(1, [1, 0]), (0, [0, 0, 0]), (0, [255, 2, 0]), (121, [52, 3, 57, 0, 970]), (108, [7]), (0, [-1, 0, 0]), (114, []), (2, [0, 0]), (27, [10, 2, 0, 61, 0, 894]), (0, [150, 2, 0]), (102, [13]), (0, [-3, 1, 0]), (114, []), (2, [0, 0]), (27, [10, 1, 2, 7, 0, 893]), (2, [0, 0]), (27, [10, 2, 0, 61, 0, 894]), (1, [1, 0]), (23, []), (33, []), (2, [0, 0]), (24, []), (27, [10, 2, 0, 61, 0, 894]), (0, [1, 0, 0]), (6, []), (28, [10, 2, 0, 61, 0, 0, 894]), (2, [0, 0]), (27, [10, 2, 0, 61, 0, 894]), (114, [])]
def fd_p53 : List Nat := [0, 1, 2, 5, 8, 11, 12, 13, 14, 17, 20, 23, 25, 26, 27, 30, 31, 34, 35, 36, 37, 38, 39, 42, 43, 44, 47, 48, 51]
-- FacingDoorsModel.clear ()I
def fd_c54 : List fd_Ins := [(2, [0, 0]), (27, [10, 2, 0, 61, 0, 894]), (3, [1, 0]), (2, [0, 0]), (0, [0, 0, 0]), (28, [10, 2, 0, 61, 0, 0, 894]), (1, [1, 0]), (114, [])]
def fd_p54 : List Nat := [0, 1, 4, 5, 6, 7, 10, 11]
-- FacingDoorsModel.here ()I
def fd_c55 : List fd_Ins := [(2, [0, 0]), (27, [10, 11, 0, 65, 0, 903]), (2, [0, 0]), (27, [10, 2, 0, 61, 0, 894]), (104, [13]), (2, [0, 0]), (27, [10, 1, 2, 7, 0, 893]), (2, [0, 0]), (27, [10, 11, 0, 65, 0, 903]), (32, []), (0, [255, 2, 0]), (11, []), (100, [14]), (0, [-1, 0, 0]), (114, [])]
def fd_p55 : List Nat := [0, 1, 4, 5, 8, 11, 12, 15, 16, 19, 20, 23, 24, 27, 28]
-- FacingDoorsModel.step ()V
def fd_c56 : List fd_Ins := [(2, [0, 0]), (120, [55, 1, 68, 0, 985]), (0, [32, 1, 0]), (102, [11]), (2, [0, 0]), (24, []), (27, [10, 11, 0, 65, 0, 903]), (0, [1, 0, 0]), (6, []), (28, [10, 11, 0, 65, 0, 0, 903]), (100, [0]), (2, [0, 0]), (2, [0, 0]), (27, [10, 11, 0, 65, 0, 903]), (28, [10, 12, 0, 72, 0, 0, 904]), (2, [0, 0]), (0, [0, 0, 0]), (28, [10, 14, 0, 75, 0, 0, 906]), (2, [0, 0]), (120, [55, 1, 68, 0, 985]), (3, [1, 0]), (1, [1, 0]), (110, [27]), (2, [0, 0]), (0, [3, 0, 0]), (28, [10, 13, 0, 78, 0, 0, 905]), (100, [104]), (1, [1, 0]), (0, [48, 1, 0]), (0, [57, 1, 0]), (121, [52, 3, 57, 0, 970]), (107, [83]), (2, [0, 0]), (120, [55, 1, 68, 0, 985]), (0, [48, 1, 0]), (0, [57, 1, 0]), (121, [52, 3, 57, 0, 970]), (107, [63]), (2, [0, 0]), (2, [0, 0]), (27, [10, 14, 0, 75, 0, 906]), (0, [99, 1, 0]), (106, [46]), (2, [0, 0]), (27, [10, 14, 0, 75, 0, 906]), (100, [55]), (0, [10, 1, 0]), (2, [0, 0]), (27, [10, 14, 0, 75, 0, 906]), (8, []), (2, [0, 0]), (120, [55, 1, 68, 0, 985]), (6, []), (0, [48, 1, 0]), (7, []), (28, [10, 14, 0, 75, 0, 0, 906]), (2, [0, 0]), (24, []), (27, [10, 11, 0, 65, 0, 903]), (0, [1, 0, 0]), (6, []), (28, [10, 11, 0, 65, 0, 0, 903]), (100, [32]), (2, [0, 0]), (2, [0, 0]), (27, [10, 14, 0, 75, 0, 906]), (0, [99, 1, 0]), (105, [78]), (1, [1, 0]), (0, [48, 1, 0]), (102, [80]), (2, [0, 0]), (27, [10, 11, 0, 65, 0, 903]), (2, [0, 0]), (27, [10, 12, 0, 72, 0, 904]), (7, []), (0, [1, 0, 0]), (106, [80]), (0, [4, 0, 0]), (100, [81]), (0, [1, 0, 0]), (28, [10, 13, 0, 78, 0, 0, 905]), (100, [104]), (2, [0, 0]), (24, []), (27, [10, 11, 0, 65, 0, 903]), (0, [1, 0, 0]), (6, []), (28, [10, 11, 0, 65, 0, 0, 903]), (2, [0, 0]), (1, [1, 0]), (0, [59, 1, 0]), (102, [95]), (0, [2, 0, 0]), (100, [103]), (1, [1, 0]), (0, [97, 1, 0]), (0, [122, 1, 0]), (121, [52, 3, 57, 0, 970]), (107, [102]), (1, [1, 0]), (100, [103]), (0, [4, 0, 0]), (28, [10, 13, 0, 78, 0, 0, 905]), (116, [])]
def fd_p56 : List Nat := [0, 1, 4, 6, 9, 10, 11, 14, 15, 16, 19, 22, 23, 24, 27, 30, 31, 32, 35, 36, 39, 40, 41, 44, 45, 46, 49, 52, 53, 55, 57, 60, 63, 64, 67, 69, 71, 74, 77, 78, 79, 82, 84, 87, 88, 91, 94, 96, 97, 100, 101, 102, 105, 106, 108, 109, 112, 113, 114, 117, 118, 119, 122, 125, 126, 127, 130, 132, 135, 136, 138, 141, 142, 145, 146, 149, 150, 151, 154, 155, 158, 159, 162, 165, 166, 167, 170, 171, 172, 175, 176, 177, 179, 182, 183, 186, 187, 189, 191, 194, 197, 198, 201, 202, 205]
-- FacingDoorsModel.due (Z)I
def fd_c57 : List fd_Ins := [(2, [0, 0]), (27, [10, 14, 0, 75, 0, 906]), (3, [2, 0]), (2, [0, 0]), (27, [10, 15, 0, 81, 0, 907]), (0, [-9, 1, 0]), (102, [16]), (1, [1, 0]), (107, [12]), (2, [0, 0]), (120, [56, 1, 84, 0, 981]), (100, [16]), (2, [0, 0]), (2, [0, 0]), (27, [10, 12, 0, 72, 0, 904]), (28, [10, 15, 0, 81, 0, 0, 907]), (1, [2, 0]), (114, [])]
def fd_p57 : List Nat := [0, 1, 4, 5, 6, 9, 11, 14, 15, 18, 19, 22, 25, 26, 27, 30, 33, 34]
-- FacingDoorsModel.number (II)I
def fd_c58 : List fd_Ins := [(2, [0, 0]), (2, [0, 0]), (27, [10, 13, 0, 78, 0, 905]), (0, [1, 0, 0]), (102, [13]), (2, [0, 0]), (27, [10, 14, 0, 75, 0, 906]), (1, [1, 0]), (1, [2, 0]), (121, [52, 3, 57, 0, 970]), (107, [13]), (0, [1, 0, 0]), (100, [14]), (0, [0, 0, 0]), (120, [57, 2, 87, 0, 993]), (114, [])]
def fd_p58 : List Nat := [0, 1, 2, 5, 6, 9, 10, 13, 14, 15, 18, 21, 22, 25, 26, 29]
-- FacingDoorsModel.mayBe (II)Z
def fd_c59 : List fd_Ins := [(1, [1, 0]), (118, [56, 100, 28, 112, 38, 114, 8, 115, 47, 119, 2]), (1, [2, 0]), (108, [6]), (0, [1, 0, 0]), (100, [7]), (0, [0, 0, 0]), (114, []), (2, [0, 0]), (27, [10, 3, 2, 13, 0, 895]), (0, [1, 0, 0]), (30, []), (112, [26]), (2, [0, 0]), (27, [10, 4, 2, 17, 0, 896]), (0, [1, 0, 0]), (30, []), (0, [7, 1, 0]), (104, [26]), (2, [0, 0]), (27, [10, 6, 2, 23, 0, 898]), (0, [1, 0, 0]), (30, []), (108, [26]), (0, [1, 0, 0]), (100, [27]), (0, [0, 0, 0]), (114, []), (2, [0, 0]), (27, [10, 6, 2, 23, 0, 898]), (0, [1, 0, 0]), (30, []), (0, [6, 1, 0]), (104, [36]), (0, [1, 0, 0]), (100, [37]), (0, [0, 0, 0]), (114, []), (2, [0, 0]), (27, [10, 10, 0, 91, 0, 902]), (0, [1, 0, 0]), (11, []), (108, [45]), (0, [1, 0, 0]), (100, [46]), (0, [0, 0, 0]), (114, []), (2, [0, 0]), (27, [10, 10, 0, 91, 0, 902]), (0, [2, 0, 0]), (11, []), (108, [54]), (0, [1, 0, 0]), (100, [55]), (0, [0, 0, 0]), (114, []), (0, [0, 0, 0]), (114, [])]
def fd_p59 : List Nat := [0, 1, 52, 53, 56, 57, 60, 61, 62, 63, 66, 67, 68, 71, 72, 75, 76, 77, 79, 82, 83, 86, 87, 88, 91, 92, 95, 96, 97, 98, 101, 102, 103, 105, 108, 109, 112, 113, 114, 115, 118, 119, 120, 123, 124, 127, 128, 129, 130, 133, 134, 135, 138, 139, 142, 143, 144, 145]
-- FacingDoorsModel.groundOf (I)I
def fd_c60 : List fd_Ins := [(1, [0, 0]), (0, [102, 1, 0]), (102, [5]), (0, [0, 0, 0]), (100, [16]), (1, [0, 0]), (0, [120, 1, 0]), (102, [10]), (0, [1, 0, 0]), (100, [16]), (1, [0, 0]), (0, [116, 1, 0]), (102, [15]), (0, [2, 0, 0]), (100, [16]), (0, [-9, 1, 0]), (114, [])]
def fd_p60 : List Nat := [0, 1, 3, 6, 7, 10, 11, 13, 16, 17, 20, 21, 23, 26, 27, 30, 32]
-- FacingDoorsModel.isFreeDraft (I)Z
def fd_c61 : List fd_Ins := [(2, [0, 0]), (27, [10, 5, 2, 20, 0, 897]), (0, [49, 1, 0]), (1, [1, 0]), (6, []), (30, []), (108, [9]), (0, [1, 0, 0]), (100, [10]), (0, [0, 0, 0]), (3, [2, 0]), (0, [0, 0, 0]), (3, [3, 0]), (1, [3, 0]), (2, [0, 0]), (27, [10, 6, 2, 23, 0, 898]), (0, [1, 0, 0]), (30, []), (104, [33]), (1, [2, 0]), (107, [29]), (2, [0, 0]), (27, [10, 7, 2, 26, 0, 899]), (1, [3, 0]), (30, []), (1, [1, 0]), (101, [29]), (0, [1, 0, 0]), (100, [30]), (0, [0, 0, 0]), (3, [2, 0]), (5, [3, 1]), (100, [13]), (1, [2, 0]), (114, [])]
def fd_p61 : List Nat := [0, 1, 4, 6, 7, 8, 9, 12, 13, 16, 17, 18, 19, 20, 21, 22, 25, 26, 27, 30, 31, 34, 35, 38, 39, 40, 41, 44, 45, 48, 49, 50, 53, 56, 57]
-- FacingDoorsModel.readRow (I)V
def fd_c62 : List fd_Ins := [(1, [1, 0]), (118, [156, 100, 61, 112, 141, 114, 11, 119, 2]), (2, [0, 0]), (27, [10, 3, 2, 13, 0, 895]), (0, [1, 0, 0]), (2, [0, 0]), (0, [1, 0, 0]), (0, [7, 1, 0]), (120, [58, 3, 94, 0, 1001]), (31, []), (100, [170]), (0, [0, 0, 0]), (3, [2, 0]), (1, [2, 0]), (2, [0, 0]), (27, [10, 3, 2, 13, 0, 895]), (0, [1, 0, 0]), (30, []), (104, [52]), (2, [0, 0]), (27, [10, 15, 0, 81, 0, 907]), (0, [-9, 1, 0]), (102, [52]), (2, [0, 0]), (27, [10, 5, 2, 20, 0, 897]), (0, [49, 1, 0]), (0, [7, 1, 0]), (2, [0, 0]), (27, [10, 4, 2, 17, 0, 896]), (0, [1, 0, 0]), (30, []), (8, []), (6, []), (1, [2, 0]), (6, []), (2, [0, 0]), (27, [10, 13, 0, 78, 0, 905]), (121, [60, 1, 98, 0, 1005]), (31, []), (2, [0, 0]), (2, [0, 0]), (27, [10, 13, 0, 78, 0, 905]), (121, [60, 1, 98, 0, 1005]), (0, [-9, 1, 0]), (101, [47]), (0, [1, 0, 0]), (100, [48]), (0, [0, 0, 0]), (120, [57, 2, 87, 0, 993]), (26, []), (5, [2, 1]), (100, [13]), (2, [0, 0]), (27, [10, 4, 2, 17, 0, 896]), (0, [1, 0, 0]), (25, []), (30, []), (0, [1, 0, 0]), (6, []), (31, []), (100, [170]), (2, [0, 0]), (0, [0, 0, 0]), (2, [0, 0]), (27, [10, 3, 2, 13, 0, 895]), (0, [1, 0, 0]), (30, []), (0, [1, 0, 0]), (7, []), (120, [58, 3, 94, 0, 1001]), (3, [2, 0]), (2, [0, 0]), (2, [0, 0]), (27, [10, 13, 0, 78, 0, 905]), (0, [1, 0, 0]), (102, [100]), (2, [0, 0]), (27, [10, 14, 0, 75, 0, 906]), (2, [0, 0]), (27, [10, 4, 2, 17, 0, 896]), (0, [1, 0, 0]), (30, []), (104, [100]), (2, [0, 0]), (0, [7, 1, 0]), (2, [0, 0]), (27, [10, 14, 0, 75, 0, 906]), (8, []), (2, [0, 0]), (27, [10, 15, 0, 81, 0, 907]), (0, [-9, 1, 0]), (102, [94]), (1, [2, 0]), (100, [95]), (0, [0, 0, 0]), (6, []), (120, [61, 2, 102, 0, 1008]), (107, [100]), (0, [1, 0, 0]), (100, [101]), (0, [0, 0, 0]), (120, [57, 2, 87, 0, 993]), (3, [3, 0]), (2, [0, 0]), (0, [0, 0, 0]), (0, [3, 0, 0]), (120, [58, 3, 94, 0, 1001]), (3, [4, 1]), (2, [0, 0]), (27, [10, 15, 0, 81, 0, 907]), (0, [-9, 1, 0]), (102, [132]), (2, [0, 0]), (27, [10, 7, 2, 26, 0, 899]), (2, [0, 0]), (27, [10, 6, 2, 23, 0, 898]), (0, [1, 0, 0]), (30, []), (0, [7, 1, 0]), (1, [3, 0]), (8, []), (1, [2, 0]), (6, []), (31, []), (2, [0, 0]), (27, [10, 8, 2, 29, 0, 900]), (2, [0, 0]), (27, [10, 6, 2, 23, 0, 898]), (0, [1, 0, 0]), (30, []), (1, [4, 1]), (31, []), (2, [0, 0]), (27, [10, 6, 2, 23, 0, 898]), (0, [1, 0, 0]), (25, []), (30, []), (0, [1, 0, 0]), (6, []), (31, []), (100, [170]), (2, [0, 0]), (27, [10, 9, 2, 32, 0, 901]), (0, [2, 0, 0]), (2, [0, 0]), (0, [1, 0, 0]), (0, [9, 1, 0]), (120, [58, 3, 94, 0, 1001]), (31, []), (2, [0, 0]), (24, []), (27, [10, 10, 0, 91, 0, 902]), (0, [1, 0, 0]), (12, []), (28, [10, 10, 0, 91, 0, 0, 902]), (100, [170]), (2, [0, 0]), (27, [10, 9, 2, 32, 0, 901]), (0, [3, 0, 0]), (2, [0, 0]), (0, [1, 0, 0]), (0, [7, 1, 0]), (120, [58, 3, 94, 0, 1001]), (31, []), (2, [0, 0]), (24, []), (27, [10, 10, 0, 91, 0, 902]), (0, [2, 0, 0]), (12, []), (28, [10, 10, 0, 91, 0, 0, 902]), (116, [])]
def fd_p62 : List Nat := [0, 1, 44, 45, 48, 49, 50, 51, 53, 56, 57, 60, 61, 62, 63, 64, 67, 68, 69, 72, 73, 76, 78, 81, 82, 85, 87, 89, 90, 93, 94, 95, 96, 97, 98, 99, 100, 103, 106, 107, 108, 109, 112, 115, 117, 120, 121, 124, 125, 128, 129, 132, 135, 136, 139, 140, 141, 142, 143, 144, 145, 148, 149, 150, 151, 154, 155, 156, 157, 158, 161, 162, 163, 164, 167, 168, 171, 172, 175, 176, 179, 180, 181, 184, 185, 187, 188, 191, 192, 193, 196, 198, 201, 202, 205, 206, 207, 210, 213, 214, 217, 218, 221, 222, 223, 224, 225, 228, 230, 231, 234, 236, 239, 240, 243, 244, 247, 248, 249, 251, 252, 253, 254, 255, 256, 257, 260, 261, 264, 265, 266, 268, 269, 270, 273, 274, 275, 276, 277, 278, 279, 282, 283, 286, 287, 288, 289, 291, 294, 295, 296, 297, 300, 301, 302, 305, 308, 309, 312, 313, 314, 315, 317, 320, 321, 322, 323, 326, 327, 328, 331]
-- FacingDoorsModel.plain ()V
def fd_c63 : List fd_Ins := [(2, [0, 0]), (27, [10, 3, 2, 13, 0, 895]), (0, [1, 0, 0]), (0, [0, 0, 0]), (31, []), (2, [0, 0]), (27, [10, 4, 2, 17, 0, 896]), (0, [1, 0, 0]), (0, [0, 0, 0]), (31, []), (2, [0, 0]), (27, [10, 6, 2, 23, 0, 898]), (0, [1, 0, 0]), (0, [0, 0, 0]), (31, []), (2, [0, 0]), (27, [10, 9, 2, 32, 0, 901]), (0, [2, 0, 0]), (0, [1, 0, 0]), (31, []), (2, [0, 0]), (27, [10, 9, 2, 32, 0, 901]), (0, [3, 0, 0]), (0, [7, 1, 0]), (31, []), (2, [0, 0]), (0, [0, 0, 0]), (28, [10, 10, 0, 91, 0, 0, 902]), (0, [0, 0, 0]), (3, [1, 0]), (1, [1, 0]), (0, [49, 1, 0]), (104, [42]), (2, [0, 0]), (27, [10, 5, 2, 20, 0, 897]), (0, [49, 1, 0]), (1, [1, 0]), (6, []), (0, [0, 0, 0]), (31, []), (5, [1, 1]), (100, [30]), (116, [])]
def fd_p63 : List Nat := [0, 1, 4, 5, 6, 7, 8, 11, 12, 13, 14, 15, 18, 19, 20, 21, 22, 25, 26, 27, 28, 29, 32, 33, 35, 36, 37, 38, 41, 42, 43, 44, 46, 49, 50, 53, 55, 56, 57, 58, 59, 62, 65]
-- FacingDoorsModel.takeDraft ()V
def fd_c64 : List fd_Ins := [(2, [0, 0]), (27, [10, 3, 2, 13, 0, 895]), (0, [0, 0, 0]), (2, [0, 0]), (27, [10, 3, 2, 13, 0, 895]), (0, [1, 0, 0]), (30, []), (31, []), (2, [0, 0]), (27, [10, 4, 2, 17, 0, 896]), (0, [0, 0, 0]), (2, [0, 0]), (27, [10, 4, 2, 17, 0, 896]), (0, [1, 0, 0]), (30, []), (31, []), (2, [0, 0]), (27, [10, 6, 2, 23, 0, 898]), (0, [0, 0, 0]), (2, [0, 0]), (27, [10, 6, 2, 23, 0, 898]), (0, [1, 0, 0]), (30, []), (31, []), (2, [0, 0]), (27, [10, 9, 2, 32, 0, 901]), (0, [0, 0, 0]), (2, [0, 0]), (27, [10, 9, 2, 32, 0, 901]), (0, [2, 0, 0]), (30, []), (31, []), (2, [0, 0]), (27, [10, 9, 2, 32, 0, 901]), (0, [1, 0, 0]), (2, [0, 0]), (27, [10, 9, 2, 32, 0, 901]), (0, [3, 0, 0]), (30, []), (31, []), (0, [0, 0, 0]), (3, [1, 0]), (1, [1, 0]), (0, [49, 1, 0]), (104, [57]), (2, [0, 0]), (27, [10, 5, 2, 20, 0, 897]), (1, [1, 0]), (2, [0, 0]), (27, [10, 5, 2, 20, 0, 897]), (0, [49, 1, 0]), (1, [1, 0]), (6, []), (30, []), (31, []), (5, [1, 1]), (100, [42]), (0, [0, 0, 0]), (3, [1, 0]), (1, [1, 0]), (0, [28, 1, 0]), (104, [69]), (2, [0, 0]), (27, [10, 16, 2, 35, 0, 908]), (1, [1, 0]), (0, [0, 0, 0]), (31, []), (5, [1, 1]), (100, [59]), (0, [0, 0, 0]), (3, [1, 0]), (1, [1, 0]), (2, [0, 0]), (27, [10, 6, 2, 23, 0, 898]), (0, [0, 0, 0]), (30, []), (104, [99]), (2, [0, 0]), (27, [10, 16, 2, 35, 0, 908]), (0, [0, 0, 0]), (1, [1, 0]), (6, []), (2, [0, 0]), (27, [10, 7, 2, 26, 0, 899]), (1, [1, 0]), (30, []), (31, []), (2, [0, 0]), (27, [10, 16, 2, 35, 0, 908]), (0, [6, 1, 0]), (1, [1, 0]), (6, []), (2, [0, 0]), (27, [10, 8, 2, 29, 0, 900]), (1, [1, 0]), (30, []), (31, []), (5, [1, 1]), (100, [71]), (2, [0, 0]), (27, [10, 16, 2, 35, 0, 908]), (0, [12, 1, 0]), (0, [1, 0, 0]), (2, [0, 0]), (27, [10, 6, 2, 23, 0, 898]), (0, [0, 0, 0]), (30, []), (14, []), (0, [1, 0, 0]), (7, []), (31, []), (2, [0, 0]), (27, [10, 16, 2, 35, 0, 908]), (0, [13, 1, 0]), (0, [1, 0, 0]), (31, []), (2, [0, 0]), (27, [10, 16, 2, 35, 0, 908]), (0, [28, 1, 0]), (0, [0, 0, 0]), (31, []), (2, [0, 0]), (0, [0, 0, 0]), (28, [10, 23, 0, 106, 0, 0, 915]), (2, [0, 0]), (27, [10, 17, 2, 38, 0, 909]), (0, [0, 0, 0]), (0, [0, 0, 0]), (33, []), (2, [0, 0]), (27, [10, 17, 2, 38, 0, 909]), (0, [1, 0, 0]), (0, [0, 0, 0]), (33, []), (116, [])]
def fd_p64 : List Nat := [0, 1, 4, 5, 6, 9, 10, 11, 12, 13, 16, 17, 18, 21, 22, 23, 24, 25, 28, 29, 30, 33, 34, 35, 36, 37, 40, 41, 42, 45, 46, 47, 48, 49, 52, 53, 54, 57, 58, 59, 60, 61, 62, 63, 65, 68, 69, 72, 73, 74, 77, 79, 80, 81, 82, 83, 86, 89, 90, 91, 92, 94, 97, 98, 101, 102, 103, 104, 107, 110, 111, 112, 113, 114, 117, 118, 119, 122, 123, 126, 127, 128, 129, 130, 133, 134, 135, 136, 137, 140, 142, 143, 144, 145, 148, 149, 150, 151, 154, 157, 158, 161, 163, 164, 165, 168, 169, 170, 171, 172, 173, 174, 175, 178, 180, 181, 182, 183, 186, 188, 189, 190, 191, 192, 195, 196, 199, 200, 201, 202, 203, 206, 207, 208, 209]
-- FacingDoorsModel.quarter ()I
def fd_c65 : List fd_Ins := [(2, [0, 0]), (0, [0, 0, 0]), (28, [10, 11, 0, 65, 0, 0, 903]), (2, [0, 0]), (0, [-9, 1, 0]), (28, [10, 15, 0, 81, 0, 0, 907]), (2, [0, 0]), (120, [63, 1, 51, 0, 884]), (0, [0, 0, 0]), (3, [1, 0]), (2, [0, 0]), (120, [56, 1, 84, 0, 981]), (2, [0, 0]), (27, [10, 15, 0, 81, 0, 907]), (0, [-9, 1, 0]), (102, [49]), (2, [0, 0]), (27, [10, 13, 0, 78, 0, 905]), (0, [3, 0, 0]), (101, [49]), (2, [0, 0]), (27, [10, 13, 0, 78, 0, 905]), (3, [2, 0]), (2, [0, 0]), (2, [0, 0]), (1, [2, 0]), (1, [1, 0]), (120, [59, 3, 109, 0, 989]), (120, [57, 2, 87, 0, 993]), (26, []), (2, [0, 0]), (27, [10, 15, 0, 81, 0, 907]), (0, [-9, 1, 0]), (102, [48]), (2, [0, 0]), (1, [2, 0]), (120, [62, 2, 113, 0, 997]), (2, [0, 0]), (2, [0, 0]), (27, [10, 13, 0, 78, 0, 905]), (0, [2, 0, 0]), (102, [44]), (0, [1, 0, 0]), (100, [45]), (0, [0, 0, 0]), (120, [57, 2, 87, 0, 993]), (26, []), (5, [1, 1]), (100, [12]), (2, [0, 0]), (27, [10, 15, 0, 81, 0, 907]), (0, [-9, 1, 0]), (101, [58]), (0, [-10, 1, 0]), (2, [0, 0]), (27, [10, 15, 0, 81, 0, 907]), (7, []), (114, []), (2, [0, 0]), (120, [64, 1, 54, 0, 888]), (2, [0, 0]), (0, [0, 0, 0]), (28, [10, 2, 0, 61, 0, 0, 894]), (1, [1, 0]), (114, [])]
def fd_p65 : List Nat := [0, 1, 2, 5, 6, 8, 11, 12, 15, 16, 17, 18, 21, 22, 25, 27, 30, 31, 34, 35, 38, 39, 42, 43, 44, 45, 46, 47, 50, 53, 54, 55, 58, 60, 63, 64, 65, 68, 69, 70, 73, 74, 77, 78, 81, 82, 85, 86, 89, 92, 93, 96, 98, 101, 103, 104, 107, 108, 109, 110, 113, 114, 115, 118, 119]
-- FacingDoorsModel.isDoor (I)Z
def fd_c66 : List fd_Ins := [(1, [1, 0]), (0, [0, 0, 0]), (2, [0, 0]), (27, [10, 6, 2, 23, 0, 898]), (0, [0, 0, 0]), (30, []), (0, [1, 0, 0]), (7, []), (121, [52, 3, 57, 0, 970]), (114, [])]
def fd_p66 : List Nat := [0, 1, 2, 3, 6, 7, 8, 9, 10, 13]
-- FacingDoorsModel.isCell (II)Z
def fd_c67 : List fd_Ins := [(1, [1, 0]), (0, [0, 0, 0]), (2, [0, 0]), (27, [10, 3, 2, 13, 0, 895]), (0, [0, 0, 0]), (30, []), (0, [1, 0, 0]), (7, []), (121, [52, 3, 57, 0, 970]), (107, [22]), (1, [2, 0]), (0, [0, 0, 0]), (2, [0, 0]), (27, [10, 4, 2, 17, 0, 896]), (0, [0, 0, 0]), (30, []), (0, [1, 0, 0]), (7, []), (121, [52, 3, 57, 0, 970]), (107, [22]), (0, [1, 0, 0]), (100, [23]), (0, [0, 0, 0]), (114, [])]
def fd_p67 : List Nat := [0, 1, 2, 3, 6, 7, 8, 9, 10, 13, 16, 17, 18, 19, 22, 23, 24, 25, 26, 29, 32, 33, 36, 37]
-- FacingDoorsModel.hasCart (II)Z
def fd_c68 : List fd_Ins := [(2, [0, 0]), (27, [10, 16, 2, 35, 0, 908]), (0, [21, 1, 0]), (1, [2, 0]), (6, []), (30, []), (1, [1, 0]), (15, []), (0, [1, 0, 0]), (11, []), (0, [1, 0, 0]), (102, [14]), (0, [1, 0, 0]), (100, [15]), (0, [0, 0, 0]), (114, [])]
def fd_p68 : List Nat := [0, 1, 4, 6, 7, 8, 9, 10, 11, 12, 13, 14, 17, 18, 21, 22]
-- FacingDoorsModel.doorAt (II)I
def fd_c69 : List fd_Ins := [(0, [0, 0, 0]), (3, [3, 0]), (1, [3, 0]), (2, [0, 0]), (27, [10, 6, 2, 23, 0, 898]), (0, [0, 0, 0]), (30, []), (104, [24]), (2, [0, 0]), (27, [10, 16, 2, 35, 0, 908]), (0, [0, 0, 0]), (1, [3, 0]), (6, []), (30, []), (0, [7, 1, 0]), (1, [2, 0]), (8, []), (1, [1, 0]), (6, []), (102, [22]), (1, [3, 0]), (114, []), (5, [3, 1]), (100, [2]), (0, [-9, 1, 0]), (114, [])]
def fd_p69 : List Nat := [0, 1, 2, 3, 4, 7, 8, 9, 12, 13, 16, 17, 18, 19, 20, 22, 23, 24, 25, 26, 29, 30, 31, 34, 37, 39]
-- FacingDoorsModel.cell (II)I
def fd_c70 : List fd_Ins := [(2, [0, 0]), (1, [1, 0]), (1, [2, 0]), (120, [67, 3, 117, 0, 1016]), (108, [7]), (0, [-1, 0, 0]), (114, []), (2, [0, 0]), (1, [1, 0]), (1, [2, 0]), (120, [69, 3, 120, 0, 1020]), (3, [3, 0]), (1, [3, 0]), (0, [-9, 1, 0]), (101, [19]), (0, [10, 1, 0]), (1, [3, 0]), (6, []), (100, [34]), (2, [0, 0]), (1, [1, 0]), (1, [2, 0]), (120, [68, 3, 123, 0, 1024]), (107, [26]), (0, [3, 0, 0]), (100, [34]), (2, [0, 0]), (27, [10, 5, 2, 20, 0, 897]), (0, [7, 1, 0]), (1, [2, 0]), (8, []), (1, [1, 0]), (6, []), (30, []), (114, [])]
def fd_p70 : List Nat := [0, 1, 2, 3, 6, 9, 10, 11, 12, 13, 14, 17, 18, 19, 21, 24, 26, 27, 28, 31, 32, 33, 34, 37, 40, 41, 44, 45, 48, 50, 51, 52, 53, 54, 55]
-- FacingDoorsModel.manyOf (I)I
def fd_c71 : List fd_Ins := [(0, [0, 0, 0]), (3, [1, 0]), (0, [0, 0, 0]), (3, [2, 0]), (1, [2, 0]), (0, [7, 1, 0]), (104, [17]), (1, [1, 0]), (1, [0, 0]), (1, [2, 0]), (15, []), (0, [1, 0, 0]), (11, []), (6, []), (3, [1, 0]), (5, [2, 1]), (100, [4]), (1, [1, 0]), (114, [])]
def fd_p71 : List Nat := [0, 1, 2, 3, 4, 5, 7, 10, 11, 12, 13, 14, 15, 16, 17, 18, 21, 24, 25]
-- FacingDoorsModel.take ()V
def fd_c72 : List fd_Ins := [(0, [0, 0, 0]), (3, [1, 0]), (1, [1, 0]), (0, [6, 1, 0]), (104, [17]), (2, [0, 0]), (27, [10, 18, 2, 42, 0, 910]), (1, [1, 0]), (2, [0, 0]), (27, [10, 16, 2, 35, 0, 908]), (0, [6, 1, 0]), (1, [1, 0]), (6, []), (30, []), (31, []), (5, [1, 1]), (100, [2]), (2, [0, 0]), (2, [0, 0]), (27, [10, 16, 2, 35, 0, 908]), (0, [12, 1, 0]), (30, []), (28, [10, 19, 0, 126, 0, 0, 911]), (2, [0, 0]), (2, [0, 0]), (27, [10, 16, 2, 35, 0, 908]), (0, [14, 1, 0]), (30, []), (0, [1, 0, 0]), (102, [32]), (0, [1, 0, 0]), (100, [33]), (0, [0, 0, 0]), (28, [10, 20, 3, 129, 0, 0, 912]), (116, [])]
def fd_p72 : List Nat := [0, 1, 2, 3, 5, 8, 9, 12, 13, 14, 17, 19, 20, 21, 22, 23, 26, 29, 30, 31, 34, 36, 37, 40, 41, 42, 45, 47, 48, 49, 52, 53, 56, 57, 60]
-- FacingDoorsModel.stepX (I)I
def fd_c73 : List fd_Ins := [(1, [0, 0]), (0, [1, 0, 0]), (102, [5]), (0, [1, 0, 0]), (100, [11]), (1, [0, 0]), (0, [3, 0, 0]), (102, [10]), (0, [-1, 0, 0]), (100, [11]), (0, [0, 0, 0]), (114, [])]
def fd_p73 : List Nat := [0, 1, 2, 5, 6, 9, 10, 11, 14, 15, 18, 19]
-- FacingDoorsModel.stepY (I)I
def fd_c74 : List fd_Ins := [(1, [0, 0]), (0, [2, 0, 0]), (102, [5]), (0, [1, 0, 0]), (100, [10]), (1, [0, 0]), (108, [9]), (0, [-1, 0, 0]), (100, [10]), (0, [0, 0, 0]), (114, [])]
def fd_p74 : List Nat := [0, 1, 2, 5, 6, 9, 10, 13, 14, 17, 18]
-- FacingDoorsModel.sees (I)I
def fd_c75 : List fd_Ins := [(2, [0, 0]), (27, [10, 19, 0, 126, 0, 911]), (1, [1, 0]), (15, []), (0, [1, 0, 0]), (11, []), (107, [10]), (2, [0, 0]), (27, [10, 20, 3, 129, 0, 912]), (107, [12]), (0, [-9, 1, 0]), (114, []), (2, [0, 0]), (27, [10, 16, 2, 35, 0, 908]), (0, [0, 0, 0]), (1, [1, 0]), (6, []), (30, []), (0, [7, 1, 0]), (10, []), (3, [2, 0]), (2, [0, 0]), (27, [10, 16, 2, 35, 0, 908]), (0, [0, 0, 0]), (1, [1, 0]), (6, []), (30, []), (0, [7, 1, 0]), (9, []), (3, [3, 0]), (0, [0, 0, 0]), (3, [4, 1]), (1, [4, 1]), (2, [0, 0]), (27, [10, 9, 2, 32, 0, 901]), (0, [1, 0, 0]), (30, []), (104, [88]), (1, [2, 0]), (2, [0, 0]), (27, [10, 18, 2, 42, 0, 910]), (1, [1, 0]), (30, []), (121, [73, 1, 133, 0, 1044]), (6, []), (3, [2, 0]), (1, [3, 0]), (2, [0, 0]), (27, [10, 18, 2, 42, 0, 910]), (1, [1, 0]), (30, []), (121, [74, 1, 136, 0, 1047]), (6, []), (3, [3, 0]), (2, [0, 0]), (1, [2, 0]), (1, [3, 0]), (120, [70, 3, 139, 0, 1050]), (3, [5, 1]), (1, [5, 1]), (0, [10, 1, 0]), (103, [66]), (1, [5, 1]), (0, [10, 1, 0]), (7, []), (114, []), (1, [5, 1]), (0, [-1, 0, 0]), (101, [84]), (1, [5, 1]), (0, [1, 0, 0]), (101, [84]), (1, [5, 1]), (0, [3, 0, 0]), (101, [84]), (1, [5, 1]), (0, [2, 0, 0]), (102, [86]), (2, [0, 0]), (27, [10, 16, 2, 35, 0, 908]), (0, [13, 1, 0]), (30, []), (0, [1, 0, 0]), (102, [86]), (0, [-9, 1, 0]), (114, []), (5, [4, 1]), (100, [32]), (0, [-9, 1, 0]), (114, [])]
def fd_p75 : List Nat := [0, 1, 4, 5, 6, 7, 8, 11, 12, 15, 18, 20, 21, 22, 25, 26, 27, 28, 29, 31, 32, 33, 34, 37, 38, 39, 40, 41, 43, 44, 45, 46, 48, 50, 51, 54, 55, 56, 59, 60, 61, 64, 65, 66, 69, 70, 71, 72, 73, 76, 77, 78, 81, 82, 83, 84, 85, 86, 89, 91, 93, 95, 98, 100, 102, 103, 104, 106, 107, 110, 112, 113, 116, 118, 119, 122, 124, 125, 128, 129, 132, 134, 135, 136, 139, 141, 142, 145, 148, 150]
-- FacingDoorsModel.dueOf (I)I
def fd_c76 : List fd_Ins := [(2, [0, 0]), (1, [1, 0]), (120, [75, 2, 142, 0, 1040]), (3, [2, 0]), (1, [2, 0]), (0, [-9, 1, 0]), (102, [9]), (0, [0, 0, 0]), (100, [33]), (2, [0, 0]), (27, [10, 18, 2, 42, 0, 910]), (1, [2, 0]), (30, []), (2, [0, 0]), (27, [10, 18, 2, 42, 0, 910]), (1, [1, 0]), (30, []), (0, [2, 0, 0]), (6, []), (0, [4, 0, 0]), (10, []), (102, [29]), (0, [2, 0, 0]), (2, [0, 0]), (27, [10, 9, 2, 32, 0, 901]), (0, [0, 0, 0]), (30, []), (8, []), (100, [33]), (2, [0, 0]), (27, [10, 9, 2, 32, 0, 901]), (0, [0, 0, 0]), (30, []), (114, [])]
def fd_p76 : List Nat := [0, 1, 2, 5, 6, 7, 9, 12, 13, 16, 17, 20, 21, 22, 23, 26, 27, 28, 29, 30, 31, 32, 35, 36, 37, 40, 41, 42, 43, 46, 47, 50, 51, 52]
-- FacingDoorsModel.dues ()I
def fd_c77 : List fd_Ins := [(0, [0, 0, 0]), (3, [1, 0]), (0, [0, 0, 0]), (3, [2, 0]), (1, [2, 0]), (2, [0, 0]), (27, [10, 6, 2, 23, 0, 898]), (0, [0, 0, 0]), (30, []), (104, [18]), (1, [1, 0]), (2, [0, 0]), (1, [2, 0]), (120, [76, 2, 145, 0, 1051]), (6, []), (3, [1, 0]), (5, [2, 1]), (100, [4]), (1, [1, 0]), (114, [])]
def fd_p77 : List Nat := [0, 1, 2, 3, 4, 5, 6, 9, 10, 11, 14, 15, 16, 17, 20, 21, 22, 25, 28, 29]
-- FacingDoorsModel.hasWay (I)Z
def fd_c78 : List fd_Ins := [(2, [0, 0]), (2, [0, 0]), (27, [10, 16, 2, 35, 0, 908]), (0, [0, 0, 0]), (1, [1, 0]), (6, []), (30, []), (0, [7, 1, 0]), (10, []), (2, [0, 0]), (27, [10, 18, 2, 42, 0, 910]), (1, [1, 0]), (30, []), (121, [73, 1, 133, 0, 1044]), (6, []), (2, [0, 0]), (27, [10, 16, 2, 35, 0, 908]), (0, [0, 0, 0]), (1, [1, 0]), (6, []), (30, []), (0, [7, 1, 0]), (9, []), (2, [0, 0]), (27, [10, 18, 2, 42, 0, 910]), (1, [1, 0]), (30, []), (121, [74, 1, 136, 0, 1047]), (6, []), (120, [70, 3, 139, 0, 1050]), (108, [33]), (0, [1, 0, 0]), (100, [34]), (0, [0, 0, 0]), (114, [])]
def fd_p78 : List Nat := [0, 1, 2, 5, 6, 7, 8, 9, 11, 12, 13, 16, 17, 18, 21, 22, 23, 26, 27, 28, 29, 30, 32, 33, 34, 37, 38, 39, 42, 43, 46, 49, 50, 53, 54]
-- FacingDoorsModel.seenBy (I)I
def fd_c79 : List fd_Ins := [(0, [0, 0, 0]), (3, [2, 0]), (0, [0, 0, 0]), (3, [3, 0]), (1, [3, 0]), (2, [0, 0]), (27, [10, 6, 2, 23, 0, 898]), (0, [0, 0, 0]), (30, []), (104, [25]), (1, [2, 0]), (2, [0, 0]), (1, [3, 0]), (120, [75, 2, 142, 0, 1040]), (1, [1, 0]), (102, [20]), (0, [1, 0, 0]), (1, [3, 0]), (14, []), (100, [21]), (0, [0, 0, 0]), (12, []), (3, [2, 0]), (5, [3, 1]), (100, [4]), (1, [2, 0]), (114, [])]
def fd_p79 : List Nat := [0, 1, 2, 3, 4, 5, 6, 9, 10, 11, 14, 15, 16, 17, 20, 21, 24, 25, 26, 27, 30, 31, 32, 33, 36, 39, 40]
-- FacingDoorsModel.door (II)I
def fd_c80 : List fd_Ins := [(2, [0, 0]), (1, [1, 0]), (120, [66, 2, 148, 0, 1032]), (108, [6]), (0, [-1, 0, 0]), (114, []), (2, [0, 0]), (120, [72, 1, 151, 0, 1036]), (1, [2, 0]), (113, [80, 0, 10, 19, 28, 35, 44, 57, 61, 69, 73]), (2, [0, 0]), (27, [10, 16, 2, 35, 0, 908]), (0, [0, 0, 0]), (1, [1, 0]), (6, []), (30, []), (0, [7, 1, 0]), (10, []), (114, []), (2, [0, 0]), (27, [10, 16, 2, 35, 0, 908]), (0, [0, 0, 0]), (1, [1, 0]), (6, []), (30, []), (0, [7, 1, 0]), (9, []), (114, []), (2, [0, 0]), (27, [10, 16, 2, 35, 0, 908]), (0, [6, 1, 0]), (1, [1, 0]), (6, []), (30, []), (114, []), (2, [0, 0]), (27, [10, 16, 2, 35, 0, 908]), (0, [12, 1, 0]), (30, []), (1, [1, 0]), (15, []), (0, [1, 0, 0]), (11, []), (114, []), (2, [0, 0]), (1, [1, 0]), (120, [75, 2, 142, 0, 1040]), (0, [-9, 1, 0]), (102, [51]), (0, [0, 0, 0]), (100, [56]), (0, [1, 0, 0]), (2, [0, 0]), (1, [1, 0]), (120, [75, 2, 142, 0, 1040]), (14, []), (114, []), (2, [0, 0]), (1, [1, 0]), (120, [76, 2, 145, 0, 1051]), (114, []), (2, [0, 0]), (1, [1, 0]), (120, [78, 2, 154, 0, 1055]), (107, [67]), (0, [1, 0, 0]), (100, [68]), (0, [0, 0, 0]), (114, []), (2, [0, 0]), (1, [1, 0]), (120, [79, 2, 157, 0, 1059]), (114, []), (2, [0, 0]), (27, [10, 16, 2, 35, 0, 908]), (0, [15, 1, 0]), (1, [1, 0]), (6, []), (30, []), (114, []), (0, [-1, 0, 0]), (114, [])]
def fd_p80 : List Nat := [0, 1, 2, 5, 8, 9, 10, 11, 14, 15, 64, 65, 68, 69, 70, 71, 72, 74, 75, 76, 77, 80, 81, 82, 83, 84, 86, 87, 88, 89, 92, 94, 95, 96, 97, 98, 99, 102, 104, 105, 106, 107, 108, 109, 110, 111, 112, 115, 117, 120, 121, 124, 125, 126, 127, 130, 131, 132, 133, 134, 137, 138, 139, 140, 143, 146, 147, 150, 151, 152, 153, 154, 157, 158, 159, 162, 164, 165, 166, 167, 168, 169]
-- FacingDoorsModel.know ()V
def fd_c81 : List fd_Ins := [(2, [0, 0]), (27, [10, 16, 2, 35, 0, 908]), (0, [28, 1, 0]), (30, []), (0, [10, 1, 0]), (102, [33]), (0, [0, 0, 0]), (3, [1, 0]), (1, [1, 0]), (0, [252, 2, 0]), (104, [25]), (2, [0, 0]), (27, [10, 16, 2, 35, 0, 908]), (0, [29, 1, 0]), (1, [1, 0]), (6, []), (2, [0, 0]), (27, [10, 16, 2, 35, 0, 908]), (0, [57, 1, 0]), (1, [1, 0]), (6, []), (30, []), (31, []), (5, [1, 1]), (100, [8]), (2, [0, 0]), (27, [10, 16, 2, 35, 0, 908]), (0, [28, 1, 0]), (25, []), (30, []), (0, [1, 0, 0]), (7, []), (31, []), (0, [0, 0, 0]), (3, [1, 0]), (1, [1, 0]), (0, [28, 1, 0]), (104, [57]), (2, [0, 0]), (27, [10, 16, 2, 35, 0, 908]), (0, [29, 1, 0]), (0, [28, 1, 0]), (2, [0, 0]), (27, [10, 16, 2, 35, 0, 908]), (0, [28, 1, 0]), (30, []), (8, []), (6, []), (1, [1, 0]), (6, []), (2, [0, 0]), (27, [10, 16, 2, 35, 0, 908]), (1, [1, 0]), (30, []), (31, []), (5, [1, 1]), (100, [35]), (2, [0, 0]), (27, [10, 16, 2, 35, 0, 908]), (0, [28, 1, 0]), (25, []), (30, []), (0, [1, 0, 0]), (6, []), (31, []), (116, [])]
def fd_p81 : List Nat := [0, 1, 4, 6, 7, 9, 12, 13, 14, 15, 18, 21, 22, 25, 27, 28, 29, 30, 33, 35, 36, 37, 38, 39, 42, 45, 46, 49, 51, 52, 53, 54, 55, 56, 57, 58, 59, 61, 64, 65, 68, 70, 72, 73, 76, 78, 79, 80, 81, 82, 83, 84, 87, 88, 89, 90, 93, 96, 97, 100, 102, 103, 104, 105, 106, 107]
-- FacingDoorsModel.duesNow ()I
def fd_c82 : List fd_Ins := [(2, [0, 0]), (120, [72, 1, 151, 0, 1036]), (2, [0, 0]), (120, [77, 1, 160, 0, 1102]), (114, [])]
def fd_p82 : List Nat := [0, 1, 4, 5, 8]
-- FacingDoorsModel.hinges (II)I
def fd_c83 : List fd_Ins := [(2, [0, 0]), (1, [1, 0]), (120, [66, 2, 148, 0, 1032]), (107, [9]), (1, [2, 0]), (0, [0, 0, 0]), (0, [3, 0, 0]), (121, [52, 3, 57, 0, 970]), (108, [11]), (0, [-1, 0, 0]), (114, []), (2, [0, 0]), (27, [10, 16, 2, 35, 0, 908]), (0, [6, 1, 0]), (1, [1, 0]), (6, []), (30, []), (3, [3, 0]), (1, [3, 0]), (1, [2, 0]), (102, [23]), (0, [-2, 1, 0]), (114, []), (2, [0, 0]), (120, [81, 1, 163, 0, 1067]), (2, [0, 0]), (27, [10, 16, 2, 35, 0, 908]), (0, [6, 1, 0]), (1, [1, 0]), (6, []), (1, [2, 0]), (31, []), (1, [3, 0]), (114, [])]
def fd_p83 : List Nat := [0, 1, 2, 5, 8, 9, 10, 11, 14, 17, 18, 19, 20, 23, 25, 26, 27, 28, 29, 30, 31, 34, 36, 37, 38, 41, 42, 45, 47, 48, 49, 50, 51, 52]
-- FacingDoorsModel.moves (II)I
def fd_c84 : List fd_Ins := [(2, [0, 0]), (1, [1, 0]), (120, [66, 2, 148, 0, 1032]), (107, [9]), (1, [2, 0]), (0, [0, 0, 0]), (0, [3, 0, 0]), (121, [52, 3, 57, 0, 970]), (108, [11]), (0, [-1, 0, 0]), (114, []), (2, [0, 0]), (27, [10, 16, 2, 35, 0, 908]), (0, [0, 0, 0]), (1, [1, 0]), (6, []), (30, []), (0, [7, 1, 0]), (10, []), (1, [2, 0]), (121, [73, 1, 133, 0, 1044]), (6, []), (3, [3, 0]), (2, [0, 0]), (27, [10, 16, 2, 35, 0, 908]), (0, [0, 0, 0]), (1, [1, 0]), (6, []), (30, []), (0, [7, 1, 0]), (9, []), (1, [2, 0]), (121, [74, 1, 136, 0, 1047]), (6, []), (3, [4, 1]), (2, [0, 0]), (1, [3, 0]), (1, [4, 1]), (120, [70, 3, 139, 0, 1050]), (107, [42]), (0, [-2, 1, 0]), (114, []), (2, [0, 0]), (120, [81, 1, 163, 0, 1067]), (2, [0, 0]), (27, [10, 16, 2, 35, 0, 908]), (0, [0, 0, 0]), (1, [1, 0]), (6, []), (0, [7, 1, 0]), (1, [4, 1]), (8, []), (1, [3, 0]), (6, []), (31, []), (2, [0, 0]), (27, [10, 16, 2, 35, 0, 908]), (0, [28, 1, 0]), (30, []), (114, [])]
def fd_p84 : List Nat := [0, 1, 2, 5, 8, 9, 10, 11, 14, 17, 18, 19, 20, 23, 24, 25, 26, 27, 29, 30, 31, 34, 35, 36, 37, 40, 41, 42, 43, 44, 46, 47, 48, 51, 52, 54, 55, 56, 58, 61, 64, 66, 67, 68, 71, 72, 75, 76, 77, 78, 80, 82, 83, 84, 85, 86, 87, 90, 92, 93]
-- FacingDoorsModel.opens (II)I
def fd_c85 : List fd_Ins := [(2, [0, 0]), (1, [1, 0]), (120, [66, 2, 148, 0, 1032]), (107, [9]), (1, [2, 0]), (0, [0, 0, 0]), (0, [1, 0, 0]), (121, [52, 3, 57, 0, 970]), (108, [11]), (0, [-1, 0, 0]), (114, []), (2, [0, 0]), (27, [10, 16, 2, 35, 0, 908]), (0, [12, 1, 0]), (30, []), (1, [1, 0]), (15, []), (0, [1, 0, 0]), (11, []), (1, [2, 0]), (102, [23]), (0, [-2, 1, 0]), (114, []), (2, [0, 0]), (120, [81, 1, 163, 0, 1067]), (2, [0, 0]), (27, [10, 16, 2, 35, 0, 908]), (0, [12, 1, 0]), (25, []), (30, []), (0, [1, 0, 0]), (1, [1, 0]), (14, []), (13, []), (31, []), (2, [0, 0]), (120, [72, 1, 151, 0, 1036]), (2, [0, 0]), (1, [1, 0]), (120, [76, 2, 145, 0, 1051]), (114, [])]
def fd_p85 : List Nat := [0, 1, 2, 5, 8, 9, 10, 11, 14, 17, 18, 19, 20, 23, 25, 26, 27, 28, 29, 30, 31, 34, 36, 37, 38, 41, 42, 45, 47, 48, 49, 50, 51, 52, 53, 54, 55, 58, 59, 60, 63]
-- FacingDoorsModel.carts ()I
def fd_c86 : List fd_Ins := [(0, [0, 0, 0]), (3, [1, 0]), (0, [0, 0, 0]), (3, [2, 0]), (1, [2, 0]), (0, [7, 1, 0]), (104, [19]), (1, [1, 0]), (2, [0, 0]), (27, [10, 16, 2, 35, 0, 908]), (0, [21, 1, 0]), (1, [2, 0]), (6, []), (30, []), (121, [71, 1, 166, 0, 1087]), (6, []), (3, [1, 0]), (5, [2, 1]), (100, [4]), (1, [1, 0]), (114, [])]
def fd_p86 : List Nat := [0, 1, 2, 3, 4, 5, 7, 10, 11, 12, 15, 17, 18, 19, 20, 23, 24, 25, 28, 31, 32]
-- FacingDoorsModel.cart (III)I
def fd_c87 : List fd_Ins := [(2, [0, 0]), (1, [1, 0]), (1, [2, 0]), (120, [67, 3, 117, 0, 1016]), (107, [10]), (1, [3, 0]), (0, [0, 0, 0]), (0, [1, 0, 0]), (121, [52, 3, 57, 0, 970]), (108, [12]), (0, [-1, 0, 0]), (114, []), (2, [0, 0]), (1, [1, 0]), (1, [2, 0]), (120, [70, 3, 139, 0, 1050]), (1, [3, 0]), (0, [1, 0, 0]), (102, [21]), (0, [0, 0, 0]), (100, [22]), (0, [3, 0, 0]), (101, [25]), (0, [-2, 1, 0]), (114, []), (2, [0, 0]), (120, [81, 1, 163, 0, 1067]), (2, [0, 0]), (27, [10, 16, 2, 35, 0, 908]), (0, [21, 1, 0]), (1, [2, 0]), (6, []), (25, []), (30, []), (0, [1, 0, 0]), (1, [1, 0]), (14, []), (13, []), (31, []), (2, [0, 0]), (120, [86, 1, 169, 0, 1083]), (114, [])]
def fd_p87 : List Nat := [0, 1, 2, 3, 6, 9, 10, 11, 12, 15, 18, 19, 20, 21, 22, 23, 26, 27, 28, 31, 32, 35, 36, 39, 41, 42, 43, 46, 47, 50, 52, 53, 54, 55, 56, 57, 58, 59, 60, 61, 62, 65]
-- FacingDoorsModel.set (II)I
def fd_c88 : List fd_Ins := [(1, [2, 0]), (0, [0, 0, 0]), (0, [1, 0, 0]), (121, [52, 3, 57, 0, 970]), (108, [7]), (0, [-1, 0, 0]), (114, []), (2, [0, 0]), (27, [10, 16, 2, 35, 0, 908]), (1, [1, 0]), (30, []), (1, [2, 0]), (102, [15]), (0, [-2, 1, 0]), (114, []), (2, [0, 0]), (120, [81, 1, 163, 0, 1067]), (2, [0, 0]), (27, [10, 16, 2, 35, 0, 908]), (1, [1, 0]), (1, [2, 0]), (31, []), (2, [0, 0]), (120, [82, 1, 172, 0, 1098]), (114, [])]
def fd_p88 : List Nat := [0, 1, 2, 3, 6, 9, 10, 11, 12, 15, 16, 17, 18, 21, 23, 24, 25, 28, 29, 32, 33, 34, 35, 36, 39]
-- FacingDoorsModel.leaf (I)I
def fd_c89 : List fd_Ins := [(2, [0, 0]), (0, [13, 1, 0]), (1, [1, 0]), (120, [88, 3, 175, 0, 1094]), (114, [])]
def fd_p89 : List Nat := [0, 1, 3, 4, 7]
-- FacingDoorsModel.fog (I)I
def fd_c90 : List fd_Ins := [(2, [0, 0]), (0, [14, 1, 0]), (1, [1, 0]), (120, [88, 3, 175, 0, 1094]), (114, [])]
def fd_p90 : List Nat := [0, 1, 3, 4, 7]
-- FacingDoorsModel.bills ()I
def fd_c91 : List fd_Ins := [(2, [0, 0]), (120, [81, 1, 163, 0, 1067]), (2, [0, 0]), (120, [72, 1, 151, 0, 1036]), (0, [0, 0, 0]), (3, [1, 0]), (1, [1, 0]), (2, [0, 0]), (27, [10, 6, 2, 23, 0, 898]), (0, [0, 0, 0]), (30, []), (104, [37]), (2, [0, 0]), (27, [10, 16, 2, 35, 0, 908]), (0, [15, 1, 0]), (1, [1, 0]), (6, []), (30, []), (2, [0, 0]), (1, [1, 0]), (120, [76, 2, 145, 0, 1051]), (6, []), (3, [2, 0]), (2, [0, 0]), (27, [10, 16, 2, 35, 0, 908]), (0, [15, 1, 0]), (1, [1, 0]), (6, []), (1, [2, 0]), (0, [9999, 2, 0]), (106, [33]), (0, [9999, 2, 0]), (100, [34]), (1, [2, 0]), (31, []), (5, [1, 1]), (100, [6]), (2, [0, 0]), (120, [77, 1, 160, 0, 1102]), (114, [])]
def fd_p91 : List Nat := [0, 1, 4, 5, 8, 9, 10, 11, 12, 15, 16, 17, 20, 21, 24, 26, 27, 28, 29, 30, 31, 34, 35, 36, 37, 40, 42, 43, 44, 45, 48, 51, 54, 57, 58, 59, 62, 65, 66, 69]
-- FacingDoorsModel.undo ()I
def fd_c92 : List fd_Ins := [(2, [0, 0]), (27, [10, 16, 2, 35, 0, 908]), (0, [28, 1, 0]), (30, []), (108, [7]), (0, [-2, 1, 0]), (114, []), (2, [0, 0]), (27, [10, 16, 2, 35, 0, 908]), (0, [28, 1, 0]), (25, []), (30, []), (0, [1, 0, 0]), (7, []), (31, []), (0, [0, 0, 0]), (3, [1, 0]), (1, [1, 0]), (0, [28, 1, 0]), (104, [39]), (2, [0, 0]), (27, [10, 16, 2, 35, 0, 908]), (1, [1, 0]), (2, [0, 0]), (27, [10, 16, 2, 35, 0, 908]), (0, [29, 1, 0]), (0, [28, 1, 0]), (2, [0, 0]), (27, [10, 16, 2, 35, 0, 908]), (0, [28, 1, 0]), (30, []), (8, []), (6, []), (1, [1, 0]), (6, []), (30, []), (31, []), (5, [1, 1]), (100, [17]), (2, [0, 0]), (27, [10, 16, 2, 35, 0, 908]), (0, [28, 1, 0]), (30, []), (114, [])]
def fd_p92 : List Nat := [0, 1, 4, 6, 7, 10, 12, 13, 14, 17, 19, 20, 21, 22, 23, 24, 25, 26, 27, 29, 32, 33, 36, 37, 38, 41, 43, 45, 46, 49, 51, 52, 53, 54, 55, 56, 57, 58, 61, 64, 65, 68, 70, 71]
-- FacingDoorsModel.allHaveWays ()Z
def fd_c93 : List fd_Ins := [(0, [1, 0, 0]), (3, [1, 0]), (0, [0, 0, 0]), (3, [2, 0]), (1, [2, 0]), (2, [0, 0]), (27, [10, 6, 2, 23, 0, 898]), (0, [0, 0, 0]), (30, []), (104, [22]), (1, [1, 0]), (107, [18]), (2, [0, 0]), (1, [2, 0]), (120, [78, 2, 154, 0, 1055]), (107, [18]), (0, [1, 0, 0]), (100, [19]), (0, [0, 0, 0]), (3, [1, 0]), (5, [2, 1]), (100, [4]), (1, [1, 0]), (114, [])]
def fd_p93 : List Nat := [0, 1, 2, 3, 4, 5, 6, 9, 10, 11, 14, 15, 18, 19, 20, 23, 26, 27, 30, 31, 32, 35, 38, 39]
-- FacingDoorsModel.now (I)I
def fd_c94 : List fd_Ins := [(2, [0, 0]), (120, [72, 1, 151, 0, 1036]), (0, [0, 0, 0]), (3, [2, 0]), (1, [1, 0]), (113, [102, 0, 6, 9, 14, 38, 68, 71, 76, 81]), (2, [0, 0]), (120, [77, 1, 160, 0, 1102]), (114, []), (2, [0, 0]), (27, [10, 16, 2, 35, 0, 908]), (0, [12, 1, 0]), (30, []), (114, []), (0, [0, 0, 0]), (3, [3, 0]), (1, [3, 0]), (2, [0, 0]), (27, [10, 6, 2, 23, 0, 898]), (0, [0, 0, 0]), (30, []), (104, [36]), (1, [2, 0]), (2, [0, 0]), (1, [3, 0]), (120, [78, 2, 154, 0, 1055]), (107, [31]), (0, [1, 0, 0]), (1, [3, 0]), (14, []), (100, [32]), (0, [0, 0, 0]), (12, []), (3, [2, 0]), (5, [3, 1]), (100, [16]), (1, [2, 0]), (114, []), (0, [0, 0, 0]), (3, [3, 0]), (1, [3, 0]), (2, [0, 0]), (27, [10, 6, 2, 23, 0, 898]), (0, [0, 0, 0]), (30, []), (104, [66]), (2, [0, 0]), (1, [3, 0]), (120, [75, 2, 142, 0, 1040]), (3, [4, 1]), (1, [2, 0]), (1, [4, 1]), (1, [3, 0]), (106, [61]), (2, [0, 0]), (1, [4, 1]), (120, [75, 2, 142, 0, 1040]), (1, [3, 0]), (102, [61]), (0, [1, 0, 0]), (100, [62]), (0, [0, 0, 0]), (6, []), (3, [2, 0]), (5, [3, 1]), (100, [40]), (1, [2, 0]), (114, []), (2, [0, 0]), (120, [86, 1, 169, 0, 1083]), (114, []), (2, [0, 0]), (27, [10, 16, 2, 35, 0, 908]), (0, [13, 1, 0]), (30, []), (114, []), (2, [0, 0]), (27, [10, 16, 2, 35, 0, 908]), (0, [14, 1, 0]), (30, []), (114, []), (0, [0, 0, 0]), (3, [3, 0]), (1, [3, 0]), (2, [0, 0]), (27, [10, 6, 2, 23, 0, 898]), (0, [0, 0, 0]), (30, []), (104, [100]), (1, [2, 0]), (2, [0, 0]), (27, [10, 16, 2, 35, 0, 908]), (0, [15, 1, 0]), (1, [3, 0]), (6, []), (30, []), (6, []), (3, [2, 0]), (5, [3, 1]), (100, [83]), (1, [2, 0]), (114, []), (0, [-1, 0, 0]), (114, [])]
def fd_p94 : List Nat := [0, 1, 4, 5, 6, 7, 52, 53, 56, 57, 58, 61, 63, 64, 65, 66, 67, 68, 69, 72, 73, 74, 77, 78, 79, 80, 83, 86, 87, 88, 89, 92, 93, 94, 95, 98, 101, 102, 103, 104, 105, 106, 107, 110, 111, 112, 115, 116, 117, 120, 122, 123, 125, 126, 129, 130, 132, 135, 136, 139, 140, 143, 144, 145, 146, 149, 152, 153, 154, 155, 158, 159, 160, 163, 165, 166, 167, 168, 171, 173, 174, 175, 176, 177, 178, 179, 182, 183, 184, 187, 188, 189, 192, 194, 195, 196, 197, 198, 199, 202, 205, 206, 207, 208]
-- FacingDoorsModel.takeWays (I)I
def fd_c95 : List fd_Ins := [(0, [0, 0, 0]), (3, [2, 0]), (1, [1, 0]), (3, [3, 0]), (2, [0, 0]), (27, [10, 6, 2, 23, 0, 898]), (0, [0, 0, 0]), (30, []), (0, [1, 0, 0]), (7, []), (3, [4, 1]), (1, [4, 1]), (109, [43]), (2, [0, 0]), (27, [10, 18, 2, 42, 0, 910]), (1, [4, 1]), (1, [3, 0]), (0, [4, 0, 0]), (10, []), (31, []), (1, [3, 0]), (0, [4, 0, 0]), (9, []), (3, [3, 0]), (1, [2, 0]), (2, [0, 0]), (27, [10, 18, 2, 42, 0, 910]), (1, [4, 1]), (30, []), (2, [0, 0]), (27, [10, 16, 2, 35, 0, 908]), (0, [6, 1, 0]), (1, [4, 1]), (6, []), (30, []), (102, [38]), (0, [0, 0, 0]), (100, [39]), (0, [1, 0, 0]), (6, []), (3, [2, 0]), (5, [4, -1]), (100, [11]), (1, [2, 0]), (114, [])]
def fd_p95 : List Nat := [0, 1, 2, 3, 4, 5, 8, 9, 10, 11, 12, 14, 16, 19, 20, 23, 25, 26, 27, 28, 29, 30, 31, 32, 33, 34, 35, 38, 40, 41, 42, 45, 47, 49, 50, 51, 54, 55, 58, 59, 60, 61, 64, 67, 68]
-- FacingDoorsModel.codes ()I
def fd_c96 : List fd_Ins := [(0, [1, 0, 0]), (3, [1, 0]), (0, [0, 0, 0]), (3, [2, 0]), (1, [2, 0]), (2, [0, 0]), (27, [10, 6, 2, 23, 0, 898]), (0, [0, 0, 0]), (30, []), (104, [16]), (1, [1, 0]), (0, [4, 0, 0]), (8, []), (3, [1, 0]), (5, [2, 1]), (100, [4]), (1, [1, 0]), (114, [])]
def fd_p96 : List Nat := [0, 1, 2, 3, 4, 5, 6, 9, 10, 11, 14, 15, 16, 17, 18, 21, 24, 25]
-- FacingDoorsModel.turn (I)I
def fd_c97 : List fd_Ins := [(1, [1, 0]), (0, [-2, 1, 0]), (2, [0, 0]), (27, [10, 6, 2, 23, 0, 898]), (0, [0, 0, 0]), (30, []), (0, [1, 0, 0]), (7, []), (121, [52, 3, 57, 0, 970]), (108, [12]), (0, [-1, 0, 0]), (114, []), (2, [0, 0]), (120, [72, 1, 151, 0, 1036]), (0, [-9, 1, 0]), (3, [2, 0]), (0, [0, 0, 0]), (3, [3, 0]), (0, [0, 0, 0]), (3, [4, 1]), (1, [4, 1]), (2, [0, 0]), (120, [96, 1, 178, 0, 1126]), (104, [50]), (2, [0, 0]), (1, [4, 1]), (120, [95, 2, 181, 0, 1130]), (3, [5, 1]), (2, [0, 0]), (120, [93, 1, 184, 0, 1134]), (107, [48]), (0, [10, 1, 0]), (2, [0, 0]), (120, [77, 1, 160, 0, 1102]), (8, []), (1, [5, 1]), (6, []), (3, [6, 1]), (1, [2, 0]), (0, [-9, 1, 0]), (101, [44]), (1, [6, 1]), (1, [3, 0]), (104, [48]), (1, [4, 1]), (3, [2, 0]), (1, [6, 1]), (3, [3, 0]), (5, [4, 1]), (100, [20]), (1, [2, 0]), (0, [-9, 1, 0]), (101, [55]), (1, [1, 0]), (110, [71]), (1, [2, 0]), (0, [-9, 1, 0]), (102, [60]), (0, [-9, 1, 0]), (100, [70]), (1, [1, 0]), (0, [-1, 0, 0]), (102, [67]), (1, [3, 0]), (0, [10, 1, 0]), (9, []), (100, [70]), (1, [3, 0]), (0, [10, 1, 0]), (10, []), (114, []), (2, [0, 0]), (1, [2, 0]), (120, [95, 2, 181, 0, 1130]), (26, []), (2, [0, 0]), (27, [10, 18, 2, 42, 0, 910]), (1, [1, 0]), (30, []), (114, [])]
def fd_p97 : List Nat := [0, 1, 3, 4, 7, 8, 9, 10, 11, 14, 17, 18, 19, 20, 23, 25, 26, 27, 28, 29, 31, 33, 34, 37, 40, 41, 43, 46, 48, 49, 52, 55, 57, 58, 61, 62, 64, 65, 67, 68, 70, 73, 75, 76, 79, 81, 82, 84, 85, 88, 91, 92, 94, 97, 98, 101, 102, 104, 107, 109, 112, 113, 114, 117, 118, 120, 121, 124, 125, 127, 128, 129, 130, 131, 134, 135, 136, 139, 140, 141]
-- FacingDoorsModel.cartAt ()I
def fd_c98 : List fd_Ins := [(0, [-9, 1, 0]), (3, [1, 0]), (2, [0, 0]), (120, [82, 1, 172, 0, 1098]), (3, [2, 0]), (0, [0, 0, 0]), (3, [3, 0]), (1, [3, 0]), (2, [0, 0]), (27, [10, 4, 2, 17, 0, 896]), (0, [0, 0, 0]), (30, []), (104, [68]), (0, [0, 0, 0]), (3, [4, 1]), (1, [4, 1]), (2, [0, 0]), (27, [10, 3, 2, 13, 0, 895]), (0, [0, 0, 0]), (30, []), (104, [66]), (2, [0, 0]), (1, [4, 1]), (1, [3, 0]), (120, [70, 3, 139, 0, 1050]), (108, [64]), (2, [0, 0]), (27, [10, 16, 2, 35, 0, 908]), (0, [21, 1, 0]), (1, [3, 0]), (6, []), (25, []), (30, []), (0, [1, 0, 0]), (1, [4, 1]), (14, []), (13, []), (31, []), (2, [0, 0]), (120, [77, 1, 160, 0, 1102]), (3, [5, 1]), (2, [0, 0]), (27, [10, 16, 2, 35, 0, 908]), (0, [21, 1, 0]), (1, [3, 0]), (6, []), (25, []), (30, []), (0, [1, 0, 0]), (1, [4, 1]), (14, []), (13, []), (31, []), (1, [5, 1]), (1, [2, 0]), (104, [64]), (0, [10, 1, 0]), (1, [3, 0]), (8, []), (1, [4, 1]), (6, []), (3, [1, 0]), (1, [5, 1]), (3, [2, 0]), (5, [4, 1]), (100, [15]), (5, [3, 1]), (100, [7]), (1, [1, 0]), (114, [])]
def fd_p98 : List Nat := [0, 2, 3, 4, 7, 8, 9, 10, 11, 12, 15, 16, 17, 20, 21, 23, 25, 26, 29, 30, 31, 34, 35, 37, 38, 41, 44, 45, 48, 50, 51, 52, 53, 54, 55, 57, 58, 59, 60, 61, 64, 66, 67, 70, 72, 73, 74, 75, 76, 77, 79, 80, 81, 82, 84, 85, 88, 90, 91, 92, 94, 95, 96, 98, 99, 102, 105, 108, 111, 112]
-- FacingDoorsModel.bound (I)I
def fd_c99 : List fd_Ins := [(1, [1, 0]), (0, [0, 0, 0]), (0, [1, 0, 0]), (121, [52, 3, 57, 0, 970]), (108, [7]), (0, [-1, 0, 0]), (114, []), (2, [0, 0]), (120, [72, 1, 151, 0, 1036]), (2, [0, 0]), (0, [1, 0, 0]), (2, [0, 0]), (27, [10, 6, 2, 23, 0, 898]), (0, [0, 0, 0]), (30, []), (14, []), (0, [1, 0, 0]), (7, []), (28, [10, 19, 0, 126, 0, 0, 911]), (2, [0, 0]), (0, [0, 0, 0]), (28, [10, 20, 3, 129, 0, 0, 912]), (0, [0, 0, 0]), (3, [2, 0]), (0, [-9, 1, 0]), (3, [3, 0]), (0, [0, 0, 0]), (3, [4, 1]), (0, [0, 0, 0]), (3, [5, 1]), (1, [5, 1]), (2, [0, 0]), (120, [96, 1, 178, 0, 1126]), (104, [49]), (2, [0, 0]), (1, [5, 1]), (120, [95, 2, 181, 0, 1130]), (26, []), (1, [4, 1]), (108, [43]), (2, [0, 0]), (120, [93, 1, 184, 0, 1134]), (107, [45]), (0, [1, 0, 0]), (100, [46]), (0, [0, 0, 0]), (3, [4, 1]), (5, [5, 1]), (100, [30]), (0, [0, 0, 0]), (3, [5, 1]), (1, [5, 1]), (2, [0, 0]), (27, [10, 6, 2, 23, 0, 898]), (0, [0, 0, 0]), (30, []), (104, [124]), (1, [5, 1]), (0, [1, 0, 0]), (6, []), (3, [6, 1]), (1, [6, 1]), (2, [0, 0]), (27, [10, 6, 2, 23, 0, 898]), (0, [0, 0, 0]), (30, []), (104, [122]), (1, [4, 1]), (3, [7, 1]), (0, [0, 0, 0]), (3, [8, 1]), (1, [8, 1]), (2, [0, 0]), (120, [96, 1, 178, 0, 1126]), (104, [100]), (1, [7, 1]), (107, [100]), (2, [0, 0]), (1, [8, 1]), (120, [95, 2, 181, 0, 1130]), (26, []), (2, [0, 0]), (120, [93, 1, 184, 0, 1134]), (107, [94]), (2, [0, 0]), (1, [5, 1]), (120, [75, 2, 142, 0, 1040]), (1, [6, 1]), (101, [94]), (2, [0, 0]), (1, [6, 1]), (120, [75, 2, 142, 0, 1040]), (1, [5, 1]), (102, [96]), (0, [1, 0, 0]), (100, [97]), (0, [0, 0, 0]), (3, [7, 1]), (5, [8, 1]), (100, [71]), (1, [7, 1]), (107, [110]), (1, [2, 0]), (108, [110]), (0, [10, 1, 0]), (1, [5, 1]), (8, []), (1, [6, 1]), (6, []), (100, [111]), (1, [3, 0]), (3, [3, 0]), (1, [2, 0]), (1, [7, 1]), (107, [117]), (0, [1, 0, 0]), (100, [118]), (0, [0, 0, 0]), (6, []), (3, [2, 0]), (5, [6, 1]), (100, [61]), (5, [5, 1]), (100, [51]), (1, [1, 0]), (108, [132]), (1, [4, 1]), (107, [130]), (1, [2, 0]), (100, [133]), (0, [-9, 1, 0]), (100, [133]), (1, [3, 0]), (114, [])]
def fd_p99 : List Nat := [0, 1, 2, 3, 6, 9, 10, 11, 12, 15, 16, 17, 18, 21, 22, 23, 24, 25, 26, 29, 30, 31, 34, 35, 36, 38, 39, 40, 42, 43, 45, 47, 48, 51, 54, 55, 57, 60, 61, 63, 66, 67, 70, 73, 74, 77, 78, 80, 83, 86, 87, 89, 91, 92, 95, 96, 97, 100, 102, 103, 104, 106, 108, 109, 112, 113, 114, 117, 119, 121, 122, 124, 126, 127, 130, 133, 135, 138, 139, 141, 144, 145, 146, 149, 152, 153, 155, 158, 160, 163, 164, 166, 169, 171, 174, 175, 178, 179, 181, 184, 187, 189, 192, 193, 196, 198, 200, 201, 203, 204, 207, 208, 209, 210, 212, 215, 216, 219, 220, 221, 222, 225, 228, 231, 234, 235, 238, 240, 243, 244, 247, 249, 252, 253]
-- FacingDoorsModel.tells (II)I
def fd_c100 : List fd_Ins := [(2, [0, 0]), (1, [1, 0]), (120, [66, 2, 148, 0, 1032]), (107, [9]), (1, [2, 0]), (0, [0, 0, 0]), (0, [99, 1, 0]), (121, [52, 3, 57, 0, 970]), (108, [11]), (0, [-1, 0, 0]), (114, []), (2, [0, 0]), (27, [10, 23, 0, 106, 0, 915]), (0, [6, 1, 0]), (102, [17]), (0, [-3, 1, 0]), (114, []), (2, [0, 0]), (27, [10, 21, 2, 45, 0, 913]), (2, [0, 0]), (27, [10, 23, 0, 106, 0, 915]), (1, [1, 0]), (31, []), (2, [0, 0]), (27, [10, 22, 2, 48, 0, 914]), (2, [0, 0]), (27, [10, 23, 0, 106, 0, 915]), (1, [2, 0]), (31, []), (2, [0, 0]), (24, []), (27, [10, 23, 0, 106, 0, 915]), (0, [1, 0, 0]), (6, []), (28, [10, 23, 0, 106, 0, 0, 915]), (2, [0, 0]), (27, [10, 23, 0, 106, 0, 915]), (114, [])]
def fd_p100 : List Nat := [0, 1, 2, 5, 8, 9, 10, 12, 15, 18, 19, 20, 21, 24, 26, 29, 31, 32, 33, 36, 37, 40, 41, 42, 43, 46, 47, 50, 51, 52, 53, 54, 57, 58, 59, 62, 63, 66]
-- FacingDoorsModel.forget ()I
def fd_c101 : List fd_Ins := [(2, [0, 0]), (27, [10, 23, 0, 106, 0, 915]), (3, [1, 0]), (2, [0, 0]), (0, [0, 0, 0]), (28, [10, 23, 0, 106, 0, 0, 915]), (1, [1, 0]), (114, [])]
def fd_p101 : List Nat := [0, 1, 4, 5, 6, 7, 10, 11]
-- FacingDoorsModel.open (I)I
def fd_c102 : List fd_Ins := [(1, [1, 0]), (0, [0, 0, 0]), (0, [2, 0, 0]), (121, [52, 3, 57, 0, 970]), (108, [7]), (0, [-1, 0, 0]), (114, []), (2, [0, 0]), (120, [72, 1, 151, 0, 1036]), (0, [0, 0, 0]), (3, [2, 0]), (0, [-9, 1, 0]), (3, [3, 0]), (0, [1, 0, 0]), (2, [0, 0]), (27, [10, 6, 2, 23, 0, 898]), (0, [0, 0, 0]), (30, []), (14, []), (0, [1, 0, 0]), (7, []), (3, [4, 1]), (0, [0, 0, 0]), (3, [5, 1]), (1, [5, 1]), (0, [1, 0, 0]), (2, [0, 0]), (27, [10, 6, 2, 23, 0, 898]), (0, [0, 0, 0]), (30, []), (14, []), (104, [77]), (2, [0, 0]), (1, [5, 1]), (28, [10, 19, 0, 126, 0, 0, 911]), (0, [1, 0, 0]), (3, [6, 1]), (0, [0, 0, 0]), (3, [7, 1]), (1, [7, 1]), (2, [0, 0]), (27, [10, 23, 0, 106, 0, 915]), (104, [62]), (1, [6, 1]), (107, [58]), (2, [0, 0]), (2, [0, 0]), (27, [10, 21, 2, 45, 0, 913]), (1, [7, 1]), (30, []), (120, [76, 2, 145, 0, 1051]), (2, [0, 0]), (27, [10, 22, 2, 48, 0, 914]), (1, [7, 1]), (30, []), (102, [58]), (0, [1, 0, 0]), (100, [59]), (0, [0, 0, 0]), (3, [6, 1]), (5, [7, 1]), (100, [39]), (1, [6, 1]), (107, [75]), (1, [2, 0]), (108, [68]), (1, [5, 1]), (100, [69]), (1, [3, 0]), (3, [3, 0]), (1, [4, 1]), (1, [5, 1]), (11, []), (3, [4, 1]), (5, [2, 1]), (5, [5, 1]), (100, [24]), (1, [1, 0]), (108, [81]), (1, [2, 0]), (100, [91]), (1, [1, 0]), (0, [1, 0, 0]), (102, [86]), (1, [3, 0]), (100, [91]), (1, [2, 0]), (108, [90]), (0, [-9, 1, 0]), (100, [91]), (1, [4, 1]), (114, [])]
def fd_p102 : List Nat := [0, 1, 2, 3, 6, 9, 10, 11, 12, 15, 16, 17, 19, 20, 21, 22, 25, 26, 27, 28, 29, 30, 32, 33, 35, 37, 38, 39, 42, 43, 44, 45, 48, 49, 51, 54, 55, 57, 58, 60, 62, 63, 66, 69, 71, 74, 75, 76, 79, 81, 82, 85, 86, 89, 91, 92, 95, 96, 99, 100, 102, 105, 108, 110, 113, 114, 117, 119, 122, 123, 124, 126, 128, 129, 131, 134, 137, 140, 141, 144, 145, 148, 149, 150, 153, 154, 157, 158, 161, 163, 166, 168]
-- FacingDoorsModel.sum (II)I
def fd_c103 : List fd_Ins := [(2, [0, 0]), (120, [72, 1, 151, 0, 1036]), (0, [0, 0, 0]), (3, [3, 0]), (0, [0, 0, 0]), (3, [4, 1]), (1, [4, 1]), (0, [1, 0, 0]), (2, [0, 0]), (27, [10, 6, 2, 23, 0, 898]), (0, [0, 0, 0]), (30, []), (14, []), (104, [64]), (0, [1, 0, 0]), (3, [5, 1]), (0, [0, 0, 0]), (3, [6, 1]), (1, [6, 1]), (2, [0, 0]), (27, [10, 6, 2, 23, 0, 898]), (0, [0, 0, 0]), (30, []), (104, [41]), (1, [5, 1]), (1, [4, 1]), (1, [6, 1]), (15, []), (0, [1, 0, 0]), (11, []), (0, [1, 0, 0]), (102, [34]), (1, [1, 0]), (100, [37]), (0, [10, 1, 0]), (1, [1, 0]), (7, []), (8, []), (3, [5, 1]), (5, [6, 1]), (100, [18]), (2, [0, 0]), (1, [4, 1]), (28, [10, 19, 0, 126, 0, 0, 911]), (2, [0, 0]), (120, [77, 1, 160, 0, 1102]), (3, [6, 1]), (1, [3, 0]), (1, [2, 0]), (110, [54]), (1, [5, 1]), (1, [6, 1]), (8, []), (100, [60]), (1, [6, 1]), (1, [2, 0]), (103, [59]), (1, [5, 1]), (100, [60]), (0, [0, 0, 0]), (6, []), (3, [3, 0]), (5, [4, 1]), (100, [6]), (1, [3, 0]), (114, [])]
def fd_p103 : List Nat := [0, 1, 4, 5, 6, 7, 9, 11, 12, 13, 16, 17, 18, 19, 22, 23, 25, 26, 28, 30, 31, 34, 35, 36, 39, 41, 43, 45, 46, 47, 48, 49, 52, 53, 56, 58, 59, 60, 61, 63, 66, 69, 70, 72, 75, 76, 79, 81, 82, 83, 86, 88, 90, 91, 94, 96, 97, 100, 102, 105, 106, 107, 108, 111, 114, 115]
-- FacingDoorsModel.part (II)I
def fd_c104 : List fd_Ins := [(0, [1, 0, 0]), (3, [3, 0]), (0, [0, 0, 0]), (3, [4, 1]), (1, [4, 1]), (2, [0, 0]), (27, [10, 6, 2, 23, 0, 898]), (0, [0, 0, 0]), (30, []), (104, [16]), (1, [3, 0]), (0, [10, 1, 0]), (8, []), (3, [3, 0]), (5, [4, 1]), (100, [4]), (1, [1, 0]), (3, [4, 1]), (1, [3, 0]), (3, [5, 1]), (1, [5, 1]), (107, [31]), (1, [4, 1]), (1, [5, 1]), (10, []), (3, [6, 1]), (1, [5, 1]), (3, [4, 1]), (1, [6, 1]), (3, [5, 1]), (100, [20]), (1, [2, 0]), (108, [37]), (1, [1, 0]), (1, [4, 1]), (9, []), (100, [40]), (1, [3, 0]), (1, [4, 1]), (9, []), (114, [])]
def fd_p104 : List Nat := [0, 1, 2, 3, 5, 7, 8, 11, 12, 13, 16, 17, 19, 20, 21, 24, 27, 28, 30, 31, 33, 35, 38, 40, 42, 43, 45, 47, 49, 51, 53, 56, 57, 60, 61, 63, 64, 67, 68, 70, 71]
-- FacingDoorsModel.odds (III)I
def fd_c105 : List fd_Ins := [(1, [1, 0]), (0, [0, 0, 0]), (0, [10, 1, 0]), (121, [52, 3, 57, 0, 970]), (107, [15]), (1, [2, 0]), (0, [0, 0, 0]), (0, [99, 1, 0]), (121, [52, 3, 57, 0, 970]), (107, [15]), (1, [3, 0]), (0, [0, 0, 0]), (0, [1, 0, 0]), (121, [52, 3, 57, 0, 970]), (108, [17]), (0, [-1, 0, 0]), (114, []), (2, [0, 0]), (2, [0, 0]), (1, [1, 0]), (1, [2, 0]), (120, [103, 3, 188, 0, 1162]), (1, [3, 0]), (120, [104, 3, 191, 0, 1166]), (114, [])]
def fd_p105 : List Nat := [0, 1, 2, 4, 7, 10, 11, 12, 14, 17, 20, 21, 22, 23, 26, 29, 30, 31, 32, 33, 34, 35, 38, 39, 42]
-- FacingDoorsModel.mean (II)I
def fd_c106 : List fd_Ins := [(1, [1, 0]), (0, [0, 0, 0]), (0, [10, 1, 0]), (121, [52, 3, 57, 0, 970]), (107, [10]), (1, [2, 0]), (0, [0, 0, 0]), (0, [1, 0, 0]), (121, [52, 3, 57, 0, 970]), (108, [12]), (0, [-1, 0, 0]), (114, []), (2, [0, 0]), (2, [0, 0]), (1, [1, 0]), (0, [-1, 0, 0]), (120, [103, 3, 188, 0, 1162]), (1, [2, 0]), (120, [104, 3, 191, 0, 1166]), (114, [])]
def fd_p106 : List Nat := [0, 1, 2, 4, 7, 10, 11, 12, 13, 16, 19, 20, 21, 22, 23, 24, 25, 28, 29, 32]
-- FacingDoorsModel.mark (II)I
def fd_c107 : List fd_Ins := [(1, [1, 0]), (0, [0, 0, 0]), (0, [5, 0, 0]), (121, [52, 3, 57, 0, 970]), (107, [9]), (2, [0, 0]), (1, [2, 0]), (120, [66, 2, 148, 0, 1032]), (108, [11]), (0, [-1000000, 3, 194, 1178]), (114, []), (2, [0, 0]), (120, [72, 1, 151, 0, 1036]), (2, [0, 0]), (1, [2, 0]), (120, [76, 2, 145, 0, 1051]), (3, [3, 0]), (2, [0, 0]), (1, [2, 0]), (120, [79, 2, 157, 0, 1059]), (121, [71, 1, 166, 0, 1087]), (3, [4, 1]), (1, [3, 0]), (2, [0, 0]), (27, [10, 16, 2, 35, 0, 908]), (0, [6, 1, 0]), (1, [2, 0]), (6, []), (30, []), (7, []), (3, [5, 1]), (1, [1, 0]), (113, [90, 0, 33, 41, 51, 59, 71]), (2, [0, 0]), (24, []), (27, [10, 0, 1, 195, 0, 892]), (17, [1, 0, 0]), (18, []), (28, [10, 0, 1, 195, 0, 0, 892]), (1, [3, 0]), (114, []), (2, [0, 0]), (24, []), (27, [10, 0, 1, 195, 0, 892]), (17, [11, 1, 199, 1179]), (18, []), (28, [10, 0, 1, 195, 0, 0, 892]), (1, [3, 0]), (1, [4, 1]), (6, []), (114, []), (2, [0, 0]), (24, []), (27, [10, 0, 1, 195, 0, 892]), (17, [101, 1, 201, 1180]), (18, []), (28, [10, 0, 1, 195, 0, 0, 892]), (1, [5, 1]), (114, []), (2, [0, 0]), (24, []), (27, [10, 0, 1, 195, 0, 892]), (17, [1011, 1, 203, 1181]), (18, []), (28, [10, 0, 1, 195, 0, 0, 892]), (0, [2, 0, 0]), (1, [3, 0]), (1, [4, 1]), (6, []), (8, []), (114, []), (2, [0, 0]), (24, []), (27, [10, 0, 1, 195, 0, 892]), (17, [10101, 1, 205, 1182]), (18, []), (28, [10, 0, 1, 195, 0, 0, 892]), (1, [5, 1]), (0, [7, 1, 0]), (2, [0, 0]), (27, [10, 16, 2, 35, 0, 908]), (0, [12, 1, 0]), (30, []), (1, [2, 0]), (15, []), (0, [1, 0, 0]), (11, []), (8, []), (6, []), (114, []), (2, [0, 0]), (24, []), (27, [10, 0, 1, 195, 0, 892]), (17, [100001, 1, 207, 1183]), (18, []), (28, [10, 0, 1, 195, 0, 0, 892]), (1, [3, 0]), (2, [0, 0]), (27, [10, 16, 2, 35, 0, 908]), (0, [15, 1, 0]), (1, [2, 0]), (6, []), (30, []), (6, []), (114, [])]
def fd_p107 : List Nat := [0, 1, 2, 3, 6, 9, 10, 11, 14, 17, 19, 20, 21, 24, 25, 26, 29, 30, 31, 32, 35, 38, 40, 41, 42, 45, 47, 48, 49, 50, 51, 53, 54, 88, 89, 90, 93, 94, 95, 98, 99, 100, 101, 102, 105, 108, 109, 112, 113, 115, 116, 117, 118, 119, 122, 125, 126, 129, 131, 132, 133, 134, 137, 140, 141, 144, 145, 146, 148, 149, 150, 151, 152, 153, 156, 159, 160, 163, 165, 167, 168, 171, 173, 174, 175, 176, 177, 178, 179, 180, 181, 182, 183, 186, 189, 190, 193, 194, 195, 198, 200, 201, 202, 203, 204]
-- FacingDoorsModel.keep (I)I
def fd_c108 : List fd_Ins := [(1, [1, 0]), (0, [0, 0, 0]), (0, [1, 0, 0]), (121, [52, 3, 57, 0, 970]), (108, [7]), (0, [-1, 0, 0]), (114, []), (0, [0, 0, 0]), (3, [2, 0]), (1, [2, 0]), (0, [309, 2, 0]), (104, [28]), (2, [0, 0]), (27, [10, 16, 2, 35, 0, 908]), (0, [309, 2, 0]), (0, [1, 0, 0]), (1, [1, 0]), (6, []), (8, []), (1, [2, 0]), (6, []), (2, [0, 0]), (27, [10, 16, 2, 35, 0, 908]), (1, [2, 0]), (30, []), (31, []), (5, [2, 1]), (100, [9]), (2, [0, 0]), (27, [10, 17, 2, 38, 0, 909]), (1, [1, 0]), (0, [1, 0, 0]), (33, []), (2, [0, 0]), (120, [82, 1, 172, 0, 1098]), (114, [])]
def fd_p108 : List Nat := [0, 1, 2, 3, 6, 9, 10, 11, 12, 13, 14, 17, 20, 21, 24, 27, 28, 29, 30, 31, 32, 33, 34, 37, 38, 39, 40, 43, 46, 47, 50, 51, 52, 53, 54, 57]
-- FacingDoorsModel.back (I)I
def fd_c109 : List fd_Ins := [(1, [1, 0]), (0, [0, 0, 0]), (0, [1, 0, 0]), (121, [52, 3, 57, 0, 970]), (108, [7]), (0, [-1, 0, 0]), (114, []), (2, [0, 0]), (27, [10, 17, 2, 38, 0, 909]), (1, [1, 0]), (32, []), (108, [14]), (0, [-2, 1, 0]), (114, []), (0, [0, 0, 0]), (3, [2, 0]), (1, [2, 0]), (0, [309, 2, 0]), (104, [35]), (2, [0, 0]), (27, [10, 16, 2, 35, 0, 908]), (1, [2, 0]), (2, [0, 0]), (27, [10, 16, 2, 35, 0, 908]), (0, [309, 2, 0]), (0, [1, 0, 0]), (1, [1, 0]), (6, []), (8, []), (1, [2, 0]), (6, []), (30, []), (31, []), (5, [2, 1]), (100, [16]), (2, [0, 0]), (120, [82, 1, 172, 0, 1098]), (114, [])]
def fd_p109 : List Nat := [0, 1, 2, 3, 6, 9, 10, 11, 12, 15, 16, 17, 20, 22, 23, 24, 25, 26, 29, 32, 33, 36, 37, 38, 41, 44, 45, 46, 47, 48, 49, 50, 51, 52, 55, 58, 59, 62]
-- FacingDoorsModel.count (I)I
def fd_c110 : List fd_Ins := [(1, [1, 0]), (113, [35, 0, 2, 7, 12, 17, 17, 24, 27, 32]), (2, [0, 0]), (27, [10, 3, 2, 13, 0, 895]), (0, [0, 0, 0]), (30, []), (114, []), (2, [0, 0]), (27, [10, 4, 2, 17, 0, 896]), (0, [0, 0, 0]), (30, []), (114, []), (2, [0, 0]), (27, [10, 6, 2, 23, 0, 898]), (0, [0, 0, 0]), (30, []), (114, []), (2, [0, 0]), (27, [10, 9, 2, 32, 0, 901]), (1, [1, 0]), (0, [3, 0, 0]), (7, []), (30, []), (114, []), (2, [0, 0]), (27, [10, 23, 0, 106, 0, 915]), (114, []), (2, [0, 0]), (27, [10, 16, 2, 35, 0, 908]), (0, [28, 1, 0]), (30, []), (114, []), (2, [0, 0]), (27, [10, 2, 0, 61, 0, 894]), (114, []), (0, [-1, 0, 0]), (114, [])]
def fd_p110 : List Nat := [0, 1, 48, 49, 52, 53, 54, 55, 56, 59, 60, 61, 62, 63, 66, 67, 68, 69, 70, 73, 74, 75, 76, 77, 78, 79, 82, 83, 84, 87, 89, 90, 91, 92, 95, 96, 97]
-- FacingDoorsModel.trace ()J
def fd_c111 : List fd_Ins := [(2, [0, 0]), (27, [10, 0, 1, 195, 0, 892]), (115, [])]
def fd_p111 : List Nat := [0, 1, 4]
-- FacingDoors$History.<init> ()V
def fd_c112 : List fd_Ins := [(2, [0, 0]), (42, [3, 275]), (2, [0, 0]), (0, [10, 1, 0]), (39, [23, 9, 276]), (28, [1, 0, 2, 11, 0, 1, 279]), (2, [0, 0]), (0, [0, 0, 0]), (28, [1, 1, 0, 17, 0, 0, 280]), (0, [0, 0, 0]), (3, [1, 0]), (1, [1, 0]), (2, [0, 0]), (27, [1, 0, 2, 11, 0, 279]), (36, []), (104, [25]), (2, [0, 0]), (27, [1, 0, 2, 11, 0, 279]), (1, [1, 0]), (37, [5, 9, 276]), (24, []), (122, [141, 1, 21, 1, 278]), (35, []), (5, [1, 1]), (100, [11]), (116, [])]
def fd_p112 : List Nat := [0, 1, 4, 5, 7, 10, 13, 14, 15, 18, 19, 20, 21, 22, 25, 26, 29, 30, 33, 34, 37, 38, 41, 42, 45, 48]
-- FacingDoors$History.push (LFacingDoors$Scene;)V
def fd_c113 : List fd_Ins := [(2, [0, 0]), (27, [1, 1, 0, 17, 0, 280]), (0, [10, 1, 0]), (103, [6]), (2, [0, 0]), (120, [114, 1, 22, 0, 620]), (2, [0, 0]), (27, [1, 0, 2, 11, 0, 279]), (2, [0, 0]), (27, [1, 1, 0, 17, 0, 280]), (34, []), (2, [1, 0]), (120, [143, 2, 25, 1, 624]), (2, [0, 0]), (24, []), (27, [1, 1, 0, 17, 0, 280]), (0, [1, 0, 0]), (6, []), (28, [1, 1, 0, 17, 0, 0, 280]), (116, [])]
def fd_p113 : List Nat := [0, 1, 4, 6, 9, 10, 13, 14, 17, 18, 21, 22, 23, 26, 27, 28, 31, 32, 33, 36]
-- FacingDoors$History.loseOldest ()V
def fd_c114 : List fd_Ins := [(2, [0, 0]), (27, [1, 0, 2, 11, 0, 279]), (0, [0, 0, 0]), (34, []), (4, [1, 0]), (0, [1, 0, 0]), (3, [2, 0]), (1, [2, 0]), (2, [0, 0]), (27, [1, 0, 2, 11, 0, 279]), (36, []), (104, [24]), (2, [0, 0]), (27, [1, 0, 2, 11, 0, 279]), (1, [2, 0]), (0, [1, 0, 0]), (7, []), (2, [0, 0]), (27, [1, 0, 2, 11, 0, 279]), (1, [2, 0]), (34, []), (35, []), (5, [2, 1]), (100, [7]), (2, [0, 0]), (27, [1, 0, 2, 11, 0, 279]), (2, [0, 0]), (27, [1, 0, 2, 11, 0, 279]), (36, []), (0, [1, 0, 0]), (7, []), (2, [1, 0]), (35, []), (2, [0, 0]), (0, [9, 1, 0]), (28, [1, 1, 0, 17, 0, 0, 280]), (116, [])]
def fd_p114 : List Nat := [0, 1, 4, 5, 6, 7, 8, 9, 10, 11, 14, 15, 18, 19, 22, 23, 24, 25, 26, 29, 30, 31, 32, 35, 38, 39, 42, 43, 46, 47, 48, 49, 50, 51, 52, 54, 57]
-- FacingDoors$History.pop (LFacingDoors$Scene;)V
def fd_c115 : List fd_Ins := [(2, [0, 0]), (27, [1, 1, 0, 17, 0, 280]), (112, [16]), (2, [0, 0]), (24, []), (27, [1, 1, 0, 17, 0, 280]), (0, [1, 0, 0]), (7, []), (28, [1, 1, 0, 17, 0, 0, 280]), (2, [1, 0]), (2, [0, 0]), (27, [1, 0, 2, 11, 0, 279]), (2, [0, 0]), (27, [1, 1, 0, 17, 0, 280]), (34, []), (120, [143, 2, 25, 1, 624]), (116, [])]
def fd_p115 : List Nat := [0, 1, 4, 7, 8, 9, 12, 13, 14, 17, 18, 19, 22, 23, 26, 27, 30]
-- FacingDoors$History.copyFrom (LFacingDoors$History;)V
def fd_c116 : List fd_Ins := [(2, [0, 0]), (2, [1, 0]), (27, [1, 1, 0, 17, 0, 280]), (28, [1, 1, 0, 17, 0, 0, 280]), (0, [0, 0, 0]), (3, [2, 0]), (1, [2, 0]), (2, [0, 0]), (27, [1, 1, 0, 17, 0, 280]), (104, [21]), (2, [0, 0]), (27, [1, 0, 2, 11, 0, 279]), (1, [2, 0]), (34, []), (2, [1, 0]), (27, [1, 0, 2, 11, 0, 279]), (1, [2, 0]), (34, []), (120, [143, 2, 25, 1, 624]), (5, [2, 1]), (100, [6]), (116, [])]
def fd_p116 : List Nat := [0, 1, 2, 5, 8, 9, 10, 11, 12, 15, 18, 19, 22, 23, 24, 25, 28, 29, 30, 33, 36, 39]
-- FacingDoors$Image.<init> ()V
def fd_c117 : List fd_Ins := [(2, [0, 0]), (42, [1, 364]), (2, [0, 0]), (37, [5, 7, 365]), (24, []), (122, [141, 1, 9, 1, 366]), (28, [2, 0, 2, 10, 0, 1, 369]), (2, [0, 0]), (37, [1, 16, 367]), (24, []), (122, [112, 1, 18, 1, 368]), (28, [2, 1, 2, 19, 0, 1, 370]), (2, [0, 0]), (0, [0, 0, 0]), (28, [2, 2, 3, 23, 0, 0, 371]), (116, [])]
def fd_p117 : List Nat := [0, 1, 4, 5, 8, 9, 12, 15, 16, 19, 20, 23, 26, 27, 28, 31]
-- FacingDoors$Image.take (LFacingDoors$Scene;LFacingDoors$History;)V
def fd_c118 : List fd_Ins := [(2, [0, 0]), (27, [2, 0, 2, 10, 0, 369]), (2, [1, 0]), (120, [143, 2, 27, 1, 857]), (2, [0, 0]), (27, [2, 1, 2, 19, 0, 370]), (2, [2, 0]), (120, [116, 2, 31, 1, 858]), (2, [0, 0]), (0, [1, 0, 0]), (28, [2, 2, 3, 23, 0, 0, 371]), (116, [])]
def fd_p118 : List Nat := [0, 1, 4, 5, 8, 9, 12, 13, 16, 17, 18, 21]
-- FacingDoors$Image.give (LFacingDoors$Scene;LFacingDoors$History;)V
def fd_c119 : List fd_Ins := [(2, [1, 0]), (2, [0, 0]), (27, [2, 0, 2, 10, 0, 369]), (120, [143, 2, 27, 1, 857]), (2, [2, 0]), (2, [0, 0]), (27, [2, 1, 2, 19, 0, 370]), (120, [116, 2, 31, 1, 858]), (116, [])]
def fd_p119 : List Nat := [0, 1, 2, 5, 8, 9, 10, 13, 16]
-- FacingDoors$Plan.<init> ()V
def fd_c120 : List fd_Ins := [(2, [0, 0]), (42, [3, 136]), (2, [0, 0]), (0, [0, 0, 0]), (28, [3, 0, 0, 9, 0, 0, 137]), (2, [0, 0]), (0, [0, 0, 0]), (28, [3, 1, 0, 15, 0, 0, 140]), (2, [0, 0]), (0, [0, 0, 0]), (28, [3, 2, 0, 18, 0, 0, 143]), (2, [0, 0]), (0, [1, 0, 0]), (28, [3, 3, 0, 21, 0, 0, 149]), (2, [0, 0]), (0, [7, 1, 0]), (28, [3, 4, 0, 24, 0, 0, 154]), (2, [0, 0]), (0, [49, 1, 0]), (38, [20]), (28, [3, 5, 2, 27, 0, 1, 158]), (2, [0, 0]), (0, [6, 1, 0]), (38, [20]), (28, [3, 6, 2, 31, 0, 1, 161]), (2, [0, 0]), (0, [6, 1, 0]), (38, [20]), (28, [3, 7, 2, 34, 0, 1, 164]), (2, [0, 0]), (0, [6, 1, 0]), (38, [20]), (28, [3, 8, 2, 37, 0, 1, 167]), (116, [])]
def fd_p120 : List Nat := [0, 1, 4, 5, 6, 9, 10, 11, 14, 15, 16, 19, 20, 21, 24, 25, 27, 30, 31, 33, 35, 38, 39, 41, 43, 46, 47, 49, 51, 54, 55, 57, 59, 62]
-- FacingDoors$Plan.empty ()V
def fd_c121 : List fd_Ins := [(2, [0, 0]), (0, [0, 0, 0]), (28, [3, 0, 0, 9, 0, 0, 137]), (2, [0, 0]), (0, [0, 0, 0]), (28, [3, 1, 0, 15, 0, 0, 140]), (2, [0, 0]), (0, [0, 0, 0]), (28, [3, 2, 0, 18, 0, 0, 143]), (2, [0, 0]), (0, [1, 0, 0]), (28, [3, 3, 0, 21, 0, 0, 149]), (2, [0, 0]), (0, [7, 1, 0]), (28, [3, 4, 0, 24, 0, 0, 154]), (116, [])]
def fd_p121 : List Nat := [0, 1, 2, 5, 6, 7, 10, 11, 12, 15, 16, 17, 20, 21, 23, 26]
-- FacingDoors$Plan.copyFrom (LFacingDoors$Plan;)V
def fd_c122 : List fd_Ins := [(2, [0, 0]), (2, [1, 0]), (27, [3, 0, 0, 9, 0, 137]), (28, [3, 0, 0, 9, 0, 0, 137]), (2, [0, 0]), (2, [1, 0]), (27, [3, 1, 0, 15, 0, 140]), (28, [3, 1, 0, 15, 0, 0, 140]), (2, [0, 0]), (2, [1, 0]), (27, [3, 2, 0, 18, 0, 143]), (28, [3, 2, 0, 18, 0, 0, 143]), (2, [0, 0]), (2, [1, 0]), (27, [3, 3, 0, 21, 0, 149]), (28, [3, 3, 0, 21, 0, 0, 149]), (2, [0, 0]), (2, [1, 0]), (27, [3, 4, 0, 24, 0, 154]), (28, [3, 4, 0, 24, 0, 0, 154]), (2, [1, 0]), (27, [3, 5, 2, 27, 0, 158]), (0, [0, 0, 0]), (2, [0, 0]), (27, [3, 5, 2, 27, 0, 158]), (0, [0, 0, 0]), (0, [49, 1, 0]), (40, [40, 518]), (2, [1, 0]), (27, [3, 6, 2, 31, 0, 161]), (0, [0, 0, 0]), (2, [0, 0]), (27, [3, 6, 2, 31, 0, 161]), (0, [0, 0, 0]), (0, [6, 1, 0]), (40, [40, 518]), (2, [1, 0]), (27, [3, 7, 2, 34, 0, 164]), (0, [0, 0, 0]), (2, [0, 0]), (27, [3, 7, 2, 34, 0, 164]), (0, [0, 0, 0]), (0, [6, 1, 0]), (40, [40, 518]), (2, [1, 0]), (27, [3, 8, 2, 37, 0, 167]), (0, [0, 0, 0]), (2, [0, 0]), (27, [3, 8, 2, 37, 0, 167]), (0, [0, 0, 0]), (0, [6, 1, 0]), (40, [40, 518]), (116, [])]
def fd_p122 : List Nat := [0, 1, 2, 5, 8, 9, 10, 13, 16, 17, 18, 21, 24, 25, 26, 29, 32, 33, 34, 37, 40, 41, 44, 45, 46, 49, 50, 52, 55, 56, 59, 60, 61, 64, 65, 67, 70, 71, 74, 75, 76, 79, 80, 82, 85, 86, 89, 90, 91, 94, 95, 97, 100]
-- FacingDoors$Plan.hasCell (II)Z
def fd_c123 : List fd_Ins := [(1, [1, 0]), (109, [14]), (1, [1, 0]), (2, [0, 0]), (27, [3, 0, 0, 9, 0, 137]), (104, [14]), (1, [2, 0]), (109, [14]), (1, [2, 0]), (2, [0, 0]), (27, [3, 1, 0, 15, 0, 140]), (104, [14]), (0, [1, 0, 0]), (100, [15]), (0, [0, 0, 0]), (114, [])]
def fd_p123 : List Nat := [0, 1, 4, 5, 6, 9, 12, 13, 16, 17, 18, 21, 24, 25, 28, 29]
-- FacingDoors$Plan.hasDoor (I)Z
def fd_c124 : List fd_Ins := [(1, [1, 0]), (109, [8]), (1, [1, 0]), (2, [0, 0]), (27, [3, 2, 0, 18, 0, 143]), (104, [8]), (0, [1, 0, 0]), (100, [9]), (0, [0, 0, 0]), (114, [])]
def fd_p124 : List Nat := [0, 1, 4, 5, 6, 9, 12, 13, 16, 17]
-- FacingDoors$Plan.groundAt (II)I
def fd_c125 : List fd_Ins := [(2, [0, 0]), (1, [1, 0]), (1, [2, 0]), (120, [123, 3, 46, 0, 497]), (107, [12]), (2, [0, 0]), (27, [3, 5, 2, 27, 0, 158]), (1, [1, 0]), (1, [2, 0]), (121, [46, 2, 50, 1, 505]), (30, []), (100, [13]), (0, [1, 0, 0]), (114, [])]
def fd_p125 : List Nat := [0, 1, 2, 3, 6, 9, 10, 13, 14, 15, 18, 19, 22, 23]
-- FacingDoors$Plan.isFreeForDoor (II)Z
def fd_c126 : List fd_Ins := [(2, [0, 0]), (1, [1, 0]), (1, [2, 0]), (120, [123, 3, 46, 0, 497]), (107, [10]), (2, [0, 0]), (1, [1, 0]), (1, [2, 0]), (120, [125, 3, 54, 0, 501]), (107, [12]), (0, [0, 0, 0]), (114, []), (0, [0, 0, 0]), (3, [3, 0]), (1, [3, 0]), (2, [0, 0]), (27, [3, 2, 0, 18, 0, 143]), (104, [34]), (2, [0, 0]), (27, [3, 6, 2, 31, 0, 161]), (1, [3, 0]), (30, []), (1, [1, 0]), (102, [32]), (2, [0, 0]), (27, [3, 7, 2, 34, 0, 164]), (1, [3, 0]), (30, []), (1, [2, 0]), (102, [32]), (0, [0, 0, 0]), (114, []), (5, [3, 1]), (100, [14]), (0, [1, 0, 0]), (114, [])]
def fd_p126 : List Nat := [0, 1, 2, 3, 6, 9, 10, 11, 12, 15, 18, 19, 20, 21, 22, 23, 24, 27, 30, 31, 34, 35, 36, 37, 40, 41, 44, 45, 46, 47, 50, 51, 52, 55, 58, 59]
-- FacingDoors$Reader.<init> (LFacingDoors$Text;LFacingDoors$Plan;)V
def fd_c127 : List fd_Ins := [(2, [0, 0]), (42, [3, 194]), (2, [0, 0]), (0, [0, 0, 0]), (28, [4, 2, 0, 9, 0, 0, 197]), (2, [0, 0]), (0, [0, 0, 0]), (28, [4, 3, 0, 15, 0, 0, 198]), (2, [0, 0]), (0, [0, 0, 0]), (28, [4, 4, 0, 18, 0, 0, 199]), (2, [0, 0]), (0, [0, 0, 0]), (28, [4, 5, 0, 21, 0, 0, 200]), (2, [0, 0]), (0, [0, 0, 0]), (28, [4, 6, 0, 24, 0, 0, 201]), (2, [0, 0]), (0, [0, 0, 0]), (28, [4, 7, 3, 27, 0, 0, 202]), (2, [0, 0]), (0, [0, 0, 0]), (28, [4, 8, 3, 31, 0, 0, 203]), (2, [0, 0]), (2, [1, 0]), (28, [4, 0, 2, 34, 0, 1, 195]), (2, [0, 0]), (2, [2, 0]), (28, [4, 1, 2, 38, 0, 1, 196]), (116, [])]
def fd_p127 : List Nat := [0, 1, 4, 5, 6, 9, 10, 11, 14, 15, 16, 19, 20, 21, 24, 25, 26, 29, 30, 31, 34, 35, 36, 39, 40, 41, 44, 45, 46, 49]
-- FacingDoors$Reader.read ()I
def fd_c128 : List fd_Ins := [(2, [0, 0]), (27, [4, 1, 2, 38, 0, 196]), (120, [121, 1, 42, 1, 440]), (2, [0, 0]), (0, [0, 0, 0]), (28, [4, 2, 0, 9, 0, 0, 197]), (2, [0, 0]), (0, [0, 0, 0]), (28, [4, 6, 0, 24, 0, 0, 201]), (2, [0, 0]), (0, [0, 0, 0]), (28, [4, 7, 3, 27, 0, 0, 202]), (2, [0, 0]), (0, [0, 0, 0]), (28, [4, 8, 3, 31, 0, 0, 203]), (2, [0, 0]), (120, [129, 1, 47, 0, 444]), (0, [0, 0, 0]), (3, [1, 0]), (1, [1, 0]), (0, [150, 2, 0]), (105, [41]), (2, [0, 0]), (27, [4, 4, 0, 18, 0, 199]), (107, [41]), (2, [0, 0]), (120, [132, 1, 50, 0, 462]), (108, [33]), (0, [-10, 1, 0]), (2, [0, 0]), (27, [4, 3, 0, 15, 0, 198]), (7, []), (114, []), (2, [0, 0]), (24, []), (27, [4, 6, 0, 24, 0, 201]), (0, [1, 0, 0]), (6, []), (28, [4, 6, 0, 24, 0, 0, 201]), (5, [1, 1]), (100, [19]), (2, [0, 0]), (27, [4, 6, 0, 24, 0, 201]), (114, [])]
def fd_p128 : List Nat := [0, 1, 4, 7, 8, 9, 12, 13, 14, 17, 18, 19, 22, 23, 24, 27, 28, 31, 32, 33, 34, 37, 40, 41, 44, 47, 48, 51, 54, 56, 57, 60, 61, 62, 63, 64, 67, 68, 69, 72, 75, 78, 79, 82]
-- FacingDoors$Reader.advance ()V
def fd_c129 : List fd_Ins := [(2, [0, 0]), (27, [4, 2, 0, 9, 0, 197]), (2, [0, 0]), (27, [4, 0, 2, 34, 0, 195]), (27, [7, 1, 0, 54, 1, 124]), (104, [20]), (2, [0, 0]), (27, [4, 0, 2, 34, 0, 195]), (2, [0, 0]), (27, [4, 2, 0, 9, 0, 197]), (120, [165, 2, 59, 1, 448]), (0, [32, 1, 0]), (102, [20]), (2, [0, 0]), (24, []), (27, [4, 2, 0, 9, 0, 197]), (0, [1, 0, 0]), (6, []), (28, [4, 2, 0, 9, 0, 0, 197]), (100, [0]), (2, [0, 0]), (2, [0, 0]), (27, [4, 2, 0, 9, 0, 197]), (28, [4, 3, 0, 15, 0, 0, 198]), (2, [0, 0]), (27, [4, 2, 0, 9, 0, 197]), (2, [0, 0]), (27, [4, 0, 2, 34, 0, 195]), (27, [7, 1, 0, 54, 1, 124]), (103, [34]), (2, [0, 0]), (0, [0, 0, 0]), (28, [4, 4, 0, 18, 0, 0, 199]), (116, []), (2, [0, 0]), (27, [4, 0, 2, 34, 0, 195]), (2, [0, 0]), (27, [4, 2, 0, 9, 0, 197]), (120, [165, 2, 59, 1, 448]), (3, [1, 0]), (1, [1, 0]), (121, [131, 1, 63, 0, 452]), (107, [46]), (2, [0, 0]), (120, [130, 1, 67, 0, 455]), (116, []), (2, [0, 0]), (24, []), (27, [4, 2, 0, 9, 0, 197]), (0, [1, 0, 0]), (6, []), (28, [4, 2, 0, 9, 0, 0, 197]), (2, [0, 0]), (1, [1, 0]), (28, [4, 5, 0, 21, 0, 0, 200]), (1, [1, 0]), (0, [97, 1, 0]), (103, [65]), (1, [1, 0]), (0, [122, 1, 0]), (105, [65]), (2, [0, 0]), (0, [1, 0, 0]), (28, [4, 4, 0, 18, 0, 0, 199]), (100, [73]), (2, [0, 0]), (1, [1, 0]), (0, [59, 1, 0]), (102, [71]), (0, [3, 0, 0]), (100, [72]), (0, [4, 0, 0]), (28, [4, 4, 0, 18, 0, 0, 199]), (116, [])]
def fd_p129 : List Nat := [0, 1, 4, 5, 8, 11, 14, 15, 18, 19, 22, 25, 27, 30, 31, 32, 35, 36, 37, 40, 43, 44, 45, 48, 51, 52, 55, 56, 59, 62, 65, 66, 67, 70, 71, 72, 75, 76, 79, 82, 83, 84, 87, 90, 91, 94, 95, 96, 97, 100, 101, 102, 105, 106, 107, 110, 111, 113, 116, 117, 119, 122, 123, 124, 127, 130, 131, 132, 134, 137, 138, 141, 142, 145]
-- FacingDoors$Reader.advanceOverNumber ()V
def fd_c130 : List fd_Ins := [(2, [0, 0]), (0, [0, 0, 0]), (28, [4, 5, 0, 21, 0, 0, 200]), (2, [0, 0]), (27, [4, 2, 0, 9, 0, 197]), (2, [0, 0]), (27, [4, 0, 2, 34, 0, 195]), (27, [7, 1, 0, 54, 1, 124]), (104, [39]), (2, [0, 0]), (27, [4, 0, 2, 34, 0, 195]), (2, [0, 0]), (27, [4, 2, 0, 9, 0, 197]), (120, [165, 2, 59, 1, 448]), (121, [131, 1, 63, 0, 452]), (107, [39]), (2, [0, 0]), (0, [100, 1, 0]), (2, [0, 0]), (27, [4, 5, 0, 21, 0, 200]), (0, [10, 1, 0]), (8, []), (2, [0, 0]), (27, [4, 0, 2, 34, 0, 195]), (2, [0, 0]), (27, [4, 2, 0, 9, 0, 197]), (120, [165, 2, 59, 1, 448]), (6, []), (0, [48, 1, 0]), (7, []), (44, [70, 459]), (28, [4, 5, 0, 21, 0, 0, 200]), (2, [0, 0]), (24, []), (27, [4, 2, 0, 9, 0, 197]), (0, [1, 0, 0]), (6, []), (28, [4, 2, 0, 9, 0, 0, 197]), (100, [3]), (2, [0, 0]), (27, [4, 0, 2, 34, 0, 195]), (2, [0, 0]), (27, [4, 3, 0, 15, 0, 198]), (120, [165, 2, 59, 1, 448]), (0, [48, 1, 0]), (102, [55]), (2, [0, 0]), (27, [4, 2, 0, 9, 0, 197]), (2, [0, 0]), (27, [4, 3, 0, 15, 0, 198]), (7, []), (0, [1, 0, 0]), (106, [55]), (0, [1, 0, 0]), (100, [56]), (0, [0, 0, 0]), (3, [1, 0]), (2, [0, 0]), (1, [1, 0]), (108, [64]), (2, [0, 0]), (27, [4, 5, 0, 21, 0, 200]), (0, [99, 1, 0]), (106, [66]), (0, [4, 0, 0]), (100, [67]), (0, [2, 0, 0]), (28, [4, 4, 0, 18, 0, 0, 199]), (116, [])]
def fd_p130 : List Nat := [0, 1, 2, 5, 6, 9, 10, 13, 16, 19, 20, 23, 24, 27, 30, 33, 36, 37, 39, 40, 43, 45, 46, 47, 50, 51, 54, 57, 58, 60, 61, 64, 67, 68, 69, 72, 73, 74, 77, 80, 81, 84, 85, 88, 91, 93, 96, 97, 100, 101, 104, 105, 106, 109, 110, 113, 114, 115, 116, 117, 120, 121, 124, 126, 129, 130, 133, 134, 137]
-- FacingDoors$Reader.isDigit (I)Z
def fd_c131 : List fd_Ins := [(1, [0, 0]), (0, [48, 1, 0]), (103, [8]), (1, [0, 0]), (0, [57, 1, 0]), (105, [8]), (0, [1, 0, 0]), (100, [9]), (0, [0, 0, 0]), (114, [])]
def fd_p131 : List Nat := [0, 1, 3, 6, 7, 9, 12, 13, 16, 17]
-- FacingDoors$Reader.takeItem ()Z
def fd_c132 : List fd_Ins := [(2, [0, 0]), (27, [4, 4, 0, 18, 0, 199]), (0, [1, 0, 0]), (101, [6]), (0, [0, 0, 0]), (114, []), (2, [0, 0]), (27, [4, 5, 0, 21, 0, 200]), (118, [24, 100, 15, 112, 18, 114, 12, 115, 21, 119, 9]), (2, [0, 0]), (120, [133, 1, 76, 0, 466]), (114, []), (2, [0, 0]), (120, [134, 1, 79, 0, 478]), (114, []), (2, [0, 0]), (120, [136, 1, 82, 0, 489]), (114, []), (2, [0, 0]), (120, [137, 1, 85, 0, 506]), (114, []), (2, [0, 0]), (120, [138, 1, 88, 0, 510]), (114, []), (0, [0, 0, 0]), (114, [])]
def fd_p132 : List Nat := [0, 1, 4, 5, 8, 9, 10, 11, 14, 64, 65, 68, 69, 70, 73, 74, 75, 78, 79, 80, 83, 84, 85, 88, 89, 90]
-- FacingDoors$Reader.takeWide ()Z
def fd_c133 : List fd_Ins := [(2, [0, 0]), (27, [4, 6, 0, 24, 0, 201]), (108, [8]), (2, [0, 0]), (0, [1, 0, 0]), (0, [7, 1, 0]), (120, [139, 3, 91, 0, 470]), (108, [10]), (0, [0, 0, 0]), (114, []), (2, [0, 0]), (27, [4, 1, 2, 38, 0, 196]), (2, [0, 0]), (27, [4, 5, 0, 21, 0, 200]), (28, [3, 0, 0, 95, 1, 0, 138]), (2, [0, 0]), (120, [140, 1, 98, 0, 474]), (114, [])]
def fd_p133 : List Nat := [0, 1, 4, 7, 8, 9, 11, 14, 17, 18, 19, 20, 23, 24, 27, 30, 31, 34]
-- FacingDoors$Reader.takeRow ()Z
def fd_c134 : List fd_Ins := [(2, [0, 0]), (27, [4, 1, 2, 38, 0, 196]), (27, [3, 0, 0, 95, 1, 138]), (107, [13]), (2, [0, 0]), (27, [4, 1, 2, 38, 0, 196]), (27, [3, 1, 0, 101, 1, 141]), (0, [7, 1, 0]), (104, [13]), (2, [0, 0]), (27, [4, 1, 2, 38, 0, 196]), (27, [3, 2, 0, 104, 1, 148]), (112, [15]), (0, [0, 0, 0]), (114, []), (0, [0, 0, 0]), (3, [1, 0]), (1, [1, 0]), (2, [0, 0]), (27, [4, 1, 2, 38, 0, 196]), (27, [3, 0, 0, 95, 1, 138]), (104, [42]), (2, [0, 0]), (120, [135, 1, 107, 0, 482]), (3, [2, 0]), (1, [2, 0]), (0, [-1, 0, 0]), (102, [30]), (0, [0, 0, 0]), (114, []), (2, [0, 0]), (27, [4, 1, 2, 38, 0, 196]), (27, [3, 5, 2, 111, 1, 160]), (1, [1, 0]), (2, [0, 0]), (27, [4, 1, 2, 38, 0, 196]), (27, [3, 1, 0, 101, 1, 141]), (121, [46, 2, 115, 1, 486]), (1, [2, 0]), (31, []), (5, [1, 1]), (100, [17]), (2, [0, 0]), (27, [4, 1, 2, 38, 0, 196]), (24, []), (27, [3, 1, 0, 101, 1, 141]), (0, [1, 0, 0]), (6, []), (28, [3, 1, 0, 101, 1, 0, 141]), (2, [0, 0]), (120, [140, 1, 98, 0, 474]), (114, [])]
def fd_p134 : List Nat := [0, 1, 4, 7, 10, 11, 14, 17, 19, 22, 23, 26, 29, 32, 33, 34, 35, 36, 37, 38, 41, 44, 47, 48, 51, 52, 53, 54, 57, 58, 59, 60, 63, 66, 67, 68, 71, 74, 77, 78, 79, 82, 85, 86, 89, 90, 93, 94, 95, 98, 99, 102]
-- FacingDoors$Reader.nextGround ()I
def fd_c135 : List fd_Ins := [(2, [0, 0]), (120, [129, 1, 47, 0, 444]), (2, [0, 0]), (27, [4, 4, 0, 18, 0, 199]), (0, [1, 0, 0]), (101, [8]), (0, [-1, 0, 0]), (114, []), (2, [0, 0]), (27, [4, 5, 0, 21, 0, 200]), (118, [17, 102, 11, 116, 15, 120, 13]), (0, [0, 0, 0]), (114, []), (0, [1, 0, 0]), (114, []), (0, [2, 0, 0]), (114, []), (0, [-1, 0, 0]), (114, [])]
def fd_p135 : List Nat := [0, 1, 4, 5, 8, 9, 12, 13, 14, 15, 18, 52, 53, 54, 55, 56, 57, 58, 59]
-- FacingDoors$Reader.takeDoor ()Z
def fd_c136 : List fd_Ins := [(2, [0, 0]), (27, [4, 1, 2, 38, 0, 196]), (27, [3, 2, 0, 104, 1, 148]), (0, [6, 1, 0]), (104, [14]), (2, [0, 0]), (0, [0, 0, 0]), (2, [0, 0]), (27, [4, 1, 2, 38, 0, 196]), (27, [3, 0, 0, 95, 1, 138]), (0, [1, 0, 0]), (7, []), (120, [139, 3, 91, 0, 470]), (108, [16]), (0, [0, 0, 0]), (114, []), (2, [0, 0]), (27, [4, 5, 0, 21, 0, 200]), (3, [1, 0]), (2, [0, 0]), (0, [0, 0, 0]), (2, [0, 0]), (27, [4, 1, 2, 38, 0, 196]), (27, [3, 1, 0, 101, 1, 141]), (0, [1, 0, 0]), (7, []), (120, [139, 3, 91, 0, 470]), (107, [35]), (2, [0, 0]), (27, [4, 1, 2, 38, 0, 196]), (1, [1, 0]), (2, [0, 0]), (27, [4, 5, 0, 21, 0, 200]), (120, [126, 3, 118, 1, 493]), (108, [37]), (0, [0, 0, 0]), (114, []), (2, [0, 0]), (27, [4, 5, 0, 21, 0, 200]), (3, [2, 0]), (2, [0, 0]), (0, [0, 0, 0]), (0, [3, 0, 0]), (120, [139, 3, 91, 0, 470]), (108, [47]), (0, [0, 0, 0]), (114, []), (2, [0, 0]), (27, [4, 1, 2, 38, 0, 196]), (27, [3, 6, 2, 121, 1, 163]), (2, [0, 0]), (27, [4, 1, 2, 38, 0, 196]), (27, [3, 2, 0, 104, 1, 148]), (1, [1, 0]), (31, []), (2, [0, 0]), (27, [4, 1, 2, 38, 0, 196]), (27, [3, 7, 2, 124, 1, 166]), (2, [0, 0]), (27, [4, 1, 2, 38, 0, 196]), (27, [3, 2, 0, 104, 1, 148]), (1, [2, 0]), (31, []), (2, [0, 0]), (27, [4, 1, 2, 38, 0, 196]), (27, [3, 8, 2, 127, 1, 169]), (2, [0, 0]), (27, [4, 1, 2, 38, 0, 196]), (27, [3, 2, 0, 104, 1, 148]), (2, [0, 0]), (27, [4, 5, 0, 21, 0, 200]), (31, []), (2, [0, 0]), (27, [4, 1, 2, 38, 0, 196]), (24, []), (27, [3, 2, 0, 104, 1, 148]), (0, [1, 0, 0]), (6, []), (28, [3, 2, 0, 104, 1, 0, 148]), (2, [0, 0]), (120, [140, 1, 98, 0, 474]), (114, [])]
def fd_p136 : List Nat := [0, 1, 4, 7, 9, 12, 13, 14, 15, 18, 21, 22, 23, 26, 29, 30, 31, 32, 35, 36, 37, 38, 39, 42, 45, 46, 47, 50, 53, 54, 57, 58, 59, 62, 65, 68, 69, 70, 71, 74, 75, 76, 77, 78, 81, 84, 85, 86, 87, 90, 93, 94, 97, 100, 101, 102, 103, 106, 109, 110, 113, 116, 117, 118, 119, 122, 125, 126, 129, 132, 133, 136, 137, 138, 141, 142, 145, 146, 147, 150, 151, 154]
-- FacingDoors$Reader.takePrice ()Z
def fd_c137 : List fd_Ins := [(2, [0, 0]), (27, [4, 7, 3, 27, 0, 202]), (108, [8]), (2, [0, 0]), (0, [1, 0, 0]), (0, [9, 1, 0]), (120, [139, 3, 91, 0, 470]), (108, [10]), (0, [0, 0, 0]), (114, []), (2, [0, 0]), (0, [1, 0, 0]), (28, [4, 7, 3, 27, 0, 0, 202]), (2, [0, 0]), (27, [4, 1, 2, 38, 0, 196]), (2, [0, 0]), (27, [4, 5, 0, 21, 0, 200]), (28, [3, 3, 0, 130, 1, 0, 152]), (2, [0, 0]), (120, [140, 1, 98, 0, 474]), (114, [])]
def fd_p137 : List Nat := [0, 1, 4, 7, 8, 9, 11, 14, 17, 18, 19, 20, 21, 24, 25, 28, 29, 32, 35, 36, 39]
-- FacingDoors$Reader.takeSight ()Z
def fd_c138 : List fd_Ins := [(2, [0, 0]), (27, [4, 8, 3, 31, 0, 203]), (108, [8]), (2, [0, 0]), (0, [1, 0, 0]), (0, [7, 1, 0]), (120, [139, 3, 91, 0, 470]), (108, [10]), (0, [0, 0, 0]), (114, []), (2, [0, 0]), (0, [1, 0, 0]), (28, [4, 8, 3, 31, 0, 0, 203]), (2, [0, 0]), (27, [4, 1, 2, 38, 0, 196]), (2, [0, 0]), (27, [4, 5, 0, 21, 0, 200]), (28, [3, 4, 0, 133, 1, 0, 156]), (2, [0, 0]), (120, [140, 1, 98, 0, 474]), (114, [])]
def fd_p138 : List Nat := [0, 1, 4, 7, 8, 9, 11, 14, 17, 18, 19, 20, 21, 24, 25, 28, 29, 32, 35, 36, 39]
-- FacingDoors$Reader.nextIsNumber (II)Z
def fd_c139 : List fd_Ins := [(2, [0, 0]), (120, [129, 1, 47, 0, 444]), (2, [0, 0]), (27, [4, 4, 0, 18, 0, 199]), (0, [2, 0, 0]), (102, [16]), (2, [0, 0]), (27, [4, 5, 0, 21, 0, 200]), (1, [1, 0]), (103, [16]), (2, [0, 0]), (27, [4, 5, 0, 21, 0, 200]), (1, [2, 0]), (105, [16]), (0, [1, 0, 0]), (100, [17]), (0, [0, 0, 0]), (114, [])]
def fd_p139 : List Nat := [0, 1, 4, 5, 8, 9, 12, 13, 16, 17, 20, 21, 24, 25, 28, 29, 32, 33]
-- FacingDoors$Reader.takeEnd ()Z
def fd_c140 : List fd_Ins := [(2, [0, 0]), (120, [129, 1, 47, 0, 444]), (2, [0, 0]), (27, [4, 4, 0, 18, 0, 199]), (0, [3, 0, 0]), (101, [8]), (0, [0, 0, 0]), (114, []), (2, [0, 0]), (120, [129, 1, 47, 0, 444]), (0, [1, 0, 0]), (114, [])]
def fd_p140 : List Nat := [0, 1, 4, 5, 8, 9, 12, 13, 14, 15, 18, 19]
-- FacingDoors$Scene.<init> ()V
def fd_c141 : List fd_Ins := [(2, [0, 0]), (42, [3, 228]), (2, [0, 0]), (0, [6, 1, 0]), (38, [20]), (28, [5, 0, 2, 9, 0, 1, 229]), (2, [0, 0]), (0, [6, 1, 0]), (38, [20]), (28, [5, 1, 2, 15, 0, 1, 232]), (2, [0, 0]), (0, [6, 1, 0]), (38, [20]), (28, [5, 2, 2, 18, 0, 1, 235]), (2, [0, 0]), (0, [6, 1, 0]), (38, [20]), (28, [5, 3, 2, 21, 0, 1, 239]), (2, [0, 0]), (0, [0, 0, 0]), (28, [5, 4, 0, 24, 0, 0, 241]), (2, [0, 0]), (17, [0, 0, 0]), (28, [5, 5, 1, 28, 0, 0, 243]), (2, [0, 0]), (0, [1, 0, 0]), (28, [5, 6, 3, 32, 0, 0, 246]), (2, [0, 0]), (0, [0, 0, 0]), (28, [5, 7, 3, 36, 0, 0, 249]), (116, [])]
def fd_p141 : List Nat := [0, 1, 4, 5, 7, 9, 12, 13, 15, 17, 20, 21, 23, 25, 28, 29, 31, 33, 36, 37, 38, 41, 42, 43, 46, 47, 48, 51, 52, 53, 56]
-- FacingDoors$Scene.begin (LFacingDoors$Plan;)V
def fd_c142 : List fd_Ins := [(0, [0, 0, 0]), (3, [2, 0]), (1, [2, 0]), (0, [6, 1, 0]), (104, [36]), (2, [0, 0]), (27, [5, 0, 2, 9, 0, 229]), (1, [2, 0]), (2, [1, 0]), (27, [3, 6, 2, 39, 1, 162]), (1, [2, 0]), (30, []), (31, []), (2, [0, 0]), (27, [5, 1, 2, 15, 0, 232]), (1, [2, 0]), (2, [1, 0]), (27, [3, 7, 2, 44, 1, 165]), (1, [2, 0]), (30, []), (31, []), (2, [0, 0]), (27, [5, 2, 2, 18, 0, 235]), (1, [2, 0]), (2, [1, 0]), (27, [3, 8, 2, 47, 1, 168]), (1, [2, 0]), (30, []), (31, []), (2, [0, 0]), (27, [5, 3, 2, 21, 0, 239]), (1, [2, 0]), (0, [0, 0, 0]), (31, []), (5, [2, 1]), (100, [2]), (2, [0, 0]), (2, [1, 0]), (27, [3, 2, 0, 50, 1, 146]), (121, [45, 1, 53, 1, 525]), (0, [1, 0, 0]), (7, []), (28, [5, 4, 0, 24, 0, 0, 241]), (2, [0, 0]), (17, [0, 0, 0]), (28, [5, 5, 1, 28, 0, 0, 243]), (2, [0, 0]), (0, [1, 0, 0]), (28, [5, 6, 3, 32, 0, 0, 246]), (2, [0, 0]), (0, [0, 0, 0]), (28, [5, 7, 3, 36, 0, 0, 249]), (116, [])]
def fd_p142 : List Nat := [0, 1, 2, 3, 5, 8, 9, 12, 13, 14, 17, 18, 19, 20, 21, 24, 25, 26, 29, 30, 31, 32, 33, 36, 37, 38, 41, 42, 43, 44, 45, 48, 49, 50, 51, 54, 57, 58, 59, 62, 65, 66, 67, 70, 71, 72, 75, 76, 77, 80, 81, 82, 85]
-- FacingDoors$Scene.copyFrom (LFacingDoors$Scene;)V
def fd_c143 : List fd_Ins := [(2, [1, 0]), (27, [5, 0, 2, 9, 0, 229]), (0, [0, 0, 0]), (2, [0, 0]), (27, [5, 0, 2, 9, 0, 229]), (0, [0, 0, 0]), (0, [6, 1, 0]), (40, [57, 628]), (2, [1, 0]), (27, [5, 1, 2, 15, 0, 232]), (0, [0, 0, 0]), (2, [0, 0]), (27, [5, 1, 2, 15, 0, 232]), (0, [0, 0, 0]), (0, [6, 1, 0]), (40, [57, 628]), (2, [1, 0]), (27, [5, 2, 2, 18, 0, 235]), (0, [0, 0, 0]), (2, [0, 0]), (27, [5, 2, 2, 18, 0, 235]), (0, [0, 0, 0]), (0, [6, 1, 0]), (40, [57, 628]), (2, [1, 0]), (27, [5, 3, 2, 21, 0, 239]), (0, [0, 0, 0]), (2, [0, 0]), (27, [5, 3, 2, 21, 0, 239]), (0, [0, 0, 0]), (0, [6, 1, 0]), (40, [57, 628]), (2, [0, 0]), (2, [1, 0]), (27, [5, 4, 0, 24, 0, 241]), (28, [5, 4, 0, 24, 0, 0, 241]), (2, [0, 0]), (2, [1, 0]), (27, [5, 5, 1, 28, 0, 243]), (28, [5, 5, 1, 28, 0, 0, 243]), (2, [0, 0]), (2, [1, 0]), (27, [5, 6, 3, 32, 0, 246]), (28, [5, 6, 3, 32, 0, 0, 246]), (2, [0, 0]), (2, [1, 0]), (27, [5, 7, 3, 36, 0, 249]), (28, [5, 7, 3, 36, 0, 0, 249]), (116, [])]
def fd_p143 : List Nat := [0, 1, 4, 5, 6, 9, 10, 12, 15, 16, 19, 20, 21, 24, 25, 27, 30, 31, 34, 35, 36, 39, 40, 42, 45, 46, 49, 50, 51, 54, 55, 57, 60, 61, 62, 65, 68, 69, 70, 73, 76, 77, 78, 81, 84, 85, 86, 89, 92]
-- FacingDoors$Scene.isOpen (I)Z
def fd_c144 : List fd_Ins := [(2, [0, 0]), (27, [5, 4, 0, 24, 0, 241]), (1, [1, 0]), (121, [44, 2, 63, 1, 555]), (114, [])]
def fd_p144 : List Nat := [0, 1, 4, 5, 8]
-- FacingDoors$Scene.hasCart (II)Z
def fd_c145 : List fd_Ins := [(2, [0, 0]), (27, [5, 5, 1, 28, 0, 243]), (1, [1, 0]), (1, [2, 0]), (121, [46, 2, 67, 1, 541]), (45, []), (17, [1, 0, 0]), (20, []), (17, [0, 0, 0]), (22, []), (107, [13]), (0, [1, 0, 0]), (100, [14]), (0, [0, 0, 0]), (114, [])]
def fd_p145 : List Nat := [0, 1, 4, 5, 6, 9, 10, 11, 12, 13, 14, 17, 18, 21, 22]
-- FacingDoors$Scene.hasCart (II)Z
def fd_c146 : List fd_Ins := [(2, [0, 0]), (27, [5, 5, 1, 28, 0, 243]), (1, [1, 0]), (1, [2, 0]), (121, [46, 2, 67, 1, 541]), (45, []), (17, [1, 0, 0]), (20, []), (17, [0, 0, 0]), (22, []), (107, [13]), (0, [1, 0, 0]), (100, [14]), (0, [0, 0, 0]), (114, [])]
def fd_p146 : List Nat := [0, 1, 4, 5, 6, 9, 10, 11, 12, 13, 14, 17, 18, 21, 22]
-- FacingDoors$Scene.doorOn (III)I
def fd_c147 : List fd_Ins := [(0, [0, 0, 0]), (3, [4, 1]), (1, [4, 1]), (1, [3, 0]), (104, [24]), (1, [4, 1]), (0, [6, 1, 0]), (104, [24]), (2, [0, 0]), (27, [5, 0, 2, 9, 0, 229]), (1, [4, 1]), (30, []), (1, [1, 0]), (102, [22]), (2, [0, 0]), (27, [5, 1, 2, 15, 0, 232]), (1, [4, 1]), (30, []), (1, [2, 0]), (102, [22]), (1, [4, 1]), (114, []), (5, [4, 1]), (100, [2]), (0, [-1, 0, 0]), (114, [])]
def fd_p147 : List Nat := [0, 1, 3, 5, 6, 9, 11, 13, 16, 17, 20, 22, 23, 24, 27, 28, 31, 33, 34, 35, 38, 40, 41, 44, 47, 48]
-- FacingDoors$Scene.owedByAll (I)I
def fd_c148 : List fd_Ins := [(0, [0, 0, 0]), (3, [2, 0]), (0, [0, 0, 0]), (3, [3, 0]), (1, [3, 0]), (1, [1, 0]), (104, [19]), (1, [3, 0]), (0, [6, 1, 0]), (104, [19]), (1, [2, 0]), (2, [0, 0]), (27, [5, 3, 2, 21, 0, 239]), (1, [3, 0]), (30, []), (6, []), (3, [2, 0]), (5, [3, 1]), (100, [4]), (1, [2, 0]), (114, [])]
def fd_p148 : List Nat := [0, 1, 2, 3, 4, 5, 6, 9, 10, 12, 15, 16, 17, 20, 21, 22, 23, 24, 27, 30, 31]
-- FacingDoors$Sights.<init> (LFacingDoors$Plan;LFacingDoors$Scene;)V
def fd_c149 : List fd_Ins := [(2, [0, 0]), (42, [3, 294]), (2, [0, 0]), (2, [1, 0]), (28, [6, 0, 2, 9, 0, 1, 295]), (2, [0, 0]), (2, [2, 0]), (28, [6, 1, 2, 15, 0, 1, 296]), (116, [])]
def fd_p149 : List Nat := [0, 1, 4, 5, 6, 9, 10, 11, 14]
-- FacingDoors$Sights.isVacant (II)Z
def fd_c150 : List fd_Ins := [(2, [0, 0]), (27, [6, 0, 2, 9, 0, 295]), (1, [1, 0]), (1, [2, 0]), (120, [123, 3, 19, 1, 574]), (107, [30]), (2, [0, 0]), (27, [6, 0, 2, 9, 0, 295]), (1, [1, 0]), (1, [2, 0]), (120, [125, 3, 25, 1, 601]), (108, [30]), (2, [0, 0]), (27, [6, 1, 2, 15, 0, 296]), (1, [1, 0]), (1, [2, 0]), (120, [145, 3, 29, 1, 602]), (108, [30]), (2, [0, 0]), (27, [6, 1, 2, 15, 0, 296]), (1, [1, 0]), (1, [2, 0]), (2, [0, 0]), (27, [6, 0, 2, 9, 0, 295]), (27, [3, 2, 0, 34, 1, 145]), (120, [147, 4, 38, 1, 575]), (0, [-1, 0, 0]), (102, [30]), (0, [1, 0, 0]), (100, [31]), (0, [0, 0, 0]), (114, [])]
def fd_p150 : List Nat := [0, 1, 4, 5, 6, 9, 12, 13, 16, 17, 18, 21, 24, 25, 28, 29, 30, 33, 36, 37, 40, 41, 42, 43, 46, 49, 52, 53, 56, 57, 60, 61]
-- FacingDoors$Sights.hidesWhatIsBehind (I)Z
def fd_c151 : List fd_Ins := [(2, [0, 0]), (27, [6, 0, 2, 9, 0, 295]), (27, [3, 5, 2, 42, 1, 159]), (1, [1, 0]), (30, []), (3, [2, 0]), (1, [2, 0]), (0, [1, 0, 0]), (101, [26]), (1, [2, 0]), (0, [2, 0, 0]), (102, [16]), (2, [0, 0]), (27, [6, 1, 2, 15, 0, 296]), (27, [5, 6, 3, 46, 1, 247]), (108, [26]), (2, [0, 0]), (27, [6, 1, 2, 15, 0, 296]), (27, [5, 5, 1, 50, 1, 244]), (1, [1, 0]), (45, []), (17, [1, 0, 0]), (20, []), (17, [0, 0, 0]), (22, []), (107, [28]), (0, [1, 0, 0]), (100, [29]), (0, [0, 0, 0]), (114, [])]
def fd_p151 : List Nat := [0, 1, 4, 7, 8, 9, 10, 11, 12, 15, 16, 17, 20, 21, 24, 27, 30, 31, 34, 37, 38, 39, 40, 41, 42, 43, 46, 47, 50, 51]
-- FacingDoors$Sights.wouldSee (II)I
def fd_c152 : List fd_Ins := [(2, [0, 0]), (27, [6, 1, 2, 15, 0, 296]), (27, [5, 0, 2, 54, 1, 230]), (1, [1, 0]), (30, []), (3, [3, 0]), (2, [0, 0]), (27, [6, 1, 2, 15, 0, 296]), (27, [5, 1, 2, 57, 1, 233]), (1, [1, 0]), (30, []), (3, [4, 1]), (0, [0, 0, 0]), (3, [5, 1]), (1, [5, 1]), (2, [0, 0]), (27, [6, 0, 2, 9, 0, 295]), (27, [3, 4, 0, 60, 1, 155]), (104, [63]), (1, [3, 0]), (29, [1001, 63, 1, 570]), (1, [2, 0]), (43, []), (6, []), (3, [3, 0]), (1, [4, 1]), (29, [1002, 66, 1, 572]), (1, [2, 0]), (43, []), (6, []), (3, [4, 1]), (2, [0, 0]), (27, [6, 0, 2, 9, 0, 295]), (1, [3, 0]), (1, [4, 1]), (120, [123, 3, 19, 1, 574]), (108, [39]), (0, [-1, 0, 0]), (114, []), (2, [0, 0]), (27, [6, 1, 2, 15, 0, 296]), (1, [3, 0]), (1, [4, 1]), (2, [0, 0]), (27, [6, 0, 2, 9, 0, 295]), (27, [3, 2, 0, 34, 1, 145]), (120, [147, 4, 38, 1, 575]), (3, [6, 1]), (1, [6, 1]), (0, [-1, 0, 0]), (101, [53]), (1, [6, 1]), (114, []), (2, [0, 0]), (1, [3, 0]), (1, [4, 1]), (121, [46, 2, 69, 1, 576]), (120, [151, 2, 72, 0, 577]), (107, [61]), (0, [-1, 0, 0]), (114, []), (5, [5, 1]), (100, [14]), (0, [-1, 0, 0]), (114, [])]
def fd_p152 : List Nat := [0, 1, 4, 7, 8, 9, 10, 11, 14, 17, 18, 19, 21, 22, 24, 26, 27, 30, 33, 36, 37, 40, 41, 42, 43, 44, 46, 49, 50, 51, 52, 54, 55, 58, 59, 61, 64, 67, 68, 69, 70, 73, 74, 76, 77, 80, 83, 86, 88, 90, 91, 94, 96, 97, 98, 99, 101, 104, 107, 110, 111, 112, 115, 118, 119]
-- FacingDoors$Sights.seesWhom (I)I
def fd_c153 : List fd_Ins := [(2, [0, 0]), (27, [6, 1, 2, 15, 0, 296]), (27, [5, 7, 3, 76, 1, 250]), (108, [9]), (2, [0, 0]), (27, [6, 1, 2, 15, 0, 296]), (1, [1, 0]), (120, [144, 2, 79, 1, 565]), (108, [11]), (0, [-1, 0, 0]), (100, [19]), (2, [0, 0]), (1, [1, 0]), (2, [0, 0]), (27, [6, 1, 2, 15, 0, 296]), (27, [5, 2, 2, 82, 1, 237]), (1, [1, 0]), (30, []), (120, [152, 3, 85, 0, 566]), (114, [])]
def fd_p153 : List Nat := [0, 1, 4, 7, 10, 11, 14, 15, 18, 21, 22, 25, 26, 27, 28, 31, 34, 35, 36, 39]
-- FacingDoors$Sights.seenBy (I)I
def fd_c154 : List fd_Ins := [(0, [0, 0, 0]), (3, [2, 0]), (0, [0, 0, 0]), (3, [3, 0]), (1, [3, 0]), (2, [0, 0]), (27, [6, 0, 2, 9, 0, 295]), (27, [3, 2, 0, 34, 1, 145]), (104, [21]), (2, [0, 0]), (1, [3, 0]), (120, [153, 2, 88, 0, 607]), (1, [1, 0]), (102, [19]), (1, [2, 0]), (1, [3, 0]), (121, [45, 1, 92, 1, 608]), (12, []), (3, [2, 0]), (5, [3, 1]), (100, [4]), (1, [2, 0]), (114, [])]
def fd_p154 : List Nat := [0, 1, 2, 3, 4, 5, 6, 9, 12, 15, 16, 17, 20, 21, 24, 25, 26, 29, 30, 31, 34, 37, 38]
-- FacingDoors$Sights.dueIfOpen (I)I
def fd_c155 : List fd_Ins := [(2, [0, 0]), (27, [6, 1, 2, 15, 0, 296]), (27, [5, 7, 3, 76, 1, 250]), (107, [6]), (0, [-1, 0, 0]), (100, [14]), (2, [0, 0]), (1, [1, 0]), (2, [0, 0]), (27, [6, 1, 2, 15, 0, 296]), (27, [5, 2, 2, 82, 1, 237]), (1, [1, 0]), (30, []), (120, [152, 3, 85, 0, 566]), (3, [2, 0]), (1, [2, 0]), (0, [-1, 0, 0]), (102, [20]), (0, [0, 0, 0]), (114, []), (2, [0, 0]), (27, [6, 1, 2, 15, 0, 296]), (27, [5, 2, 2, 82, 1, 237]), (1, [2, 0]), (30, []), (2, [0, 0]), (27, [6, 1, 2, 15, 0, 296]), (27, [5, 2, 2, 82, 1, 237]), (1, [1, 0]), (30, []), (121, [48, 1, 95, 1, 590]), (102, [34]), (0, [1, 0, 0]), (100, [35]), (0, [0, 0, 0]), (3, [3, 0]), (1, [3, 0]), (107, [44]), (0, [2, 0, 0]), (2, [0, 0]), (27, [6, 0, 2, 9, 0, 295]), (27, [3, 3, 0, 98, 1, 151]), (8, []), (100, [47]), (2, [0, 0]), (27, [6, 0, 2, 9, 0, 295]), (27, [3, 3, 0, 98, 1, 151]), (114, [])]
def fd_p155 : List Nat := [0, 1, 4, 7, 10, 11, 14, 15, 16, 17, 20, 23, 24, 25, 28, 29, 30, 31, 34, 35, 36, 37, 40, 43, 44, 45, 46, 49, 52, 53, 54, 57, 60, 61, 64, 65, 66, 67, 70, 71, 72, 75, 78, 79, 82, 83, 86, 89]
-- FacingDoors$Sights.dueOf (I)I
def fd_c156 : List fd_Ins := [(2, [0, 0]), (27, [6, 1, 2, 15, 0, 296]), (1, [1, 0]), (120, [144, 2, 79, 1, 565]), (107, [9]), (2, [0, 0]), (1, [1, 0]), (120, [155, 2, 101, 0, 586]), (100, [10]), (0, [0, 0, 0]), (114, [])]
def fd_p156 : List Nat := [0, 1, 4, 5, 8, 11, 12, 13, 16, 19, 20]
-- FacingDoors$Sights.dueOfAll ()I
def fd_c157 : List fd_Ins := [(0, [0, 0, 0]), (3, [1, 0]), (0, [0, 0, 0]), (3, [2, 0]), (1, [2, 0]), (2, [0, 0]), (27, [6, 0, 2, 9, 0, 295]), (27, [3, 2, 0, 34, 1, 145]), (104, [17]), (1, [1, 0]), (2, [0, 0]), (1, [2, 0]), (120, [156, 2, 104, 0, 662]), (6, []), (3, [1, 0]), (5, [2, 1]), (100, [4]), (1, [1, 0]), (114, [])]
def fd_p157 : List Nat := [0, 1, 2, 3, 4, 5, 6, 9, 12, 15, 16, 17, 18, 21, 22, 23, 26, 29, 30]
-- FacingDoors$Sights.pairs ()I
def fd_c158 : List fd_Ins := [(0, [0, 0, 0]), (3, [1, 0]), (0, [0, 0, 0]), (3, [2, 0]), (1, [2, 0]), (2, [0, 0]), (27, [6, 0, 2, 9, 0, 295]), (27, [3, 2, 0, 34, 1, 145]), (104, [24]), (2, [0, 0]), (1, [2, 0]), (120, [153, 2, 88, 0, 607]), (3, [3, 0]), (1, [3, 0]), (1, [2, 0]), (106, [22]), (2, [0, 0]), (1, [3, 0]), (120, [153, 2, 88, 0, 607]), (1, [2, 0]), (102, [22]), (5, [1, 1]), (5, [2, 1]), (100, [4]), (1, [1, 0]), (114, [])]
def fd_p158 : List Nat := [0, 1, 2, 3, 4, 5, 6, 9, 12, 15, 16, 17, 20, 21, 22, 23, 26, 27, 28, 31, 32, 35, 38, 41, 44, 45]
-- FacingDoors$Sights.hasWayIn (II)Z
def fd_c159 : List fd_Ins := [(2, [0, 0]), (2, [0, 0]), (27, [6, 1, 2, 15, 0, 296]), (27, [5, 0, 2, 54, 1, 230]), (1, [1, 0]), (30, []), (29, [1001, 63, 1, 570]), (1, [2, 0]), (43, []), (6, []), (2, [0, 0]), (27, [6, 1, 2, 15, 0, 296]), (27, [5, 1, 2, 57, 1, 233]), (1, [1, 0]), (30, []), (29, [1002, 66, 1, 572]), (1, [2, 0]), (43, []), (6, []), (120, [150, 3, 107, 0, 597]), (114, [])]
def fd_p159 : List Nat := [0, 1, 2, 5, 8, 9, 10, 13, 14, 15, 16, 17, 20, 23, 24, 25, 28, 29, 30, 31, 34]
-- FacingDoors$Sights.whoHasWayIn ()I
def fd_c160 : List fd_Ins := [(0, [0, 0, 0]), (3, [1, 0]), (0, [0, 0, 0]), (3, [2, 0]), (1, [2, 0]), (2, [0, 0]), (27, [6, 0, 2, 9, 0, 295]), (27, [3, 2, 0, 34, 1, 145]), (104, [25]), (2, [0, 0]), (1, [2, 0]), (2, [0, 0]), (27, [6, 1, 2, 15, 0, 296]), (27, [5, 2, 2, 82, 1, 237]), (1, [2, 0]), (30, []), (120, [159, 3, 110, 0, 688]), (107, [23]), (1, [1, 0]), (1, [2, 0]), (121, [45, 1, 92, 1, 608]), (12, []), (3, [1, 0]), (5, [2, 1]), (100, [4]), (1, [1, 0]), (114, [])]
def fd_p160 : List Nat := [0, 1, 2, 3, 4, 5, 6, 9, 12, 15, 16, 17, 18, 21, 24, 25, 26, 29, 32, 33, 34, 37, 38, 39, 42, 45, 46]
-- FacingDoors$Sights.eachCanHaveWayIn ()Z
def fd_c161 : List fd_Ins := [(0, [0, 0, 0]), (3, [1, 0]), (1, [1, 0]), (2, [0, 0]), (27, [6, 0, 2, 9, 0, 295]), (27, [3, 2, 0, 34, 1, 145]), (104, [33]), (0, [0, 0, 0]), (3, [2, 0]), (0, [0, 0, 0]), (3, [3, 0]), (1, [3, 0]), (0, [4, 0, 0]), (104, [27]), (1, [2, 0]), (108, [21]), (2, [0, 0]), (1, [1, 0]), (1, [3, 0]), (120, [159, 3, 110, 0, 688]), (107, [23]), (0, [1, 0, 0]), (100, [24]), (0, [0, 0, 0]), (3, [2, 0]), (5, [3, 1]), (100, [11]), (1, [2, 0]), (108, [31]), (0, [0, 0, 0]), (114, []), (5, [1, 1]), (100, [2]), (0, [1, 0, 0]), (114, [])]
def fd_p161 : List Nat := [0, 1, 2, 3, 4, 7, 10, 13, 14, 15, 16, 17, 18, 19, 22, 23, 26, 27, 28, 29, 32, 35, 36, 39, 40, 41, 44, 47, 48, 51, 52, 53, 56, 59, 60]
-- FacingDoors$Sights.mustSee (II)Z
def fd_c162 : List fd_Ins := [(0, [0, 0, 0]), (3, [3, 0]), (1, [3, 0]), (0, [4, 0, 0]), (104, [20]), (2, [0, 0]), (1, [1, 0]), (1, [3, 0]), (120, [159, 3, 110, 0, 688]), (107, [18]), (2, [0, 0]), (1, [1, 0]), (1, [3, 0]), (120, [152, 3, 85, 0, 566]), (1, [2, 0]), (101, [18]), (0, [0, 0, 0]), (114, []), (5, [3, 1]), (100, [2]), (0, [1, 0, 0]), (114, [])]
def fd_p162 : List Nat := [0, 1, 2, 3, 4, 7, 8, 9, 10, 13, 16, 17, 18, 19, 22, 23, 26, 27, 28, 31, 34, 35]
-- FacingDoors$Text.<init> ()V
def fd_c163 : List fd_Ins := [(2, [0, 0]), (42, [3, 120]), (2, [0, 0]), (0, [150, 2, 0]), (38, [20]), (28, [7, 0, 2, 9, 0, 1, 121]), (2, [0, 0]), (0, [0, 0, 0]), (28, [7, 1, 0, 15, 0, 0, 122]), (116, [])]
def fd_p163 : List Nat := [0, 1, 4, 5, 8, 10, 13, 14, 15, 18]
-- FacingDoors$Text.append (I)V
def fd_c164 : List fd_Ins := [(2, [0, 0]), (27, [7, 1, 0, 15, 0, 122]), (2, [0, 0]), (27, [7, 0, 2, 9, 0, 121]), (36, []), (104, [18]), (2, [0, 0]), (27, [7, 0, 2, 9, 0, 121]), (2, [0, 0]), (27, [7, 1, 0, 15, 0, 122]), (1, [1, 0]), (31, []), (2, [0, 0]), (24, []), (27, [7, 1, 0, 15, 0, 122]), (0, [1, 0, 0]), (6, []), (28, [7, 1, 0, 15, 0, 0, 122]), (116, [])]
def fd_p164 : List Nat := [0, 1, 4, 5, 8, 9, 12, 13, 16, 17, 20, 21, 22, 23, 24, 27, 28, 29, 32]
-- FacingDoors$Text.byteAt (I)I
def fd_c165 : List fd_Ins := [(1, [1, 0]), (109, [11]), (1, [1, 0]), (2, [0, 0]), (27, [7, 1, 0, 15, 0, 122]), (104, [11]), (2, [0, 0]), (27, [7, 0, 2, 9, 0, 121]), (1, [1, 0]), (30, []), (100, [12]), (0, [-1, 0, 0]), (114, [])]
def fd_p165 : List Nat := [0, 1, 4, 5, 6, 9, 12, 13, 16, 17, 18, 21, 22]
-- FacingDoors$Told.<init> ()V
def fd_c166 : List fd_Ins := [(2, [0, 0]), (42, [3, 348]), (2, [0, 0]), (0, [6, 1, 0]), (38, [20]), (28, [8, 0, 2, 9, 0, 1, 349]), (2, [0, 0]), (0, [6, 1, 0]), (38, [20]), (28, [8, 1, 2, 15, 0, 1, 350]), (2, [0, 0]), (0, [0, 0, 0]), (28, [8, 2, 0, 18, 0, 0, 351]), (116, [])]
def fd_p166 : List Nat := [0, 1, 4, 5, 7, 9, 12, 13, 15, 17, 20, 21, 22, 25]
-- FacingDoors$Told.add (II)V
def fd_c167 : List fd_Ins := [(2, [0, 0]), (27, [8, 2, 0, 18, 0, 351]), (0, [6, 1, 0]), (104, [22]), (2, [0, 0]), (27, [8, 0, 2, 9, 0, 349]), (2, [0, 0]), (27, [8, 2, 0, 18, 0, 351]), (1, [1, 0]), (31, []), (2, [0, 0]), (27, [8, 1, 2, 15, 0, 350]), (2, [0, 0]), (27, [8, 2, 0, 18, 0, 351]), (1, [2, 0]), (31, []), (2, [0, 0]), (24, []), (27, [8, 2, 0, 18, 0, 351]), (0, [1, 0, 0]), (6, []), (28, [8, 2, 0, 18, 0, 0, 351]), (116, [])]
def fd_p167 : List Nat := [0, 1, 4, 6, 9, 10, 13, 14, 17, 18, 19, 20, 23, 24, 27, 28, 29, 30, 31, 34, 35, 36, 39]
-- FacingDoors$Told.agreesWith (I[I)Z
def fd_c168 : List fd_Ins := [(0, [0, 0, 0]), (3, [3, 0]), (1, [3, 0]), (2, [0, 0]), (27, [8, 2, 0, 18, 0, 351]), (104, [32]), (1, [1, 0]), (2, [0, 0]), (27, [8, 0, 2, 9, 0, 349]), (1, [3, 0]), (30, []), (121, [44, 2, 22, 1, 779]), (107, [20]), (2, [2, 0]), (2, [0, 0]), (27, [8, 0, 2, 9, 0, 349]), (1, [3, 0]), (30, []), (30, []), (100, [21]), (0, [0, 0, 0]), (3, [4, 1]), (1, [4, 1]), (2, [0, 0]), (27, [8, 1, 2, 15, 0, 350]), (1, [3, 0]), (30, []), (101, [30]), (0, [0, 0, 0]), (114, []), (5, [3, 1]), (100, [2]), (0, [1, 0, 0]), (114, [])]
def fd_p168 : List Nat := [0, 1, 2, 3, 4, 7, 10, 11, 12, 15, 16, 17, 20, 23, 24, 25, 28, 29, 30, 31, 34, 35, 37, 39, 40, 43, 44, 45, 48, 49, 50, 53, 56, 57]
-- FacingDoors$TurnSearch.<init> (LFacingDoors$Plan;LFacingDoors$Scene;LFacingDoors$Sights;)V
def fd_c169 : List fd_Ins := [(2, [0, 0]), (42, [3, 307]), (2, [0, 0]), (0, [24, 1, 0]), (38, [20]), (28, [9, 3, 2, 11, 0, 1, 311]), (2, [0, 0]), (0, [24, 1, 0]), (38, [22]), (28, [9, 4, 2, 15, 0, 1, 312]), (2, [0, 0]), (0, [6, 1, 0]), (38, [20]), (28, [9, 5, 2, 19, 0, 1, 313]), (2, [0, 0]), (0, [6, 1, 0]), (38, [20]), (28, [9, 6, 2, 22, 0, 1, 314]), (2, [0, 0]), (0, [0, 0, 0]), (28, [9, 7, 3, 25, 0, 0, 316]), (2, [0, 0]), (0, [0, 0, 0]), (28, [9, 8, 0, 29, 0, 0, 317]), (2, [0, 0]), (0, [0, 0, 0]), (28, [9, 9, 0, 33, 0, 0, 319]), (2, [0, 0]), (2, [1, 0]), (28, [9, 0, 2, 36, 0, 1, 308]), (2, [0, 0]), (2, [2, 0]), (28, [9, 1, 2, 40, 0, 1, 309]), (2, [0, 0]), (2, [3, 0]), (28, [9, 2, 2, 44, 0, 1, 310]), (116, [])]
def fd_p169 : List Nat := [0, 1, 4, 5, 7, 9, 12, 13, 15, 17, 20, 21, 23, 25, 28, 29, 31, 33, 36, 37, 38, 41, 42, 43, 46, 47, 48, 51, 52, 53, 56, 57, 58, 61, 62, 63, 66]
-- FacingDoors$TurnSearch.run ()Z
def fd_c170 : List fd_Ins := [(0, [0, 0, 0]), (3, [1, 0]), (1, [1, 0]), (2, [0, 0]), (27, [9, 0, 2, 36, 0, 308]), (27, [3, 2, 0, 48, 1, 144]), (104, [42]), (0, [0, 0, 0]), (3, [2, 0]), (1, [2, 0]), (0, [4, 0, 0]), (104, [40]), (2, [0, 0]), (27, [9, 3, 2, 11, 0, 311]), (1, [1, 0]), (0, [4, 0, 0]), (8, []), (1, [2, 0]), (6, []), (2, [0, 0]), (27, [9, 2, 2, 44, 0, 310]), (1, [1, 0]), (1, [2, 0]), (120, [152, 3, 53, 1, 705]), (31, []), (2, [0, 0]), (27, [9, 4, 2, 15, 0, 312]), (1, [1, 0]), (0, [4, 0, 0]), (8, []), (1, [2, 0]), (6, []), (2, [0, 0]), (27, [9, 2, 2, 44, 0, 310]), (1, [1, 0]), (1, [2, 0]), (120, [159, 3, 59, 1, 706]), (33, []), (5, [2, 1]), (100, [9]), (5, [1, 1]), (100, [2]), (2, [0, 0]), (0, [0, 0, 0]), (28, [9, 7, 3, 25, 0, 0, 316]), (2, [0, 0]), (0, [0, 0, 0]), (0, [0, 0, 0]), (0, [0, 0, 0]), (120, [171, 4, 63, 0, 707]), (2, [0, 0]), (27, [9, 7, 3, 25, 0, 316]), (114, [])]
def fd_p170 : List Nat := [0, 1, 2, 3, 4, 7, 10, 13, 14, 15, 16, 17, 20, 21, 24, 25, 26, 27, 28, 29, 30, 33, 34, 35, 38, 39, 40, 43, 44, 45, 46, 47, 48, 49, 52, 53, 54, 57, 58, 61, 64, 67, 70, 71, 72, 75, 76, 77, 78, 79, 82, 83, 86]
-- FacingDoors$TurnSearch.choose (III)V
def fd_c171 : List fd_Ins := [(2, [0, 0]), (1, [2, 0]), (1, [3, 0]), (120, [173, 3, 67, 0, 711]), (108, [6]), (116, []), (1, [1, 0]), (2, [0, 0]), (27, [9, 0, 2, 36, 0, 308]), (27, [3, 2, 0, 48, 1, 144]), (104, [20]), (1, [1, 0]), (0, [6, 1, 0]), (104, [20]), (2, [0, 0]), (1, [1, 0]), (1, [2, 0]), (1, [3, 0]), (120, [172, 4, 70, 0, 715]), (116, []), (2, [0, 0]), (0, [1, 0, 0]), (28, [9, 7, 3, 25, 0, 0, 316]), (2, [0, 0]), (1, [2, 0]), (28, [9, 8, 0, 29, 0, 0, 317]), (2, [0, 0]), (1, [3, 0]), (28, [9, 9, 0, 33, 0, 0, 319]), (2, [0, 0]), (27, [9, 5, 2, 19, 0, 313]), (0, [0, 0, 0]), (2, [0, 0]), (27, [9, 6, 2, 22, 0, 314]), (0, [0, 0, 0]), (0, [6, 1, 0]), (40, [73, 730]), (116, [])]
def fd_p171 : List Nat := [0, 1, 2, 3, 6, 9, 10, 11, 12, 15, 18, 21, 22, 24, 27, 28, 29, 30, 31, 34, 35, 36, 37, 40, 41, 42, 45, 46, 47, 50, 51, 54, 55, 56, 59, 60, 62, 65]
-- FacingDoors$TurnSearch.chooseEachWay (III)V
def fd_c172 : List fd_Ins := [(0, [0, 0, 0]), (3, [4, 1]), (1, [4, 1]), (0, [4, 0, 0]), (104, [44]), (2, [0, 0]), (27, [9, 4, 2, 15, 0, 312]), (1, [1, 0]), (0, [4, 0, 0]), (8, []), (1, [4, 1]), (6, []), (32, []), (107, [42]), (2, [0, 0]), (27, [9, 5, 2, 19, 0, 313]), (1, [1, 0]), (1, [4, 1]), (31, []), (2, [0, 0]), (1, [1, 0]), (0, [1, 0, 0]), (6, []), (1, [2, 0]), (2, [0, 0]), (1, [1, 0]), (120, [174, 2, 79, 0, 719]), (6, []), (1, [3, 0]), (1, [4, 1]), (2, [0, 0]), (27, [9, 1, 2, 40, 0, 309]), (27, [5, 2, 2, 83, 1, 236]), (1, [1, 0]), (30, []), (101, [38]), (0, [1, 0, 0]), (100, [39]), (0, [0, 0, 0]), (121, [43, 1, 88, 1, 729]), (6, []), (120, [171, 4, 63, 0, 707]), (5, [4, 1]), (100, [2]), (116, [])]
def fd_p172 : List Nat := [0, 1, 3, 5, 6, 9, 10, 13, 14, 15, 16, 18, 19, 20, 23, 24, 27, 28, 30, 31, 32, 33, 34, 35, 36, 37, 38, 41, 42, 43, 45, 46, 49, 52, 53, 54, 57, 58, 61, 62, 65, 66, 69, 72, 75]
-- FacingDoors$TurnSearch.isBetter (II)Z
def fd_c173 : List fd_Ins := [(2, [0, 0]), (27, [9, 7, 3, 25, 0, 316]), (107, [15]), (1, [1, 0]), (2, [0, 0]), (27, [9, 8, 0, 29, 0, 317]), (103, [15]), (1, [1, 0]), (2, [0, 0]), (27, [9, 8, 0, 29, 0, 317]), (102, [17]), (1, [2, 0]), (2, [0, 0]), (27, [9, 9, 0, 33, 0, 319]), (104, [17]), (0, [1, 0, 0]), (100, [18]), (0, [0, 0, 0]), (114, [])]
def fd_p173 : List Nat := [0, 1, 4, 7, 8, 9, 12, 15, 16, 17, 20, 23, 24, 25, 28, 31, 32, 35, 36]
-- FacingDoors$TurnSearch.dueThatComes (I)I
def fd_c174 : List fd_Ins := [(2, [0, 0]), (27, [9, 3, 2, 11, 0, 311]), (1, [1, 0]), (0, [4, 0, 0]), (8, []), (2, [0, 0]), (27, [9, 5, 2, 19, 0, 313]), (1, [1, 0]), (30, []), (6, []), (30, []), (3, [2, 0]), (1, [2, 0]), (0, [-1, 0, 0]), (102, [17]), (0, [0, 0, 0]), (114, []), (2, [0, 0]), (1, [1, 0]), (120, [175, 2, 92, 0, 723]), (3, [3, 0]), (1, [2, 0]), (1, [1, 0]), (104, [44]), (2, [0, 0]), (27, [9, 5, 2, 19, 0, 313]), (1, [2, 0]), (30, []), (2, [0, 0]), (27, [9, 5, 2, 19, 0, 313]), (1, [1, 0]), (30, []), (121, [48, 1, 95, 1, 728]), (102, [44]), (1, [3, 0]), (2, [0, 0]), (1, [1, 0]), (120, [175, 2, 92, 0, 723]), (2, [0, 0]), (1, [2, 0]), (120, [175, 2, 92, 0, 723]), (6, []), (6, []), (3, [3, 0]), (1, [3, 0]), (114, [])]
def fd_p174 : List Nat := [0, 1, 4, 5, 6, 7, 8, 11, 12, 13, 14, 15, 16, 17, 18, 21, 22, 23, 24, 25, 28, 29, 30, 31, 34, 35, 38, 39, 40, 41, 44, 45, 46, 49, 52, 53, 54, 55, 58, 59, 60, 63, 64, 65, 66, 67]
-- FacingDoors$TurnSearch.priceFor (I)I
def fd_c175 : List fd_Ins := [(2, [0, 0]), (27, [9, 1, 2, 40, 0, 309]), (1, [1, 0]), (120, [144, 2, 98, 1, 727]), (107, [13]), (2, [0, 0]), (27, [9, 1, 2, 40, 0, 309]), (27, [5, 7, 3, 102, 1, 251]), (108, [13]), (2, [0, 0]), (27, [9, 0, 2, 36, 0, 308]), (27, [3, 3, 0, 105, 1, 150]), (100, [14]), (0, [0, 0, 0]), (114, [])]
def fd_p175 : List Nat := [0, 1, 4, 5, 8, 11, 12, 15, 18, 21, 22, 25, 28, 31, 32]
-- java/lang/Integer.bitCount (I)I
def fd_c176 : List fd_Ins := [(1, [0, 0]), (1, [0, 0]), (0, [1, 0, 0]), (16, []), (0, [1431655765, 4, 265, 823]), (11, []), (7, []), (3, [0, 0]), (1, [0, 0]), (0, [858993459, 4, 266, 824]), (11, []), (1, [0, 0]), (0, [2, 0, 0]), (16, []), (0, [858993459, 4, 266, 824]), (11, []), (6, []), (3, [0, 0]), (1, [0, 0]), (1, [0, 0]), (0, [4, 0, 0]), (16, []), (6, []), (0, [252645135, 4, 267, 825]), (11, []), (3, [0, 0]), (1, [0, 0]), (1, [0, 0]), (0, [8, 1, 0]), (16, []), (6, []), (3, [0, 0]), (1, [0, 0]), (1, [0, 0]), (0, [16, 1, 0]), (16, []), (6, []), (3, [0, 0]), (1, [0, 0]), (0, [63, 1, 0]), (11, []), (114, [])]
def fd_p176 : List Nat := [0, 1, 2, 3, 4, 7, 8, 9, 10, 11, 14, 15, 16, 17, 18, 21, 22, 23, 24, 25, 26, 27, 28, 29, 32, 33, 34, 35, 36, 38, 39, 40, 41, 42, 43, 45, 46, 47, 48, 49, 51, 52]
def fd_code (m : Nat) : List fd_Ins := (bif Nat.ble 89 m then (bif Nat.ble 133 m then (bif Nat.ble 155 m then (bif Nat.ble 166 m then (bif Nat.ble 172 m then (bif Nat.ble 175 m then (bif Nat.ble 176 m then (bif Nat.ble 177 m then [] else fd_c176) else fd_c175) else (bif Nat.ble 173 m then (bif Nat.ble 174 m then fd_c174 else fd_c173) else fd_c172)) else (bif Nat.ble 169 m then (bif Nat.ble 170 m then (bif Nat.ble 171 m then fd_c171 else fd_c170) else fd_c169) else (bif Nat.ble 167 m then (bif Nat.ble 168 m then fd_c168 else fd_c167) else fd_c166))) else (bif Nat.ble 160 m then (bif Nat.ble 163 m then (bif Nat.ble 164 m then (bif Nat.ble 165 m then fd_c165 else fd_c164) else fd_c163) else (bif Nat.ble 161 m then (bif Nat.ble 162 m then fd_c162 else fd_c161) else fd_c160)) else (bif Nat.ble 157 m then (bif Nat.ble 158 m then (bif Nat.ble 159 m then fd_c159 else fd_c158) else fd_c157) else (bif Nat.ble 156 m then fd_c156 else fd_c155)))) else (bif Nat.ble 144 m then (bif Nat.ble 149 m then (bif Nat.ble 152 m then (bif Nat.ble 153 m then (bif Nat.ble 154 m then fd_c154 else fd_c153) else fd_c152) else (bif Nat.ble 150 m then (bif Nat.ble 151 m then fd_c151 else fd_c150) else fd_c149)) else (bif Nat.ble 146 m then (bif Nat.ble 147 m then (bif Nat.ble 148 m then fd_c148 else fd_c147) else fd_c146) else (bif Nat.ble 145 m then fd_c145 else fd_c144))) else (bif Nat.ble 138 m then (bif Nat.ble 141 m then (bif Nat.ble 142 m then (bif Nat.ble 143 m then fd_c143 else fd_c142) else fd_c141) else (bif Nat.ble 139 m then (bif Nat.ble 140 m then fd_c140 else fd_c139) else fd_c138)) else (bif Nat.ble 135 m then (bif Nat.ble 136 m then (bif Nat.ble 137 m then fd_c137 else fd_c136) else fd_c135) else (bif Nat.ble 134 m then fd_c134 else fd_c133))))) else (bif Nat.ble 111 m then (bif Nat.ble 122 m then (bif Nat.ble 127 m then (bif Nat.ble 130 m then (bif Nat.ble 131 m then (bif Nat.ble 132 m then fd_c132 else fd_c131) else fd_c130) else (bif Nat.ble 128 m then (bif Nat.ble 129 m then fd_c129 else fd_c128) else fd_c127)) else (bif Nat.ble 124 m then (bif Nat.ble 125 m then (bif Nat.ble 126 m then fd_c126 else fd_c125) else fd_c124) else (bif Nat.ble 123 m then fd_c123 else fd_c122))) else (bif Nat.ble 116 m then (bif Nat.ble 119 m then (bif Nat.ble 120 m then (bif Nat.ble 121 m then fd_c121 else fd_c120) else fd_c119) else (bif Nat.ble 117 m then (bif Nat.ble 118 m then fd_c118 else fd_c117) else fd_c116)) else (bif Nat.ble 113 m then (bif Nat.ble 114 m then (bif Nat.ble 115 m then fd_c115 else fd_c114) else fd_c113) else (bif Nat.ble 112 m then fd_c112 else fd_c111)))) else (bif Nat.ble 100 m then (bif Nat.ble 105 m then (bif Nat.ble 108 m then (bif Nat.ble 109 m then (bif Nat.ble 110 m then fd_c110 else fd_c109) else fd_c108) else (bif Nat.ble 106 m then (bif Nat.ble 107 m then fd_c107 else fd_c106) else fd_c105)) else (bif Nat.ble 102 m then (bif Nat.ble 103 m then (bif Nat.ble 104 m then fd_c104 else fd_c103) else fd_c102) else (bif Nat.ble 101 m then fd_c101 else fd_c100))) else (bif Nat.ble 94 m then (bif Nat.ble 97 m then (bif Nat.ble 98 m then (bif Nat.ble 99 m then fd_c99 else fd_c98) else fd_c97) else (bif Nat.ble 95 m then (bif Nat.ble 96 m then fd_c96 else fd_c95) else fd_c94)) else (bif Nat.ble 91 m then (bif Nat.ble 92 m then (bif Nat.ble 93 m then fd_c93 else fd_c92) else fd_c91) else (bif Nat.ble 90 m then fd_c90 else fd_c89)))))) else (bif Nat.ble 44 m then (bif Nat.ble 66 m then (bif Nat.ble 77 m then (bif Nat.ble 83 m then (bif Nat.ble 86 m then (bif Nat.ble 87 m then (bif Nat.ble 88 m then fd_c88 else fd_c87) else fd_c86) else (bif Nat.ble 84 m then (bif Nat.ble 85 m then fd_c85 else fd_c84) else fd_c83)) else (bif Nat.ble 80 m then (bif Nat.ble 81 m then (bif Nat.ble 82 m then fd_c82 else fd_c81) else fd_c80) else (bif Nat.ble 78 m then (bif Nat.ble 79 m then fd_c79 else fd_c78) else fd_c77))) else (bif Nat.ble 71 m then (bif Nat.ble 74 m then (bif Nat.ble 75 m then (bif Nat.ble 76 m then fd_c76 else fd_c75) else fd_c74) else (bif Nat.ble 72 m then (bif Nat.ble 73 m then fd_c73 else fd_c72) else fd_c71)) else (bif Nat.ble 68 m then (bif Nat.ble 69 m then (bif Nat.ble 70 m then fd_c70 else fd_c69) else fd_c68) else (bif Nat.ble 67 m then fd_c67 else fd_c66)))) else (bif Nat.ble 55 m then (bif Nat.ble 60 m then (bif Nat.ble 63 m then (bif Nat.ble 64 m then (bif Nat.ble 65 m then fd_c65 else fd_c64) else fd_c63) else (bif Nat.ble 61 m then (bif Nat.ble 62 m then fd_c62 else fd_c61) else fd_c60)) else (bif Nat.ble 57 m then (bif Nat.ble 58 m then (bif Nat.ble 59 m then fd_c59 else fd_c58) else fd_c57) else (bif Nat.ble 56 m then fd_c56 else fd_c55))) else (bif Nat.ble 49 m then (bif Nat.ble 52 m then (bif Nat.ble 53 m then (bif Nat.ble 54 m then fd_c54 else fd_c53) else fd_c52) else (bif Nat.ble 50 m then (bif Nat.ble 51 m then fd_c51 else fd_c50) else fd_c49)) else (bif Nat.ble 46 m then (bif Nat.ble 47 m then (bif Nat.ble 48 m then fd_c48 else fd_c47) else fd_c46) else (bif Nat.ble 45 m then fd_c45 else fd_c44))))) else (bif Nat.ble 22 m then (bif Nat.ble 33 m then (bif Nat.ble 38 m then (bif Nat.ble 41 m then (bif Nat.ble 42 m then (bif Nat.ble 43 m then fd_c43 else fd_c42) else fd_c41) else (bif Nat.ble 39 m then (bif Nat.ble 40 m then fd_c40 else fd_c39) else fd_c38)) else (bif Nat.ble 35 m then (bif Nat.ble 36 m then (bif Nat.ble 37 m then fd_c37 else fd_c36) else fd_c35) else (bif Nat.ble 34 m then fd_c34 else fd_c33))) else (bif Nat.ble 27 m then (bif Nat.ble 30 m then (bif Nat.ble 31 m then (bif Nat.ble 32 m then fd_c32 else fd_c31) else fd_c30) else (bif Nat.ble 28 m then (bif Nat.ble 29 m then fd_c29 else fd_c28) else fd_c27)) else (bif Nat.ble 24 m then (bif Nat.ble 25 m then (bif Nat.ble 26 m then fd_c26 else fd_c25) else fd_c24) else (bif Nat.ble 23 m then fd_c23 else fd_c22)))) else (bif Nat.ble 11 m then (bif Nat.ble 16 m then (bif Nat.ble 19 m then (bif Nat.ble 20 m then (bif Nat.ble 21 m then fd_c21 else fd_c20) else fd_c19) else (bif Nat.ble 17 m then (bif Nat.ble 18 m then fd_c18 else fd_c17) else fd_c16)) else (bif Nat.ble 13 m then (bif Nat.ble 14 m then (bif Nat.ble 15 m then fd_c15 else fd_c14) else fd_c13) else (bif Nat.ble 12 m then fd_c12 else fd_c11))) else (bif Nat.ble 5 m then (bif Nat.ble 8 m then (bif Nat.ble 9 m then (bif Nat.ble 10 m then fd_c10 else fd_c9) else fd_c8) else (bif Nat.ble 6 m then (bif Nat.ble 7 m then fd_c7 else fd_c6) else fd_c5)) else (bif Nat.ble 2 m then (bif Nat.ble 3 m then (bif Nat.ble 4 m then fd_c4 else fd_c3) else fd_c2) else (bif Nat.ble 1 m then fd_c1 else fd_c0)))))))
def fd_pcs (m : Nat) : List Nat := (bif Nat.ble 89 m then (bif Nat.ble 133 m then (bif Nat.ble 155 m then (bif Nat.ble 166 m then (bif Nat.ble 172 m then (bif Nat.ble 175 m then (bif Nat.ble 176 m then (bif Nat.ble 177 m then [] else fd_p176) else fd_p175) else (bif Nat.ble 173 m then (bif Nat.ble 174 m then fd_p174 else fd_p173) else fd_p172)) else (bif Nat.ble 169 m then (bif Nat.ble 170 m then (bif Nat.ble 171 m then fd_p171 else fd_p170) else fd_p169) else (bif Nat.ble 167 m then (bif Nat.ble 168 m then fd_p168 else fd_p167) else fd_p166))) else (bif Nat.ble 160 m then (bif Nat.ble 163 m then (bif Nat.ble 164 m then (bif Nat.ble 165 m then fd_p165 else fd_p164) else fd_p163) else (bif Nat.ble 161 m then (bif Nat.ble 162 m then fd_p162 else fd_p161) else fd_p160)) else (bif Nat.ble 157 m then (bif Nat.ble 158 m then (bif Nat.ble 159 m then fd_p159 else fd_p158) else fd_p157) else (bif Nat.ble 156 m then fd_p156 else fd_p155)))) else (bif Nat.ble 144 m then (bif Nat.ble 149 m then (bif Nat.ble 152 m then (bif Nat.ble 153 m then (bif Nat.ble 154 m then fd_p154 else fd_p153) else fd_p152) else (bif Nat.ble 150 m then (bif Nat.ble 151 m then fd_p151 else fd_p150) else fd_p149)) else (bif Nat.ble 146 m then (bif Nat.ble 147 m then (bif Nat.ble 148 m then fd_p148 else fd_p147) else fd_p146) else (bif Nat.ble 145 m then fd_p145 else fd_p144))) else (bif Nat.ble 138 m then (bif Nat.ble 141 m then (bif Nat.ble 142 m then (bif Nat.ble 143 m then fd_p143 else fd_p142) else fd_p141) else (bif Nat.ble 139 m then (bif Nat.ble 140 m then fd_p140 else fd_p139) else fd_p138)) else (bif Nat.ble 135 m then (bif Nat.ble 136 m then (bif Nat.ble 137 m then fd_p137 else fd_p136) else fd_p135) else (bif Nat.ble 134 m then fd_p134 else fd_p133))))) else (bif Nat.ble 111 m then (bif Nat.ble 122 m then (bif Nat.ble 127 m then (bif Nat.ble 130 m then (bif Nat.ble 131 m then (bif Nat.ble 132 m then fd_p132 else fd_p131) else fd_p130) else (bif Nat.ble 128 m then (bif Nat.ble 129 m then fd_p129 else fd_p128) else fd_p127)) else (bif Nat.ble 124 m then (bif Nat.ble 125 m then (bif Nat.ble 126 m then fd_p126 else fd_p125) else fd_p124) else (bif Nat.ble 123 m then fd_p123 else fd_p122))) else (bif Nat.ble 116 m then (bif Nat.ble 119 m then (bif Nat.ble 120 m then (bif Nat.ble 121 m then fd_p121 else fd_p120) else fd_p119) else (bif Nat.ble 117 m then (bif Nat.ble 118 m then fd_p118 else fd_p117) else fd_p116)) else (bif Nat.ble 113 m then (bif Nat.ble 114 m then (bif Nat.ble 115 m then fd_p115 else fd_p114) else fd_p113) else (bif Nat.ble 112 m then fd_p112 else fd_p111)))) else (bif Nat.ble 100 m then (bif Nat.ble 105 m then (bif Nat.ble 108 m then (bif Nat.ble 109 m then (bif Nat.ble 110 m then fd_p110 else fd_p109) else fd_p108) else (bif Nat.ble 106 m then (bif Nat.ble 107 m then fd_p107 else fd_p106) else fd_p105)) else (bif Nat.ble 102 m then (bif Nat.ble 103 m then (bif Nat.ble 104 m then fd_p104 else fd_p103) else fd_p102) else (bif Nat.ble 101 m then fd_p101 else fd_p100))) else (bif Nat.ble 94 m then (bif Nat.ble 97 m then (bif Nat.ble 98 m then (bif Nat.ble 99 m then fd_p99 else fd_p98) else fd_p97) else (bif Nat.ble 95 m then (bif Nat.ble 96 m then fd_p96 else fd_p95) else fd_p94)) else (bif Nat.ble 91 m then (bif Nat.ble 92 m then (bif Nat.ble 93 m then fd_p93 else fd_p92) else fd_p91) else (bif Nat.ble 90 m then fd_p90 else fd_p89)))))) else (bif Nat.ble 44 m then (bif Nat.ble 66 m then (bif Nat.ble 77 m then (bif Nat.ble 83 m then (bif Nat.ble 86 m then (bif Nat.ble 87 m then (bif Nat.ble 88 m then fd_p88 else fd_p87) else fd_p86) else (bif Nat.ble 84 m then (bif Nat.ble 85 m then fd_p85 else fd_p84) else fd_p83)) else (bif Nat.ble 80 m then (bif Nat.ble 81 m then (bif Nat.ble 82 m then fd_p82 else fd_p81) else fd_p80) else (bif Nat.ble 78 m then (bif Nat.ble 79 m then fd_p79 else fd_p78) else fd_p77))) else (bif Nat.ble 71 m then (bif Nat.ble 74 m then (bif Nat.ble 75 m then (bif Nat.ble 76 m then fd_p76 else fd_p75) else fd_p74) else (bif Nat.ble 72 m then (bif Nat.ble 73 m then fd_p73 else fd_p72) else fd_p71)) else (bif Nat.ble 68 m then (bif Nat.ble 69 m then (bif Nat.ble 70 m then fd_p70 else fd_p69) else fd_p68) else (bif Nat.ble 67 m then fd_p67 else fd_p66)))) else (bif Nat.ble 55 m then (bif Nat.ble 60 m then (bif Nat.ble 63 m then (bif Nat.ble 64 m then (bif Nat.ble 65 m then fd_p65 else fd_p64) else fd_p63) else (bif Nat.ble 61 m then (bif Nat.ble 62 m then fd_p62 else fd_p61) else fd_p60)) else (bif Nat.ble 57 m then (bif Nat.ble 58 m then (bif Nat.ble 59 m then fd_p59 else fd_p58) else fd_p57) else (bif Nat.ble 56 m then fd_p56 else fd_p55))) else (bif Nat.ble 49 m then (bif Nat.ble 52 m then (bif Nat.ble 53 m then (bif Nat.ble 54 m then fd_p54 else fd_p53) else fd_p52) else (bif Nat.ble 50 m then (bif Nat.ble 51 m then fd_p51 else fd_p50) else fd_p49)) else (bif Nat.ble 46 m then (bif Nat.ble 47 m then (bif Nat.ble 48 m then fd_p48 else fd_p47) else fd_p46) else (bif Nat.ble 45 m then fd_p45 else fd_p44))))) else (bif Nat.ble 22 m then (bif Nat.ble 33 m then (bif Nat.ble 38 m then (bif Nat.ble 41 m then (bif Nat.ble 42 m then (bif Nat.ble 43 m then fd_p43 else fd_p42) else fd_p41) else (bif Nat.ble 39 m then (bif Nat.ble 40 m then fd_p40 else fd_p39) else fd_p38)) else (bif Nat.ble 35 m then (bif Nat.ble 36 m then (bif Nat.ble 37 m then fd_p37 else fd_p36) else fd_p35) else (bif Nat.ble 34 m then fd_p34 else fd_p33))) else (bif Nat.ble 27 m then (bif Nat.ble 30 m then (bif Nat.ble 31 m then (bif Nat.ble 32 m then fd_p32 else fd_p31) else fd_p30) else (bif Nat.ble 28 m then (bif Nat.ble 29 m then fd_p29 else fd_p28) else fd_p27)) else (bif Nat.ble 24 m then (bif Nat.ble 25 m then (bif Nat.ble 26 m then fd_p26 else fd_p25) else fd_p24) else (bif Nat.ble 23 m then fd_p23 else fd_p22)))) else (bif Nat.ble 11 m then (bif Nat.ble 16 m then (bif Nat.ble 19 m then (bif Nat.ble 20 m then (bif Nat.ble 21 m then fd_p21 else fd_p20) else fd_p19) else (bif Nat.ble 17 m then (bif Nat.ble 18 m then fd_p18 else fd_p17) else fd_p16)) else (bif Nat.ble 13 m then (bif Nat.ble 14 m then (bif Nat.ble 15 m then fd_p15 else fd_p14) else fd_p13) else (bif Nat.ble 12 m then fd_p12 else fd_p11))) else (bif Nat.ble 5 m then (bif Nat.ble 8 m then (bif Nat.ble 9 m then (bif Nat.ble 10 m then fd_p10 else fd_p9) else fd_p8) else (bif Nat.ble 6 m then (bif Nat.ble 7 m then fd_p7 else fd_p6) else fd_p5)) else (bif Nat.ble 2 m then (bif Nat.ble 3 m then (bif Nat.ble 4 m then fd_p4 else fd_p3) else fd_p2) else (bif Nat.ble 1 m then fd_p1 else fd_p0)))))))
def fd_mL (m : Nat) : Nat := (bif Nat.ble 93 m then (bif Nat.ble 135 m then (bif Nat.ble 158 m then (bif Nat.ble 169 m then (bif Nat.ble 173 m then (bif Nat.ble 175 m then (bif Nat.ble 176 m then (bif Nat.ble 177 m then 0 else 1) else 2) else (bif Nat.ble 174 m then 4 else 3)) else (bif Nat.ble 171 m then (bif Nat.ble 172 m then 5 else 4) else (bif Nat.ble 170 m then 3 else 4))) else (bif Nat.ble 164 m then (bif Nat.ble 167 m then (bif Nat.ble 168 m then 5 else 3) else (bif Nat.ble 166 m then 1 else 2)) else (bif Nat.ble 161 m then (bif Nat.ble 163 m then 1 else 4) else (bif Nat.ble 159 m then 3 else 4)))) else (bif Nat.ble 147 m then (bif Nat.ble 153 m then (bif Nat.ble 156 m then (bif Nat.ble 157 m then 3 else 2) else (bif Nat.ble 154 m then 4 else 2)) else (bif Nat.ble 149 m then (bif Nat.ble 152 m then 7 else 3) else (bif Nat.ble 148 m then 4 else 5))) else (bif Nat.ble 140 m then (bif Nat.ble 143 m then (bif Nat.ble 145 m then 3 else 2) else (bif Nat.ble 142 m then 3 else 1)) else (bif Nat.ble 137 m then (bif Nat.ble 139 m then 3 else 1) else (bif Nat.ble 136 m then 3 else 1))))) else (bif Nat.ble 112 m then (bif Nat.ble 123 m then (bif Nat.ble 127 m then (bif Nat.ble 131 m then (bif Nat.ble 134 m then 3 else 1) else (bif Nat.ble 128 m then 2 else 3)) else (bif Nat.ble 125 m then (bif Nat.ble 126 m then 4 else 3) else (bif Nat.ble 124 m then 2 else 3))) else (bif Nat.ble 117 m then (bif Nat.ble 120 m then (bif Nat.ble 122 m then 2 else 1) else (bif Nat.ble 118 m then 3 else 1)) else (bif Nat.ble 115 m then (bif Nat.ble 116 m then 3 else 2) else (bif Nat.ble 114 m then 3 else 2)))) else (bif Nat.ble 102 m then (bif Nat.ble 107 m then (bif Nat.ble 110 m then (bif Nat.ble 111 m then 1 else 2) else (bif Nat.ble 108 m then 3 else 6)) else (bif Nat.ble 105 m then (bif Nat.ble 106 m then 3 else 4) else (bif Nat.ble 103 m then 7 else 8))) else (bif Nat.ble 98 m then (bif Nat.ble 100 m then (bif Nat.ble 101 m then 2 else 3) else (bif Nat.ble 99 m then 9 else 6)) else (bif Nat.ble 96 m then (bif Nat.ble 97 m then 7 else 3) else (bif Nat.ble 94 m then 5 else 3)))))) else (bif Nat.ble 50 m then (bif Nat.ble 72 m then (bif Nat.ble 82 m then (bif Nat.ble 87 m then (bif Nat.ble 89 m then (bif Nat.ble 91 m then (bif Nat.ble 92 m then 2 else 3) else 2) else (bif Nat.ble 88 m then 3 else 4)) else (bif Nat.ble 84 m then (bif Nat.ble 85 m then 3 else 5) else (bif Nat.ble 83 m then 4 else 1))) else (bif Nat.ble 78 m then (bif Nat.ble 80 m then (bif Nat.ble 81 m then 2 else 3) else (bif Nat.ble 79 m then 4 else 2)) else (bif Nat.ble 75 m then (bif Nat.ble 76 m then 3 else 6) else (bif Nat.ble 73 m then 1 else 2)))) else (bif Nat.ble 61 m then (bif Nat.ble 66 m then (bif Nat.ble 69 m then (bif Nat.ble 71 m then 3 else 4) else (bif Nat.ble 67 m then 3 else 2)) else (bif Nat.ble 63 m then (bif Nat.ble 65 m then 3 else 2) else (bif Nat.ble 62 m then 5 else 4))) else (bif Nat.ble 55 m then (bif Nat.ble 57 m then (bif Nat.ble 60 m then 1 else 3) else (bif Nat.ble 56 m then 2 else 1)) else (bif Nat.ble 52 m then (bif Nat.ble 53 m then 2 else 3) else (bif Nat.ble 51 m then 1 else 6))))) else (bif Nat.ble 21 m then (bif Nat.ble 36 m then (bif Nat.ble 45 m then (bif Nat.ble 48 m then (bif Nat.ble 49 m then 5 else 1) else (bif Nat.ble 46 m then 2 else 1)) else (bif Nat.ble 38 m then (bif Nat.ble 44 m then 2 else 1) else (bif Nat.ble 37 m then 5 else 4))) else (bif Nat.ble 27 m then (bif Nat.ble 34 m then (bif Nat.ble 35 m then 2 else 8) else (bif Nat.ble 28 m then 2 else 1)) else (bif Nat.ble 23 m then (bif Nat.ble 24 m then 2 else 3) else (bif Nat.ble 22 m then 4 else 8)))) else (bif Nat.ble 10 m then (bif Nat.ble 16 m then (bif Nat.ble 19 m then (bif Nat.ble 20 m then 7 else 2) else (bif Nat.ble 18 m then 3 else 6)) else (bif Nat.ble 13 m then (bif Nat.ble 14 m then 2 else 1) else (bif Nat.ble 12 m then 4 else 2))) else (bif Nat.ble 6 m then (bif Nat.ble 8 m then (bif Nat.ble 9 m then 5 else 3) else (bif Nat.ble 7 m then 5 else 4)) else (bif Nat.ble 4 m then (bif Nat.ble 5 m then 3 else 4) else (bif Nat.ble 3 m then 3 else 2)))))))
def fd_rk (m : Nat) : Nat := (bif Nat.ble 111 m then (bif Nat.ble 150 m then (bif Nat.ble 166 m then (bif Nat.ble 171 m then (bif Nat.ble 174 m then (bif Nat.ble 177 m then 0 else 1) else (bif Nat.ble 173 m then 2 else 0)) else (bif Nat.ble 169 m then (bif Nat.ble 170 m then 2 else 0) else (bif Nat.ble 168 m then 2 else 0))) else (bif Nat.ble 160 m then (bif Nat.ble 163 m then (bif Nat.ble 165 m then 1 else 0) else (bif Nat.ble 161 m then 2 else 1)) else (bif Nat.ble 152 m then (bif Nat.ble 159 m then 2 else 1) else 2))) else (bif Nat.ble 129 m then (bif Nat.ble 141 m then (bif Nat.ble 147 m then (bif Nat.ble 149 m then 0 else 1) else (bif Nat.ble 144 m then 2 else 0)) else (bif Nat.ble 135 m then (bif Nat.ble 136 m then 2 else 1) else (bif Nat.ble 131 m then 2 else 0))) else (bif Nat.ble 125 m then (bif Nat.ble 127 m then (bif Nat.ble 128 m then 1 else 0) else (bif Nat.ble 126 m then 2 else 1)) else (bif Nat.ble 112 m then (bif Nat.ble 123 m then 2 else 0) else 3)))) else (bif Nat.ble 59 m then (bif Nat.ble 72 m then (bif Nat.ble 81 m then (bif Nat.ble 93 m then (bif Nat.ble 94 m then 1 else 2) else (bif Nat.ble 82 m then 1 else 0)) else (bif Nat.ble 78 m then (bif Nat.ble 79 m then 1 else 2) else (bif Nat.ble 73 m then 1 else 0))) else (bif Nat.ble 62 m then (bif Nat.ble 66 m then (bif Nat.ble 69 m then 1 else 2) else (bif Nat.ble 65 m then 1 else 0)) else (bif Nat.ble 60 m then (bif Nat.ble 61 m then 2 else 1) else 2))) else (bif Nat.ble 43 m then (bif Nat.ble 52 m then (bif Nat.ble 56 m then (bif Nat.ble 57 m then 1 else 0) else (bif Nat.ble 53 m then 1 else 2)) else (bif Nat.ble 45 m then (bif Nat.ble 51 m then 0 else 1) else (bif Nat.ble 44 m then 2 else 1))) else (bif Nat.ble 28 m then (bif Nat.ble 36 m then (bif Nat.ble 38 m then 2 else 1) else (bif Nat.ble 34 m then 0 else 1)) else (bif Nat.ble 1 m then (bif Nat.ble 27 m then 3 else 1) else 0)))))
def fd_mc (m : Nat) : Nat := (bif Nat.ble 141 m then (bif Nat.ble 166 m then (bif Nat.ble 176 m then (bif Nat.ble 177 m then 60 else 50) else (bif Nat.ble 169 m then 9 else 8)) else (bif Nat.ble 149 m then (bif Nat.ble 163 m then 7 else 6) else 5)) else (bif Nat.ble 117 m then (bif Nat.ble 120 m then (bif Nat.ble 127 m then 4 else 3) else 2) else (bif Nat.ble 51 m then (bif Nat.ble 112 m then 1 else 10) else 0)))
def fd_mw : List (Nat × Nat × Nat × Nat) := [(111, 110, 0, 92), (423, 421, 422, 92), (431, 429, 430, 92), (435, 433, 434, 92), (531, 529, 530, 92), (546, 544, 545, 92), (612, 610, 611, 92), (632, 630, 631, 92), (639, 637, 638, 92), (646, 644, 645, 92), (657, 655, 656, 92), (666, 664, 665, 92), (670, 668, 669, 92), (675, 673, 674, 92), (683, 681, 682, 92), (700, 698, 699, 92), (734, 732, 733, 92), (742, 740, 741, 92), (754, 752, 753, 92), (765, 763, 764, 92), (769, 767, 768, 92), (783, 781, 782, 92), (805, 803, 804, 92), (809, 807, 808, 92), (849, 847, 848, 92), (865, 863, 864, 92), (873, 871, 872, 92), (877, 875, 876, 92), (814, 813, 54, 92), (818, 817, 55, 92), (829, 828, 56, 92), (834, 833, 57, 92), (839, 838, 58, 92), (844, 843, 59, 92), (738, 737, 46, 92), (773, 772, 50, 92), (790, 789, 52, 92), (795, 794, 53, 92), (615, 614, 0, 92), (642, 641, 0, 92), (786, 785, 0, 92), (757, 756, 0, 92), (852, 851, 0, 92), (560, 559, 0, 92), (557, 556, 0, 92), (527, 526, 0, 92), (488, 487, 0, 92), (488, 487, 0, 92), (592, 591, 0, 92), (798, 797, 0, 92), (801, 800, 0, 92), (882, 881, 0, 102), (972, 971, 0, 102), (969, 967, 968, 102), (976, 974, 975, 102), (988, 987, 66, 102), (984, 983, 65, 102), (996, 995, 68, 102), (1004, 1003, 70, 102), (992, 991, 67, 102), (1007, 1006, 0, 102), (1011, 1010, 71, 102), (1000, 999, 69, 102), (887, 886, 63, 102), (891, 890, 64, 102), (980, 978, 979, 102), (1035, 1034, 75, 102), (1019, 1018, 72, 102), (1027, 1026, 74, 102), (1023, 1022, 73, 102), (1015, 1013, 1014, 102), (1089, 1088, 0, 102), (1039, 1038, 76, 102), (1046, 1045, 0, 102), (1049, 1048, 0, 102), (1043, 1042, 77, 102), (1054, 1053, 78, 102), (1105, 1104, 85, 102), (1058, 1057, 79, 102), (1062, 1061, 80, 102), (1031, 1029, 1030, 102), (1070, 1069, 81, 102), (1101, 1100, 84, 102), (1066, 1064, 1065, 102), (1074, 1072, 1073, 102), (1078, 1076, 1077, 102), (1086, 1085, 82, 102), (1082, 1080, 1081, 102), (1097, 1096, 83, 102), (1093, 1091, 1092, 102), (1109, 1107, 1108, 102), (1113, 1111, 1112, 102), (1117, 1115, 1116, 102), (1137, 1136, 88, 102), (1121, 1119, 1120, 102), (1133, 1132, 87, 102), (1129, 1128, 86, 102), (1125, 1123, 1124, 102), (1141, 1139, 1140, 102), (1145, 1143, 1144, 102), (1149, 1147, 1148, 102), (1153, 1151, 1152, 102), (1157, 1155, 1156, 102), (1165, 1164, 89, 102), (1169, 1168, 90, 102), (1161, 1159, 1160, 102), (1173, 1171, 1172, 102), (1177, 1175, 1176, 102), (1187, 1185, 1186, 102), (1191, 1189, 1190, 102), (1195, 1193, 1194, 102), (1199, 1197, 1198, 102), (274, 273, 0, 97), (619, 618, 32, 97), (623, 622, 33, 97), (679, 678, 36, 97), (861, 860, 61, 97), (363, 362, 0, 101), (856, 855, 60, 101), (869, 868, 62, 101), (135, 134, 0, 94), (443, 442, 2, 94), (517, 516, 18, 94), (500, 499, 14, 94), (550, 549, 22, 94), (504, 503, 15, 94), (496, 495, 13, 94), (193, 192, 0, 95), (439, 438, 1, 95), (447, 446, 3, 95), (458, 457, 5, 95), (454, 453, 0, 95), (465, 464, 6, 95), (469, 468, 7, 95), (481, 480, 10, 95), (485, 484, 11, 95), (492, 491, 12, 95), (509, 508, 16, 95), (513, 512, 17, 95), (473, 472, 8, 95), (477, 476, 9, 95), (227, 226, 0, 96), (524, 523, 19, 96), (627, 626, 34, 96), (554, 553, 23, 96), (540, 539, 21, 96), (540, 539, 21, 96), (536, 535, 20, 96), (696, 695, 39, 96), (293, 292, 0, 98), (600, 599, 30, 98), (580, 579, 26, 98), (569, 568, 25, 98), (564, 563, 24, 98), (606, 605, 31, 98), (589, 588, 28, 98), (585, 584, 27, 98), (661, 660, 35, 98), (692, 691, 38, 98), (596, 595, 29, 98), (687, 686, 37, 98), (746, 745, 47, 98), (750, 749, 48, 98), (119, 118, 0, 93), (427, 426, 0, 93), (451, 450, 4, 93), (347, 346, 0, 100), (761, 760, 49, 100), (778, 777, 51, 100), (306, 305, 0, 99), (704, 703, 40, 99), (710, 709, 41, 99), (718, 717, 43, 99), (714, 713, 42, 99), (722, 721, 44, 99), (726, 725, 45, 99), (822, 821, 0, 106)]
def fd_sk (m : Nat) : Nat := (bif Nat.ble 121 m then (bif Nat.ble 150 m then (bif Nat.ble 167 m then (bif Nat.ble 170 m then (bif Nat.ble 176 m then (bif Nat.ble 177 m then 9 else 0) else 1) else (bif Nat.ble 169 m then 2 else 1)) else (bif Nat.ble 164 m then (bif Nat.ble 166 m then 2 else 1) else (bif Nat.ble 163 m then 2 else 1))) else (bif Nat.ble 132 m then (bif Nat.ble 142 m then (bif Nat.ble 149 m then 2 else 1) else (bif Nat.ble 141 m then 2 else 1)) else (bif Nat.ble 128 m then (bif Nat.ble 131 m then 0 else 1) else (bif Nat.ble 127 m then 2 else 1)))) else (bif Nat.ble 71 m then (bif Nat.ble 112 m then (bif Nat.ble 117 m then (bif Nat.ble 118 m then (bif Nat.ble 120 m then 2 else 1) else 2) else (bif Nat.ble 113 m then 1 else 2)) else (bif Nat.ble 73 m then (bif Nat.ble 75 m then 1 else 0) else (bif Nat.ble 72 m then 1 else 0))) else (bif Nat.ble 52 m then (bif Nat.ble 60 m then (bif Nat.ble 61 m then 1 else 0) else (bif Nat.ble 53 m then 1 else 0)) else (bif Nat.ble 38 m then (bif Nat.ble 51 m then 2 else 0) else (bif Nat.ble 1 m then 1 else 2)))))
def fd_m (m : Nat) : MethodName × ByteArray × Nat × Option FieldType := fd_ms.getD m (⟨"", "", ""⟩, ⟨#[]⟩, 0, none)
abbrev fd_y (m : Nat) : MethodName := (fd_m m).1
abbrev fd_b (m : Nat) : ByteArray := (fd_m m).2.1
abbrev fd_r (m : Nat) : Option FieldType := (fd_m m).2.2.2
end
section
def fd_n (as : List Int) (k : Nat) : Nat := (as.getD k 0).toNat
def fd_a (as : List Int) (k : Nat) : Int := as.getD k 0
/-! the tables against the code: what each row of fd_code says of the bytes and of the tables' words -/
def fd_wd (p : Nat) (w : Jvm.Cond) : Bool := decide (lw_tbl[p]? = some w)
def fd_f4 (k : Nat) : Fin 4 := Fin.ofNat 4 k
def fd_dc (b : ByteArray) (pc nx : Nat) (I : Instr) (len : Nat) : Bool := decide (decode b pc = .ok (I, len)) && decide (nx = pc + len)
def fd_kd (t : FieldType) : Nat := match t with
  | .int => 0
  | .long => 1
  | .boolean => 3
  | _ => 2
def fd_clD (ci : Nat) : vw_C := fd_cl.getD ci ("", fd_T0, 0)
def fd_fl (p : Nat) (own : String) (idx : Nat) (nest : Int) (C nm ds : String) : Bool :=
  if nest = 0 then fd_wd p (.fieldLink own idx C nm ds) else fd_wd p (.fieldLinkNest own idx C nm ds "FacingDoors")
/-- a field: its class, its place, its kind -/
def fd_okF (p : Nat) (own : String) (as : List Int) : Bool :=
  decide (fd_n as 0 < 11) && (decide (fd_n as 1 < (fd_clD (fd_n as 0)).2.2) && (decide (fd_kd (fd_ty (fd_n as 0) (fd_n as 1)) = fd_n as 2) &&
    fd_fl p own (fd_n as 3) (fd_a as 4) (fd_clD (fd_n as 0)).1 ((fd_clD (fd_n as 0)).2.1 (fd_n as 1)).2.1 ((fd_clD (fd_n as 0)).2.1 (fd_n as 1)).2.2.1))
def fd_jp (pcs : List Nat) (pc t : Nat) (off : Int) : Bool := decide (pcs[t]? = some ((pc : Int) + off).toNat ∧ 0 ≤ (pc : Int) + off)
def fd_icmp (op : Nat) : ClassFile.Cond := match op with
  | 0 => .eq | 1 => .ne | 2 => .lt | 3 => .ge | 4 => .gt | _ => .le
def fd_rtyp (rk : Nat) : Option FieldType := match rk with
  | 0 => none | 1 => some .int | 2 => some .boolean | _ => some .long
def fd_aty (k : Nat) : ArrayType := match k with
  | 20 => .int | 21 => .byte | _ => .boolean
def fd_fty (k : Nat) : FieldType := match k with
  | 20 => .int | 21 => .byte | _ => .boolean
def fd_acl (k : Nat) : String := match k with
  | 23 => "FacingDoors$Scene" | _ => "FacingDoors$Image"
/-- what is so of a method wherever it is called from -/
def fd_okM (m : Nat) : Bool :=
  (fd_wd (fd_mw.getD m (0, 0, 0, 0)).1 (.code (fd_y m) (fd_b m) (fd_mL m) (fd_r m)) && fd_wd (fd_mw.getD m (0, 0, 0, 0)).2.2.2 (.initialized (fd_y m).cls)) && ((match fd_sk m with
    | 0 => fd_wd (fd_mw.getD m (0, 0, 0, 0)).2.1 (.static (fd_y m))
    | 1 => fd_wd (fd_mw.getD m (0, 0, 0, 0)).2.1 (.instanceMethod (fd_y m)) && fd_wd (fd_mw.getD m (0, 0, 0, 0)).2.2.1 (.selects (fd_y m).cls (fd_y m) (fd_y m))
    | _ => fd_wd (fd_mw.getD m (0, 0, 0, 0)).2.1 (.instanceMethod (fd_y m))) && (decide ((fd_y m).cls ≠ "java/lang/invoke/MethodHandle" ∧ (fd_y m).cls ≠ "java/lang/invoke/VarHandle" ∧ plainName (fd_y m).cls = true ∧ fd_r m = fd_rtyp (fd_rk m)) && decide (fd_mL m ≤ 20)))
def fd_np (m : Nat) : Option Nat := (parseMethodDescriptor (fd_y m).desc).map (fun d => d.parameters.length)
def fd_lb : MethodName := ⟨"java/lang/Long", "bitCount", "(J)I"⟩
def fd_okI (own : String) (b : ByteArray) (ini : Bool) (pcs : List Nat) (pc nx op : Nat) (as : List Int) : Bool := match op with
  | 0 => match fd_n as 1 with
    | 0 => fd_dc b pc nx (.iconst (fd_a as 0)) 1
    | 1 => fd_dc b pc nx (.bipush (fd_a as 0)) 2 && decide ((Int8.ofInt (fd_a as 0)).toInt32 = Int32.ofInt (fd_a as 0))
    | 2 => fd_dc b pc nx (.sipush (fd_a as 0)) 3 && decide ((Int16.ofInt (fd_a as 0)).toInt32 = Int32.ofInt (fd_a as 0))
    | 3 => fd_dc b pc nx (.ldc (fd_n as 2)) 2 && fd_wd (fd_n as 3) (.constant own (fd_n as 2) (Int32.ofInt (fd_a as 0)))
    | _ => fd_dc b pc nx (.ldc_w (fd_n as 2)) 3 && fd_wd (fd_n as 3) (.constant own (fd_n as 2) (Int32.ofInt (fd_a as 0)))
  | 1 => if fd_a as 1 = 0 then decide (fd_n as 0 < 4) && fd_dc b pc nx (.iload_n (fd_f4 (fd_n as 0))) 1 else fd_dc b pc nx (.iload (fd_n as 0)) 2
  | 2 => if fd_a as 1 = 0 then decide (fd_n as 0 < 4) && fd_dc b pc nx (.aload_n (fd_f4 (fd_n as 0))) 1 else fd_dc b pc nx (.aload (fd_n as 0)) 2
  | 3 => if fd_a as 1 = 0 then decide (fd_n as 0 < 4) && fd_dc b pc nx (.istore_n (fd_f4 (fd_n as 0))) 1 else fd_dc b pc nx (.istore (fd_n as 0)) 2
  | 4 => if fd_a as 1 = 0 then decide (fd_n as 0 < 4) && fd_dc b pc nx (.astore_n (fd_f4 (fd_n as 0))) 1 else fd_dc b pc nx (.astore (fd_n as 0)) 2
  | 5 => fd_dc b pc nx (.iinc (fd_n as 0) (fd_a as 1)) 3
  | 6 => fd_dc b pc nx .iadd 1
  | 7 => fd_dc b pc nx .isub 1
  | 8 => fd_dc b pc nx .imul 1
  | 9 => fd_dc b pc nx .idiv 1
  | 10 => fd_dc b pc nx .irem 1
  | 11 => fd_dc b pc nx .iand 1
  | 12 => fd_dc b pc nx .ior 1
  | 13 => fd_dc b pc nx .ixor 1
  | 14 => fd_dc b pc nx .ishl 1
  | 15 => fd_dc b pc nx .ishr 1
  | 16 => fd_dc b pc nx .iushr 1
  | 17 => if fd_a as 1 = 0 then (if fd_a as 0 = 0 then fd_dc b pc nx (.lconst 0) 1 else decide (fd_a as 0 = 1) && fd_dc b pc nx (.lconst 1) 1) else fd_dc b pc nx (.ldc2_w (fd_n as 2)) 3 && fd_wd (fd_n as 3) (.constantLong own (fd_n as 2) (Int64.ofInt (fd_a as 0)))
  | 18 => fd_dc b pc nx .ladd 1
  | 19 => fd_dc b pc nx .lxor 1
  | 20 => fd_dc b pc nx .land 1
  | 21 => fd_dc b pc nx .lshl 1
  | 22 => fd_dc b pc nx .lcmp 1
  | 23 => fd_dc b pc nx .i2b 1
  | 24 => fd_dc b pc nx .dup 1
  | 25 => fd_dc b pc nx .dup2 1
  | 26 => fd_dc b pc nx .pop 1
  | 27 => fd_dc b pc nx (.getfield (fd_n as 3)) 3 && fd_okF (fd_n as 5) own as
  | 28 => fd_dc b pc nx (.putfield (fd_n as 3)) 3 && (fd_okF (fd_n as 6) own as && (if ((fd_clD (fd_n as 0)).2.1 (fd_n as 1)).2.2.2 = true then ini && (decide (((fd_clD (fd_n as 0)).2.1 (fd_n as 1)).1 = own) && decide (fd_a as 4 = 0)) else true))
  | 29 => fd_dc b pc nx (.getstatic (fd_n as 1)) 3 && ((decide (fd_n as 0 = 1001) && fd_fl (fd_n as 3) own (fd_n as 1) (fd_a as 2) "FacingDoors" "STEP_X" "[I") || (decide (fd_n as 0 = 1002) && fd_fl (fd_n as 3) own (fd_n as 1) (fd_a as 2) "FacingDoors" "STEP_Y" "[I"))
  | 30 => fd_dc b pc nx .iaload 1
  | 31 => fd_dc b pc nx .iastore 1
  | 32 => fd_dc b pc nx .baload 1
  | 33 => fd_dc b pc nx .bastore 1
  | 34 => fd_dc b pc nx .aaload 1
  | 35 => fd_dc b pc nx .aastore 1
  | 36 => fd_dc b pc nx .arraylength 1
  | 37 => fd_dc b pc nx (.new (fd_n as 1)) 3 && (decide (fd_n as 0 < 11) && fd_wd (fd_n as 2) (.classLink own (fd_n as 1) (fd_clD (fd_n as 0)).1))
  | 38 => fd_dc b pc nx (.newarray (fd_aty (fd_n as 0))) 2 && (decide (20 ≤ fd_n as 0 ∧ fd_n as 0 ≤ 22))
  | 39 => fd_dc b pc nx (.anewarray (fd_n as 1)) 3 && (decide (23 ≤ fd_n as 0 ∧ fd_n as 0 ≤ 24) && fd_wd (fd_n as 2) (.classLink own (fd_n as 1) (fd_acl (fd_n as 0))))
  | 40 => fd_dc b pc nx (.invokestatic (fd_n as 0)) 3 && fd_wd (fd_n as 1) (.methodLink own (fd_n as 0) arraycopyName)
  | 41 => fd_dc b pc nx (.invokestatic (fd_n as 0)) 3 && fd_wd (fd_n as 1) (.methodLink own (fd_n as 0) fd_lb)
  | 42 => fd_dc b pc nx (.invokespecial (fd_n as 0)) 3 && fd_wd (fd_n as 1) (.methodLink own (fd_n as 0) objectInit)
  | 43 => fd_dc b pc nx .iaload 1
  | 44 => fd_dc b pc nx (.invokestatic (fd_n as 0)) 3 && fd_wd (fd_n as 1) (.methodLink own (fd_n as 0) Lib.Math.min.name)
  | 45 => fd_dc b pc nx .lshr 1
  | 100 => match decode b pc with
    | .ok (.goto off, 3) => fd_jp pcs pc (fd_n as 0) off
    | _ => false
  | 113 => match decode b pc with
    | .ok (.tableswitch d lo hi offs, _) => fd_jp pcs pc (fd_n as 0) d && (decide (fd_a as 1 = lo ∧ hi = lo + ((as.length : Int) - 2) - 1 ∧ offs.toList.length + 2 = as.length ∧ 3 ≤ as.length) && (List.range (as.length - 2)).all fun j => fd_jp pcs pc (fd_n as (2 + j)) (offs.toList.getD j 0))
    | _ => false
  | 118 => match decode b pc with
    | .ok (.lookupswitch d ps, _) => fd_jp pcs pc (fd_n as 0) d && ((ps.toList.zip (ps.toList.drop 1)).all (fun (a, next) => a.1 < next.1) && (decide (as.length = 1 + 2 * ps.toList.length) && (List.range ps.toList.length).all fun j => decide (fd_a as (1 + 2 * j) = (ps.toList.getD j (0, 0)).1 ∧ 0 ≤ fd_a as (2 + 2 * j)) && fd_jp pcs pc (fd_n as (2 + 2 * j)) (ps.toList.getD j (0, 0)).2))
    | _ => false
  | 114 => decide (decode b pc = .ok (.ireturn, 1))
  | 115 => decide (decode b pc = .ok (.lreturn, 1))
  | 116 => decide (decode b pc = .ok (.return_, 1))
  | 120 => fd_dc b pc nx (.invokevirtual (fd_n as 2)) 3 && (decide (fd_n as 0 < 177 ∧ fd_mc (fd_n as 0) < 11 ∧ (fd_clD (fd_mc (fd_n as 0))).1 = (fd_y (fd_n as 0)).cls ∧ fd_np (fd_n as 0) = some (fd_n as 1 - 1) ∧ 1 ≤ fd_n as 1 ∧ fd_n as 1 ≤ fd_mL (fd_n as 0)) && (decide (fd_sk (fd_n as 0) = 1) && (if fd_a as 3 = 0 then fd_wd (fd_n as 4) (.methodLink own (fd_n as 2) (fd_y (fd_n as 0))) else fd_wd (fd_n as 4) (.methodLinkNest own (fd_n as 2) (fd_y (fd_n as 0)) "FacingDoors"))))
  | 121 => fd_dc b pc nx (.invokestatic (fd_n as 2)) 3 && (decide (fd_n as 0 < 177 ∧ fd_np (fd_n as 0) = some (fd_n as 1) ∧ fd_n as 1 ≤ fd_mL (fd_n as 0)) && (decide (fd_sk (fd_n as 0) = 0) && (if fd_a as 3 = 0 then fd_wd (fd_n as 4) (.methodLink own (fd_n as 2) (fd_y (fd_n as 0))) else fd_wd (fd_n as 4) (.methodLinkNest own (fd_n as 2) (fd_y (fd_n as 0)) "FacingDoors"))))
  | 122 => fd_dc b pc nx (.invokespecial (fd_n as 2)) 3 && (decide (fd_n as 0 < 177 ∧ fd_np (fd_n as 0) = some (fd_n as 1 - 1) ∧ 1 ≤ fd_n as 1 ∧ fd_n as 1 ≤ fd_mL (fd_n as 0) ∧ (fd_y (fd_n as 0)).name = "<init>" ∧ fd_r (fd_n as 0) = none) && (decide (fd_sk (fd_n as 0) = 2) && (if fd_a as 3 = 0 then fd_wd (fd_n as 4) (.methodLink own (fd_n as 2) (fd_y (fd_n as 0))) else fd_wd (fd_n as 4) (.methodLinkNest own (fd_n as 2) (fd_y (fd_n as 0)) "FacingDoors"))))
  | op => if 101 ≤ op ∧ op ≤ 106 then (match decode b pc with
      | .ok (.if_icmp cd off, 3) => decide (cd = fd_icmp (op - 101) ∧ nx = pc + 3) && fd_jp pcs pc (fd_n as 0) off
      | _ => false)
    else if 107 ≤ op ∧ op ≤ 112 then (match decode b pc with
      | .ok (.ifCond cd off, 3) => decide (cd = fd_icmp (op - 107) ∧ nx = pc + 3) && fd_jp pcs pc (fd_n as 0) off
      | _ => false)
    else false
/-- a method's rows from place i on: the pcs are those of fd_pcs; behind the last one nothing comes -/
def fd_okL (own : String) (b : ByteArray) (ini : Bool) (pcs : List Nat) : List fd_Ins → List Nat → Bool
  | [], [] => true
  | (op, as) :: r, pc :: q => fd_okI own b ini pcs pc (q.headD 0) op as && fd_okL own b ini pcs r q
  | _, _ => false
def fd_ini (m : Nat) : Bool := decide ((fd_y m).name = "<init>")
def fd_okC (m : Nat) : Bool := fd_okM m && fd_okL (fd_y m).cls (fd_b m) (fd_ini m) (fd_pcs m) (fd_code m) (fd_pcs m)
end
section
theorem fd_ok_0 : (List.range 3).all (fun j => fd_okC (0 + j)) = true := by decide +kernel
theorem fd_ok_1 : (List.range 3).all (fun j => fd_okC (3 + j)) = true := by decide +kernel
theorem fd_ok_2 : (List.range 3).all (fun j => fd_okC (6 + j)) = true := by decide +kernel
theorem fd_ok_3 : (List.range 3).all (fun j => fd_okC (9 + j)) = true := by decide +kernel
theorem fd_ok_4 : (List.range 3).all (fun j => fd_okC (12 + j)) = true := by decide +kernel
theorem fd_ok_5 : (List.range 3).all (fun j => fd_okC (15 + j)) = true := by decide +kernel
theorem fd_ok_6 : (List.range 3).all (fun j => fd_okC (18 + j)) = true := by decide +kernel
end
section
theorem fd_ok_7 : (List.range 3).all (fun j => fd_okC (21 + j)) = true := by decide +kernel
theorem fd_ok_8 : (List.range 3).all (fun j => fd_okC (24 + j)) = true := by decide +kernel
theorem fd_ok_9 : (List.range 3).all (fun j => fd_okC (27 + j)) = true := by decide +kernel
theorem fd_ok_10 : (List.range 3).all (fun j => fd_okC (30 + j)) = true := by decide +kernel
theorem fd_ok_11 : (List.range 3).all (fun j => fd_okC (33 + j)) = true := by decide +kernel
theorem fd_ok_12 : (List.range 3).all (fun j => fd_okC (36 + j)) = true := by decide +kernel
theorem fd_ok_13 : (List.range 3).all (fun j => fd_okC (39 + j)) = true := by decide +kernel
theorem fd_ok_14 : (List.range 3).all (fun j => fd_okC (42 + j)) = true := by decide +kernel
theorem fd_ok_15 : (List.range 3).all (fun j => fd_okC (45 + j)) = true := by decide +kernel
theorem fd_ok_16 : (List.range 3).all (fun j => fd_okC (48 + j)) = true := by decide +kernel
theorem fd_ok_17 : (List.range 3).all (fun j => fd_okC (51 + j)) = true := by decide +kernel
theorem fd_ok_18 : (List.range 3).all (fun j => fd_okC (54 + j)) = true := by decide +kernel
theorem fd_ok_19 : (List.range 3).all (fun j => fd_okC (57 + j)) = true := by decide +kernel
end
section
theorem fd_ok_20 : (List.range 3).all (fun j => fd_okC (60 + j)) = true := by decide +kernel
theorem fd_ok_21 : (List.range 3).all (fun j => fd_okC (63 + j)) = true := by decide +kernel
theorem fd_ok_22 : (List.range 3).all (fun j => fd_okC (66 + j)) = true := by decide +kernel
theorem fd_ok_23 : (List.range 3).all (fun j => fd_okC (69 + j)) = true := by decide +kernel
theorem fd_ok_24 : (List.range 3).all (fun j => fd_okC (72 + j)) = true := by decide +kernel
theorem fd_ok_25 : (List.range 3).all (fun j => fd_okC (75 + j)) = true := by decide +kernel
theorem fd_ok_26 : (List.range 3).all (fun j => fd_okC (78 + j)) = true := by decide +kernel
end
section
theorem fd_ok_27 : (List.range 3).all (fun j => fd_okC (81 + j)) = true := by decide +kernel
theorem fd_ok_28 : (List.range 3).all (fun j => fd_okC (84 + j)) = true := by decide +kernel
theorem fd_ok_29 : (List.range 3).all (fun j => fd_okC (87 + j)) = true := by decide +kernel
theorem fd_ok_30 : (List.range 3).all (fun j => fd_okC (90 + j)) = true := by decide +kernel
theorem fd_ok_31 : (List.range 3).all (fun j => fd_okC (93 + j)) = true := by decide +kernel
theorem fd_ok_32 : (List.range 3).all (fun j => fd_okC (96 + j)) = true := by decide +kernel
theorem fd_ok_33 : (List.range 3).all (fun j => fd_okC (99 + j)) = true := by decide +kernel
end
section
theorem fd_ok_34 : (List.range 3).all (fun j => fd_okC (102 + j)) = true := by decide +kernel
theorem fd_ok_35 : (List.range 3).all (fun j => fd_okC (105 + j)) = true := by decide +kernel
theorem fd_ok_36 : (List.range 3).all (fun j => fd_okC (108 + j)) = true := by decide +kernel
theorem fd_ok_37 : (List.range 3).all (fun j => fd_okC (111 + j)) = true := by decide +kernel
theorem fd_ok_38 : (List.range 3).all (fun j => fd_okC (114 + j)) = true := by decide +kernel
theorem fd_ok_39 : (List.range 3).all (fun j => fd_okC (117 + j)) = true := by decide +kernel
theorem fd_ok_40 : (List.range 3).all (fun j => fd_okC (120 + j)) = true := by decide +kernel
theorem fd_ok_41 : (List.range 3).all (fun j => fd_okC (123 + j)) = true := by decide +kernel
theorem fd_ok_42 : (List.range 3).all (fun j => fd_okC (126 + j)) = true := by decide +kernel
end
section
theorem fd_ok_43 : (List.range 3).all (fun j => fd_okC (129 + j)) = true := by decide +kernel
theorem fd_ok_44 : (List.range 3).all (fun j => fd_okC (132 + j)) = true := by decide +kernel
theorem fd_ok_45 : (List.range 3).all (fun j => fd_okC (135 + j)) = true := by decide +kernel
theorem fd_ok_46 : (List.range 3).all (fun j => fd_okC (138 + j)) = true := by decide +kernel
theorem fd_ok_47 : (List.range 3).all (fun j => fd_okC (141 + j)) = true := by decide +kernel
theorem fd_ok_48 : (List.range 3).all (fun j => fd_okC (144 + j)) = true := by decide +kernel
theorem fd_ok_49 : (List.range 3).all (fun j => fd_okC (147 + j)) = true := by decide +kernel
theorem fd_ok_50 : (List.range 3).all (fun j => fd_okC (150 + j)) = true := by decide +kernel
theorem fd_ok_51 : (List.range 3).all (fun j => fd_okC (153 + j)) = true := by decide +kernel
theorem fd_ok_52 : (List.range 3).all (fun j => fd_okC (156 + j)) = true := by decide +kernel
end
section
theorem fd_ok_53 : (List.range 3).all (fun j => fd_okC (159 + j)) = true := by decide +kernel
theorem fd_ok_54 : (List.range 3).all (fun j => fd_okC (162 + j)) = true := by decide +kernel
theorem fd_ok_55 : (List.range 3).all (fun j => fd_okC (165 + j)) = true := by decide +kernel
theorem fd_ok_56 : (List.range 3).all (fun j => fd_okC (168 + j)) = true := by decide +kernel
theorem fd_ok_57 : (List.range 3).all (fun j => fd_okC (171 + j)) = true := by decide +kernel
theorem fd_ok_58 : (List.range 3).all (fun j => fd_okC (174 + j)) = true := by decide +kernel
end
section
theorem fd_okAll (m : Nat) (h : m < 177) : fd_okC m = true := by
  rcases Nat.lt_or_ge m 3 with h0 | h0
  · have q := List.all_eq_true.mp fd_ok_0 (m - 0) (List.mem_range.mpr (by omega))
    rwa [show 0 + (m - 0) = m by omega] at q
  rcases Nat.lt_or_ge m 6 with h3 | h3
  · have q := List.all_eq_true.mp fd_ok_1 (m - 3) (List.mem_range.mpr (by omega))
    rwa [show 3 + (m - 3) = m by omega] at q
  rcases Nat.lt_or_ge m 9 with h6 | h6
  · have q := List.all_eq_true.mp fd_ok_2 (m - 6) (List.mem_range.mpr (by omega))
    rwa [show 6 + (m - 6) = m by omega] at q
  rcases Nat.lt_or_ge m 12 with h9 | h9
  · have q := List.all_eq_true.mp fd_ok_3 (m - 9) (List.mem_range.mpr (by omega))
    rwa [show 9 + (m - 9) = m by omega] at q
  rcases Nat.lt_or_ge m 15 with h12 | h12
  · have q := List.all_eq_true.mp fd_ok_4 (m - 12) (List.mem_range.mpr (by omega))
    rwa [show 12 + (m - 12) = m by omega] at q
  rcases Nat.lt_or_ge m 18 with h15 | h15
  · have q := List.all_eq_true.mp fd_ok_5 (m - 15) (List.mem_range.mpr (by omega))
    rwa [show 15 + (m - 15) = m by omega] at q
  rcases Nat.lt_or_ge m 21 with h18 | h18
  · have q := List.all_eq_true.mp fd_ok_6 (m - 18) (List.mem_range.mpr (by omega))
    rwa [show 18 + (m - 18) = m by omega] at q
  rcases Nat.lt_or_ge m 24 with h21 | h21
  · have q := List.all_eq_true.mp fd_ok_7 (m - 21) (List.mem_range.mpr (by omega))
    rwa [show 21 + (m - 21) = m by omega] at q
  rcases Nat.lt_or_ge m 27 with h24 | h24
  · have q := List.all_eq_true.mp fd_ok_8 (m - 24) (List.mem_range.mpr (by omega))
    rwa [show 24 + (m - 24) = m by omega] at q
  rcases Nat.lt_or_ge m 30 with h27 | h27
  · have q := List.all_eq_true.mp fd_ok_9 (m - 27) (List.mem_range.mpr (by omega))
    rwa [show 27 + (m - 27) = m by omega] at q
  rcases Nat.lt_or_ge m 33 with h30 | h30
  · have q := List.all_eq_true.mp fd_ok_10 (m - 30) (List.mem_range.mpr (by omega))
    rwa [show 30 + (m - 30) = m by omega] at q
  rcases Nat.lt_or_ge m 36 with h33 | h33
  · have q := List.all_eq_true.mp fd_ok_11 (m - 33) (List.mem_range.mpr (by omega))
    rwa [show 33 + (m - 33) = m by omega] at q
  rcases Nat.lt_or_ge m 39 with h36 | h36
  · have q := List.all_eq_true.mp fd_ok_12 (m - 36) (List.mem_range.mpr (by omega))
    rwa [show 36 + (m - 36) = m by omega] at q
  rcases Nat.lt_or_ge m 42 with h39 | h39
  · have q := List.all_eq_true.mp fd_ok_13 (m - 39) (List.mem_range.mpr (by omega))
    rwa [show 39 + (m - 39) = m by omega] at q
  rcases Nat.lt_or_ge m 45 with h42 | h42
  · have q := List.all_eq_true.mp fd_ok_14 (m - 42) (List.mem_range.mpr (by omega))
    rwa [show 42 + (m - 42) = m by omega] at q
  rcases Nat.lt_or_ge m 48 with h45 | h45
  · have q := List.all_eq_true.mp fd_ok_15 (m - 45) (List.mem_range.mpr (by omega))
    rwa [show 45 + (m - 45) = m by omega] at q
  rcases Nat.lt_or_ge m 51 with h48 | h48
  · have q := List.all_eq_true.mp fd_ok_16 (m - 48) (List.mem_range.mpr (by omega))
    rwa [show 48 + (m - 48) = m by omega] at q
  rcases Nat.lt_or_ge m 54 with h51 | h51
  · have q := List.all_eq_true.mp fd_ok_17 (m - 51) (List.mem_range.mpr (by omega))
    rwa [show 51 + (m - 51) = m by omega] at q
  rcases Nat.lt_or_ge m 57 with h54 | h54
  · have q := List.all_eq_true.mp fd_ok_18 (m - 54) (List.mem_range.mpr (by omega))
    rwa [show 54 + (m - 54) = m by omega] at q
  rcases Nat.lt_or_ge m 60 with h57 | h57
  · have q := List.all_eq_true.mp fd_ok_19 (m - 57) (List.mem_range.mpr (by omega))
    rwa [show 57 + (m - 57) = m by omega] at q
  rcases Nat.lt_or_ge m 63 with h60 | h60
  · have q := List.all_eq_true.mp fd_ok_20 (m - 60) (List.mem_range.mpr (by omega))
    rwa [show 60 + (m - 60) = m by omega] at q
  rcases Nat.lt_or_ge m 66 with h63 | h63
  · have q := List.all_eq_true.mp fd_ok_21 (m - 63) (List.mem_range.mpr (by omega))
    rwa [show 63 + (m - 63) = m by omega] at q
  rcases Nat.lt_or_ge m 69 with h66 | h66
  · have q := List.all_eq_true.mp fd_ok_22 (m - 66) (List.mem_range.mpr (by omega))
    rwa [show 66 + (m - 66) = m by omega] at q
  rcases Nat.lt_or_ge m 72 with h69 | h69
  · have q := List.all_eq_true.mp fd_ok_23 (m - 69) (List.mem_range.mpr (by omega))
    rwa [show 69 + (m - 69) = m by omega] at q
  rcases Nat.lt_or_ge m 75 with h72 | h72
  · have q := List.all_eq_true.mp fd_ok_24 (m - 72) (List.mem_range.mpr (by omega))
    rwa [show 72 + (m - 72) = m by omega] at q
  rcases Nat.lt_or_ge m 78 with h75 | h75
  · have q := List.all_eq_true.mp fd_ok_25 (m - 75) (List.mem_range.mpr (by omega))
    rwa [show 75 + (m - 75) = m by omega] at q
  rcases Nat.lt_or_ge m 81 with h78 | h78
  · have q := List.all_eq_true.mp fd_ok_26 (m - 78) (List.mem_range.mpr (by omega))
    rwa [show 78 + (m - 78) = m by omega] at q
  rcases Nat.lt_or_ge m 84 with h81 | h81
  · have q := List.all_eq_true.mp fd_ok_27 (m - 81) (List.mem_range.mpr (by omega))
    rwa [show 81 + (m - 81) = m by omega] at q
  rcases Nat.lt_or_ge m 87 with h84 | h84
  · have q := List.all_eq_true.mp fd_ok_28 (m - 84) (List.mem_range.mpr (by omega))
    rwa [show 84 + (m - 84) = m by omega] at q
  rcases Nat.lt_or_ge m 90 with h87 | h87
  · have q := List.all_eq_true.mp fd_ok_29 (m - 87) (List.mem_range.mpr (by omega))
    rwa [show 87 + (m - 87) = m by omega] at q
  rcases Nat.lt_or_ge m 93 with h90 | h90
  · have q := List.all_eq_true.mp fd_ok_30 (m - 90) (List.mem_range.mpr (by omega))
    rwa [show 90 + (m - 90) = m by omega] at q
  rcases Nat.lt_or_ge m 96 with h93 | h93
  · have q := List.all_eq_true.mp fd_ok_31 (m - 93) (List.mem_range.mpr (by omega))
    rwa [show 93 + (m - 93) = m by omega] at q
  rcases Nat.lt_or_ge m 99 with h96 | h96
  · have q := List.all_eq_true.mp fd_ok_32 (m - 96) (List.mem_range.mpr (by omega))
    rwa [show 96 + (m - 96) = m by omega] at q
  rcases Nat.lt_or_ge m 102 with h99 | h99
  · have q := List.all_eq_true.mp fd_ok_33 (m - 99) (List.mem_range.mpr (by omega))
    rwa [show 99 + (m - 99) = m by omega] at q
  rcases Nat.lt_or_ge m 105 with h102 | h102
  · have q := List.all_eq_true.mp fd_ok_34 (m - 102) (List.mem_range.mpr (by omega))
    rwa [show 102 + (m - 102) = m by omega] at q
  rcases Nat.lt_or_ge m 108 with h105 | h105
  · have q := List.all_eq_true.mp fd_ok_35 (m - 105) (List.mem_range.mpr (by omega))
    rwa [show 105 + (m - 105) = m by omega] at q
  rcases Nat.lt_or_ge m 111 with h108 | h108
  · have q := List.all_eq_true.mp fd_ok_36 (m - 108) (List.mem_range.mpr (by omega))
    rwa [show 108 + (m - 108) = m by omega] at q
  rcases Nat.lt_or_ge m 114 with h111 | h111
  · have q := List.all_eq_true.mp fd_ok_37 (m - 111) (List.mem_range.mpr (by omega))
    rwa [show 111 + (m - 111) = m by omega] at q
  rcases Nat.lt_or_ge m 117 with h114 | h114
  · have q := List.all_eq_true.mp fd_ok_38 (m - 114) (List.mem_range.mpr (by omega))
    rwa [show 114 + (m - 114) = m by omega] at q
  rcases Nat.lt_or_ge m 120 with h117 | h117
  · have q := List.all_eq_true.mp fd_ok_39 (m - 117) (List.mem_range.mpr (by omega))
    rwa [show 117 + (m - 117) = m by omega] at q
  rcases Nat.lt_or_ge m 123 with h120 | h120
  · have q := List.all_eq_true.mp fd_ok_40 (m - 120) (List.mem_range.mpr (by omega))
    rwa [show 120 + (m - 120) = m by omega] at q
  rcases Nat.lt_or_ge m 126 with h123 | h123
  · have q := List.all_eq_true.mp fd_ok_41 (m - 123) (List.mem_range.mpr (by omega))
    rwa [show 123 + (m - 123) = m by omega] at q
  rcases Nat.lt_or_ge m 129 with h126 | h126
  · have q := List.all_eq_true.mp fd_ok_42 (m - 126) (List.mem_range.mpr (by omega))
    rwa [show 126 + (m - 126) = m by omega] at q
  rcases Nat.lt_or_ge m 132 with h129 | h129
  · have q := List.all_eq_true.mp fd_ok_43 (m - 129) (List.mem_range.mpr (by omega))
    rwa [show 129 + (m - 129) = m by omega] at q
  rcases Nat.lt_or_ge m 135 with h132 | h132
  · have q := List.all_eq_true.mp fd_ok_44 (m - 132) (List.mem_range.mpr (by omega))
    rwa [show 132 + (m - 132) = m by omega] at q
  rcases Nat.lt_or_ge m 138 with h135 | h135
  · have q := List.all_eq_true.mp fd_ok_45 (m - 135) (List.mem_range.mpr (by omega))
    rwa [show 135 + (m - 135) = m by omega] at q
  rcases Nat.lt_or_ge m 141 with h138 | h138
  · have q := List.all_eq_true.mp fd_ok_46 (m - 138) (List.mem_range.mpr (by omega))
    rwa [show 138 + (m - 138) = m by omega] at q
  rcases Nat.lt_or_ge m 144 with h141 | h141
  · have q := List.all_eq_true.mp fd_ok_47 (m - 141) (List.mem_range.mpr (by omega))
    rwa [show 141 + (m - 141) = m by omega] at q
  rcases Nat.lt_or_ge m 147 with h144 | h144
  · have q := List.all_eq_true.mp fd_ok_48 (m - 144) (List.mem_range.mpr (by omega))
    rwa [show 144 + (m - 144) = m by omega] at q
  rcases Nat.lt_or_ge m 150 with h147 | h147
  · have q := List.all_eq_true.mp fd_ok_49 (m - 147) (List.mem_range.mpr (by omega))
    rwa [show 147 + (m - 147) = m by omega] at q
  rcases Nat.lt_or_ge m 153 with h150 | h150
  · have q := List.all_eq_true.mp fd_ok_50 (m - 150) (List.mem_range.mpr (by omega))
    rwa [show 150 + (m - 150) = m by omega] at q
  rcases Nat.lt_or_ge m 156 with h153 | h153
  · have q := List.all_eq_true.mp fd_ok_51 (m - 153) (List.mem_range.mpr (by omega))
    rwa [show 153 + (m - 153) = m by omega] at q
  rcases Nat.lt_or_ge m 159 with h156 | h156
  · have q := List.all_eq_true.mp fd_ok_52 (m - 156) (List.mem_range.mpr (by omega))
    rwa [show 156 + (m - 156) = m by omega] at q
  rcases Nat.lt_or_ge m 162 with h159 | h159
  · have q := List.all_eq_true.mp fd_ok_53 (m - 159) (List.mem_range.mpr (by omega))
    rwa [show 159 + (m - 159) = m by omega] at q
  rcases Nat.lt_or_ge m 165 with h162 | h162
  · have q := List.all_eq_true.mp fd_ok_54 (m - 162) (List.mem_range.mpr (by omega))
    rwa [show 162 + (m - 162) = m by omega] at q
  rcases Nat.lt_or_ge m 168 with h165 | h165
  · have q := List.all_eq_true.mp fd_ok_55 (m - 165) (List.mem_range.mpr (by omega))
    rwa [show 165 + (m - 165) = m by omega] at q
  rcases Nat.lt_or_ge m 171 with h168 | h168
  · have q := List.all_eq_true.mp fd_ok_56 (m - 168) (List.mem_range.mpr (by omega))
    rwa [show 168 + (m - 168) = m by omega] at q
  rcases Nat.lt_or_ge m 174 with h171 | h171
  · have q := List.all_eq_true.mp fd_ok_57 (m - 171) (List.mem_range.mpr (by omega))
    rwa [show 171 + (m - 171) = m by omega] at q
  rcases Nat.lt_or_ge m 177 with h174 | h174
  · have q := List.all_eq_true.mp fd_ok_58 (m - 174) (List.mem_range.mpr (by omega))
    rwa [show 174 + (m - 174) = m by omega] at q
  exact absurd h (by omega)
end
section
/-! A small machine over whole numbers: values, memory of the cells that the constructors make, one instruction, a run -/
abbrev fd_V : Type := Int ⊕ Int ⊕ Nat
abbrev fd_I (a : Int) : fd_V := .inl a
abbrev fd_J (a : Int) : fd_V := .inr (.inl a)
abbrev fd_R (c : Nat) : fd_V := .inr (.inr c)
abbrev fd_M : Type := Nat → Nat → Int
def fd_up (M : fd_M) (c k : Nat) (v : Int) : fd_M := fun c' k' => if c' = c ∧ k' = k then v else M c' k'
def fd_cp (M : fd_M) (c1 sp c2 dp n : Nat) : fd_M := fun c k => if c = c2 ∧ dp ≤ k ∧ k < dp + n then M c1 (sp + (k - dp)) else M c k
def fd_nw (M : fd_M) (f : Nat → Int) : fd_M := fun c k => if c = (M 5000 0).toNat then f k else if c = 5000 ∧ k = 0 then M 5000 0 + 1 else M c k
def fd_inb (i n : Int) : Bool := decide (0 ≤ i ∧ i < n)
def fd_rng (a : Int) : Bool := decide (-2147483648 ≤ a ∧ a < 2147483648)
def fd_al (ph : Bool) (M : fd_M) (c : Nat) : Bool := ph || Nat.blt c (M 5000 0).toNat
def fd_isO (ph : Bool) (M : fd_M) (c ci : Nat) : Bool := Nat.beq (fd_SH c).1 ci && fd_al ph M c
def fd_rf (ph : Bool) (M : fd_M) (c k : Nat) : Nat := match (bif ph then fd_RF c k else none) with
  | some r => r
  | none => (M c k).toNat
def fd_gf (ph : Bool) (M : fd_M) (kd c k : Nat) : fd_V := match kd with
  | 1 => fd_J (M c k)
  | 2 => fd_R (fd_rf ph M c k)
  | _ => fd_I (M c k)
def fd_and (a b : Int) : Int := (Int32.ofInt a &&& Int32.ofInt b).toInt
def fd_or (a b : Int) : Int := (Int32.ofInt a ||| Int32.ofInt b).toInt
def fd_xor (a b : Int) : Int := (Int32.ofInt a ^^^ Int32.ofInt b).toInt
def fd_land (a b : Int) : Int := (Int64.ofInt a &&& Int64.ofInt b).toInt
def fd_lxor (a b : Int) : Int := (Int64.ofInt a ^^^ Int64.ofInt b).toInt
def fd_lcmp (a b : Int) : Int := (lg_cmp (Int64.ofInt a) (Int64.ofInt b)).toInt
def fd_i2b (a : Int) : Int := ((Int32.ofInt a).toInt8.toInt32).toInt
def fd_sx (i : Int) : Int := if i = 1 then 1 else if i = 3 then -1 else 0
def fd_sy (i : Int) : Int := if i = 2 then 1 else if i = 0 then -1 else 0
def fd_us (x : Int64) (k : Int32) : Int64 := (x.toUInt64 >>> (k.toInt64.toUInt64 &&& Int64.toUInt64 63)).toInt64
def fd_bc1 (x : Int64) : Int64 := x - (fd_us x 1 &&& 6148914691236517205)
def fd_bc2 (x : Int64) : Int64 := (x &&& 3689348814741910323) + (fd_us x 2 &&& 3689348814741910323)
def fd_bc3 (x : Int64) : Int64 := (x + fd_us x 4) &&& 1085102592571150095
def fd_bc4 (x : Int64) : Int64 := x + fd_us x 8
def fd_bc5 (x : Int64) : Int64 := x + fd_us x 16
def fd_bc6 (x : Int64) : Int64 := x + fd_us x 32
def fd_bc (x : Int64) : Int32 := (fd_bc6 (fd_bc5 (fd_bc4 (fd_bc3 (fd_bc2 (fd_bc1 x)))))).toInt32 &&& 127
def fd_lbc (a : Int) : Int := (fd_bc (Int64.ofInt a)).toInt
abbrev fd_Rs : Type := Option (Bool × List fd_V × List fd_V × fd_M)
/-- what is on top: an int, a long, a reference -/
def fd_pI (st : List fd_V) (F : Int → List fd_V → fd_Rs) : fd_Rs := match st with
  | .inl a :: r => F a r
  | _ => none
def fd_pJ (st : List fd_V) (F : Int → List fd_V → fd_Rs) : fd_Rs := match st with
  | .inr (.inl a) :: r => F a r
  | _ => none
def fd_pR (st : List fd_V) (F : Nat → List fd_V → fd_Rs) : fd_Rs := match st with
  | .inr (.inr c) :: r => F c r
  | _ => none
def fd_lI (v : Option fd_V) (F : Int → fd_Rs) : fd_Rs := match v with
  | some (.inl a) => F a
  | _ => none
def fd_lR (v : Option fd_V) (F : Nat → fd_Rs) : fd_Rs := match v with
  | some (.inr (.inr c)) => F c
  | _ => none
def fd_2 (ls st : List fd_V) (M : fd_M) (g : Int → Int → Bool) (f : Int → Int → Int) : fd_Rs := fd_pI st fun b r => fd_pI r fun a r => some (g a b, ls, fd_I (f a b) :: r, M)
def fd_2J (ls st : List fd_V) (M : fd_M) (f : Int → Int → Int) : fd_Rs := fd_pJ st fun b r => fd_pJ r fun a r => some (true, ls, fd_J (f a b) :: r, M)
def fd_tt : Int → Int → Bool := fun _ _ => true
def fd_put (ph : Bool) (ci k kd : Nat) (ls st : List fd_V) (M : fd_M) : fd_Rs := match kd with
  | 0 => fd_pI st fun a r => fd_pR r fun c r => some (fd_isO ph M c ci, ls, r, fd_up M c k a)
  | 1 => fd_pJ st fun a r => fd_pR r fun c r => some (fd_isO ph M c ci, ls, r, fd_up M c k a)
  | 2 => fd_pR st fun x r => fd_pR r fun c r => some (!ph && (fd_isO ph M c ci && Nat.blt x 1000), ls, r, fd_up M c k x)
  | 3 => fd_pI st fun a r => fd_pR r fun c r => some (fd_isO ph M c ci && fd_inb a 2, ls, r, fd_up M c k a)
  | _ => none
def fd_isA (ph : Bool) (M : fd_M) (c kd : Nat) (i : Int) : Bool := (Nat.beq (fd_SH c).1 kd && fd_al ph M c) && fd_inb i (fd_SH c).2
def fd_new (ph : Bool) (kd : Nat) (ls r : List fd_V) (M : fd_M) (ok : Bool) (f : Nat → Int) : fd_Rs := some (!ph && (Nat.beq (fd_SH (M 5000 0).toNat).1 kd && ok), ls, fd_R (M 5000 0).toNat :: r, fd_nw M f)
def fd_copy (ph : Bool) (ls st : List fd_V) (M : fd_M) : fd_Rs := fd_pI st fun n r => fd_pI r fun dp r => fd_pR r fun c2 r => fd_pI r fun sp r => fd_pR r fun c1 r =>
    some ((ph && (Nat.beq (fd_SH c1).1 20 && fd_al ph M c1) && (Nat.beq (fd_SH c2).1 20 && fd_al ph M c2)) && decide (0 ≤ sp ∧ 0 ≤ dp ∧ 0 ≤ n ∧ sp + n ≤ (fd_SH c1).2 ∧ dp + n ≤ (fd_SH c2).2 ∧ (r.length : Int) ≤ 4), ls, r, fd_cp M c1 sp.toNat c2 dp.toNat n.toNat)
/-- one instruction that goes on to the next one -/
def fd_nx (ph : Bool) (op : Nat) (as : List Int) (ls st : List fd_V) (M : fd_M) : fd_Rs := match op with
  | 0 => some (true, ls, fd_I (fd_a as 0) :: st, M)
  | 1 => fd_lI ls[fd_n as 0]? fun a => some (true, ls, fd_I a :: st, M)
  | 2 => fd_lR ls[fd_n as 0]? fun c => some (Nat.blt c 1000, ls, fd_R c :: st, M)
  | 3 => fd_pI st fun a r => some (Nat.blt (fd_n as 0) ls.length, ls.set (fd_n as 0) (fd_I a), r, M)
  | 4 => fd_pR st fun c r => some (Nat.blt (fd_n as 0) ls.length && Nat.blt c 1000, ls.set (fd_n as 0) (fd_R c), r, M)
  | 5 => fd_lI ls[fd_n as 0]? fun a => some (true, ls.set (fd_n as 0) (fd_I (a + fd_a as 1)), st, M)
  | 6 => fd_2 ls st M fd_tt (fun a b => a + b)
  | 7 => fd_2 ls st M fd_tt (fun a b => a - b)
  | 8 => fd_2 ls st M fd_tt (fun a b => a * b)
  | 9 => fd_2 ls st M (fun a b => fd_inb a 2147483648 && fd_inb (b - 1) 2147483647) (fun a b => a / b)
  | 10 => fd_2 ls st M (fun a b => fd_inb a 2147483648 && fd_inb (b - 1) 2147483647) (fun a b => a % b)
  | 11 => fd_2 ls st M fd_tt fd_and
  | 12 => fd_2 ls st M fd_tt fd_or
  | 13 => fd_2 ls st M fd_tt fd_xor
  | 14 => fd_2 ls st M (fun a b => decide (a = 1) && fd_inb b 32) (fun _ b => 2 ^ b.toNat)
  | 15 => fd_2 ls st M (fun a b => fd_inb a 2147483648 && fd_inb b 32) (fun a b => a / 2 ^ b.toNat)
  | 16 => fd_2 ls st M (fun a b => fd_inb a 2147483648 && fd_inb b 32) (fun a b => a / 2 ^ b.toNat)
  | 17 => some (true, ls, fd_J (fd_a as 0) :: st, M)
  | 18 => fd_2J ls st M (fun a b => a + b)
  | 19 => fd_2J ls st M fd_lxor
  | 20 => fd_2J ls st M fd_land
  | 21 => fd_pI st fun b r => fd_pJ r fun a r => some (decide (a = 1) && fd_inb b 64, ls, fd_J (2 ^ b.toNat) :: r, M)
  | 22 => fd_pJ st fun b r => fd_pJ r fun a r => some (true, ls, fd_I (fd_lcmp a b) :: r, M)
  | 23 => fd_pI st fun a r => some (true, ls, fd_I (fd_i2b a) :: r, M)
  | 24 => match st with
    | .inl a :: r => some (true, ls, fd_I a :: fd_I a :: r, M)
    | .inr (.inr c) :: r => some (true, ls, fd_R c :: fd_R c :: r, M)
    | _ => none
  | 25 => fd_pI st fun b r => fd_pR r fun a r => some (true, ls, fd_I b :: fd_R a :: fd_I b :: fd_R a :: r, M)
  | 26 => fd_pI st fun _ r => some (true, ls, r, M)
  | 27 => fd_pR st fun c r => some (fd_isO ph M c (fd_n as 0), ls, fd_gf ph M (fd_n as 2) c (fd_n as 1) :: r, M)
  | 28 => fd_put ph (fd_n as 0) (fd_n as 1) (fd_n as 2) ls st M
  | 29 => some (true, ls, fd_R (fd_n as 0) :: st, M)
  | 30 => fd_pI st fun i r => fd_pR r fun c r => some (fd_isA ph M c 20 i, ls, fd_I (M c i.toNat) :: r, M)
  | 31 => fd_pI st fun v r => fd_pI r fun i r => fd_pR r fun c r => some (fd_isA ph M c 20 i, ls, r, fd_up M c i.toNat v)
  | 32 => fd_pI st fun i r => fd_pR r fun c r => some (fd_isA ph M c 21 i || fd_isA ph M c 22 i, ls, fd_I (M c i.toNat) :: r, M)
  | 33 => fd_pI st fun v r => fd_pI r fun i r => fd_pR r fun c r => some ((fd_isA ph M c 21 i && fd_inb (v + 128) 256) || (fd_isA ph M c 22 i && fd_inb v 2), ls, r, fd_up M c i.toNat v)
  | 34 => fd_pI st fun i r => fd_pR r fun c r => some ((fd_isA ph M c 23 i || fd_isA ph M c 24 i) && Nat.blt (M c i.toNat).toNat 1000, ls, fd_R (M c i.toNat).toNat :: r, M)
  | 35 => fd_pR st fun x r => fd_pI r fun i r => fd_pR r fun c r => some ((fd_isA ph M c 23 i && fd_isO ph M x 5) || (fd_isA ph M c 24 i && fd_isO ph M x 2), ls, r, fd_up M c i.toNat x)
  | 36 => fd_pR st fun c r => some (Nat.ble 20 (fd_SH c).1 && (Nat.ble (fd_SH c).1 24 && fd_al ph M c), ls, fd_I (fd_SH c).2 :: r, M)
  | 37 => fd_new ph (fd_n as 0) ls st M true (fd_dfl (fd_n as 0))
  | 38 => fd_pI st fun n r => fd_new ph (fd_n as 0) ls r M (decide (n = (fd_SH (M 5000 0).toNat).2)) (fun _ => 0)
  | 39 => fd_pI st fun n r => fd_new ph (fd_n as 0) ls r M (decide (n = (fd_SH (M 5000 0).toNat).2)) (fun _ => 1000)
  | 40 => fd_copy ph ls st M
  | 41 => fd_pJ st fun a r => some (Nat.ble r.length 4, ls, fd_I (fd_lbc a) :: r, M)
  | 42 => fd_pR st fun c r => some (Nat.blt c 1000 && Nat.ble r.length 4, ls, r, M)
  | 43 => fd_pI st fun i r => fd_pR r fun c r => some ((Nat.beq c 1001 || Nat.beq c 1002) && fd_inb i 4, ls, fd_I (bif Nat.beq c 1001 then fd_sx i else fd_sy i) :: r, M)
  | 44 => fd_pI st fun b r => fd_pI r fun a r => some (fd_rng a && (fd_rng b && Nat.ble r.length 4), ls, fd_I (if b < a then b else a) :: r, M)
  | 45 => fd_pI st fun b r => fd_pJ r fun a r => some (fd_inb a 9223372036854775808 && fd_inb b 64, ls, fd_J (a / 2 ^ b.toNat) :: r, M)
  | _ => none
/-- where a branch goes: 100 goto, 101 .. two ints compared, 107 .. an int against 0, 113 a table, 118 a list of keys -/
def fd_cmp (op : Nat) (a b : Int) : Bool := match op with
  | 0 => decide (a = b)
  | 1 => decide (¬ a = b)
  | 2 => decide (a < b)
  | 3 => decide (b ≤ a)
  | 4 => decide (b < a)
  | _ => decide (a ≤ b)
def fd_look (x d : Int) : List Int → Int
  | k :: t :: r => if x = k then t else fd_look x d r
  | _ => d
def fd_jmp (op : Nat) (as : List Int) (i : Nat) (st : List fd_V) : Option (Bool × Nat × List fd_V) := match op with
  | 100 => some (true, fd_n as 0, st)
  | 101 => match st with | .inl b :: .inl a :: r => some (fd_rng a && fd_rng b, (if a = b then fd_n as 0 else i + 1), r) | _ => none
  | 102 => match st with | .inl b :: .inl a :: r => some (fd_rng a && fd_rng b, (if ¬ a = b then fd_n as 0 else i + 1), r) | _ => none
  | 103 => match st with | .inl b :: .inl a :: r => some (fd_rng a && fd_rng b, (if a < b then fd_n as 0 else i + 1), r) | _ => none
  | 104 => match st with | .inl b :: .inl a :: r => some (fd_rng a && fd_rng b, (if b ≤ a then fd_n as 0 else i + 1), r) | _ => none
  | 105 => match st with | .inl b :: .inl a :: r => some (fd_rng a && fd_rng b, (if b < a then fd_n as 0 else i + 1), r) | _ => none
  | 106 => match st with | .inl b :: .inl a :: r => some (fd_rng a && fd_rng b, (if a ≤ b then fd_n as 0 else i + 1), r) | _ => none
  | 107 => match st with | .inl a :: r => some (fd_rng a, (if a = 0 then fd_n as 0 else i + 1), r) | _ => none
  | 108 => match st with | .inl a :: r => some (fd_rng a, (if ¬ a = 0 then fd_n as 0 else i + 1), r) | _ => none
  | 109 => match st with | .inl a :: r => some (fd_rng a, (if a < 0 then fd_n as 0 else i + 1), r) | _ => none
  | 110 => match st with | .inl a :: r => some (fd_rng a, (if 0 ≤ a then fd_n as 0 else i + 1), r) | _ => none
  | 111 => match st with | .inl a :: r => some (fd_rng a, (if 0 < a then fd_n as 0 else i + 1), r) | _ => none
  | 112 => match st with | .inl a :: r => some (fd_rng a, (if a ≤ 0 then fd_n as 0 else i + 1), r) | _ => none
  | 113 => match st with | .inl a :: r => some (fd_rng a, (if 0 ≤ a - fd_a as 1 ∧ a - fd_a as 1 < (as.length : Int) - 2 then fd_n as (2 + (a - fd_a as 1).toNat) else fd_n as 0), r) | _ => none
  | 118 => match st with | .inl a :: r => some (fd_rng a, (fd_look a (fd_a as 0) (as.drop 1)).toNat, r) | _ => none
  | _ => none
def fd_ret (rk op : Nat) (st : List fd_V) : Option (Bool × Option fd_V) := match op, st with
  | 114, [.inl a] => some (Nat.beq rk 1 || (Nat.beq rk 2 && fd_inb a 2), some (fd_I a))
  | 115, [.inr (.inl a)] => some (Nat.beq rk 3, some (fd_J a))
  | 116, [] => some (Nat.beq rk 0, none)
  | _, _ => none
def fd_cw (v : fd_V) : Nat := match v with
  | .inr (.inl _) => 2
  | _ => 1
def fd_n1 (v : fd_V) : Bool := match v with
  | .inr (.inl _) => false
  | .inr (.inr c) => Nat.blt c 1000
  | _ => true
/-- what a call asks of the stack: 120 a method of an object, 121 a static one, 122 a constructor -/
def fd_inv (ph : Bool) (op m np : Nat) (st : List fd_V) (M : fd_M) : Bool :=
  (Nat.ble np st.length && ((st.take np).all fd_n1 && Nat.ble ((st.drop np).map fd_cw).sum 8)) && (match op with
    | 120 => (match (st.take np).reverse with
      | .inr (.inr c) :: _ => fd_isO ph M c (fd_mc m)
      | _ => false)
    | 121 => true
    | _ => (match (st.take np).reverse with
      | .inr (.inr _) :: _ => true
      | _ => false))
def fd_pad (m : Nat) (args : List fd_V) : List fd_V := args ++ List.replicate (fd_mL m - args.length) (fd_R 1003)
/-- the run of a method from an instruction on: fuel, how deep it may still call -/
def fd_ex (ph : Bool) : Nat → Nat → Nat → Nat → List fd_V → List fd_V → fd_M → Option (Option fd_V × fd_M)
  | 0, _, _, _, _, _, _ => none
  | f + 1, d, m, i, ls, st, M => match (fd_code m)[i]? with
    | none => none
    | some (op, as) =>
      if op < 100 then
        match fd_nx ph op as ls st M with
        | some (true, ls', st', M') => fd_ex ph f d m (i + 1) ls' st' M'
        | _ => none
      else if op < 114 ∨ op = 118 then
        match fd_jmp op as i st with
        | some (true, j, st') => fd_ex ph f d m j ls st' M
        | _ => none
      else if op < 120 then
        match fd_ret (fd_rk m) op st with
        | some (true, r) => some (r, M)
        | _ => none
      else
        match d with
        | 0 => none
        | d' + 1 => if fd_inv ph op (fd_n as 0) (fd_n as 1) st M then
            match fd_ex ph f d' (fd_n as 0) 0 (fd_pad (fd_n as 0) (st.take (fd_n as 1)).reverse) [] M with
            | some (r, M') => fd_ex ph f (d' + 1) m (i + 1) ls (r.toList ++ st.drop (fd_n as 1)) M'
            | none => none
          else none
end
section
/-! numbers -/
theorem fd_oi (n : Nat) : Int32.ofInt (n : Int) = nI n := Int32.ofInt_eq_ofNat
theorem fd_inb_iff {i n : Int} : fd_inb i n = true ↔ 0 ≤ i ∧ i < n := by simp [fd_inb]
theorem fd_rng_iff {a : Int} : fd_rng a = true ↔ -2147483648 ≤ a ∧ a < 2147483648 := by simp [fd_rng]
theorem fd_toI {a : Int} (h : -2147483648 ≤ a ∧ a < 2147483648) : (Int32.ofInt a).toInt = a := Int32.toInt_ofInt_of_le (by omega) (by omega)
theorem fd_eqI {a b : Int} (ha : -2147483648 ≤ a ∧ a < 2147483648) (hb : -2147483648 ≤ b ∧ b < 2147483648) : Int32.ofInt a = Int32.ofInt b ↔ a = b := by rw [← Int32.toInt_inj, fd_toI ha, fd_toI hb]
theorem fd_ltI {a b : Int} (ha : -2147483648 ≤ a ∧ a < 2147483648) (hb : -2147483648 ≤ b ∧ b < 2147483648) : Int32.ofInt a < Int32.ofInt b ↔ a < b := by rw [Int32.lt_iff_toInt_lt, fd_toI ha, fd_toI hb]
theorem fd_leI {a b : Int} (ha : -2147483648 ≤ a ∧ a < 2147483648) (hb : -2147483648 ≤ b ∧ b < 2147483648) : Int32.ofInt a ≤ Int32.ofInt b ↔ a ≤ b := by rw [Int32.le_iff_toInt_le, fd_toI ha, fd_toI hb]
theorem fd_vin {i : Int} {n : Nat} (h : 0 ≤ i ∧ i < n) (hn : n < 2147483648) : vp_in (Int32.ofInt i) n ∧ (Int32.ofInt i).toNatClampNeg = i.toNat := by
  have e : (Int32.ofInt i).toInt = i := fd_toI (by omega)
  refine ⟨vp_in_iff.mpr (by rw [e]; exact h), ?_⟩
  show (Int32.ofInt i).toInt.toNat = i.toNat
  rw [e]
theorem fd_divI {a b : Int} (ha : 0 ≤ a ∧ a < 2147483648) (hb : 0 ≤ b - 1 ∧ b - 1 < 2147483647) : Int32.ofInt a / Int32.ofInt b = Int32.ofInt (a / b) ∧ Int32.ofInt a - Int32.ofInt a / Int32.ofInt b * Int32.ofInt b = Int32.ofInt (a % b) ∧ ¬ Int32.ofInt b = 0 := by
  obtain ⟨n, rfl⟩ := Int.eq_ofNat_of_zero_le ha.1
  obtain ⟨k, rfl⟩ := Int.eq_ofNat_of_zero_le (show 0 ≤ b by omega)
  have h1 : n < 2 ^ 31 := by omega
  have h2 : k < 2 ^ 31 := by omega
  have h3 : 0 < k := by omega
  rw [fd_oi, fd_oi, pk_rem h1 h3 h2, pk_div h1 h3 h2, ← Int.natCast_ediv, ← Int.natCast_emod, fd_oi, fd_oi]
  exact ⟨rfl, rfl, nI_ne0 h3 h2⟩
theorem fd_sl31 : ∀ n, n < 32 → ((nI n &&& 31).toBitVec.smod 32).toNat = n := by decide +kernel
theorem fd_su31 : ∀ n, n < 32 → (((nI n).toUInt32 &&& Int32.toUInt32 31).toBitVec % 32).toNat = n := by decide +kernel
theorem fd_shl1 : ∀ n, n < 32 → (1 : Int32) <<< (nI n &&& 31) = Int32.ofInt (2 ^ n) := by decide +kernel
theorem fd_lshl1 : ∀ n, n < 64 → (1 : Int64) <<< ((nI n).toInt64 &&& 63) = Int64.ofInt (2 ^ n) := by decide +kernel
theorem fd_shrI {a b : Int} (ha : 0 ≤ a ∧ a < 2147483648) (hb : 0 ≤ b ∧ b < 32) : Int32.ofInt a >>> (Int32.ofInt b &&& 31) = Int32.ofInt (a / 2 ^ b.toNat) ∧ ((Int32.ofInt a).toUInt32 >>> ((Int32.ofInt b).toUInt32 &&& Int32.toUInt32 31)).toInt32 = Int32.ofInt (a / 2 ^ b.toNat) := by
  obtain ⟨n, rfl⟩ := Int.eq_ofNat_of_zero_le ha.1
  obtain ⟨k, rfl⟩ := Int.eq_ofNat_of_zero_le hb.1
  have h1 : n < 2 ^ 31 := by omega
  have h2 : k < 32 := by omega
  have e : ((n : Int) / 2 ^ ((k : Int)).toNat) = ((n / 2 ^ k : Nat) : Int) := by
    rw [Int.toNat_natCast, Int.natCast_ediv]
    simp
  rw [e, fd_oi, fd_oi, fd_oi, pk_shrN h1 _ k (fd_sl31 k h2), pk_ushrN (by omega) _ k (fd_su31 k h2)]
  exact ⟨rfl, rfl⟩
theorem fd_sl63 : ∀ n, n < 64 → (((nI n).toInt64 &&& 63).toBitVec.smod 64).toNat = n := by decide +kernel
theorem fd_lshrJ {a b : Int} (ha : 0 ≤ a ∧ a < 9223372036854775808) (hb : 0 ≤ b ∧ b < 64) : Int64.ofInt a >>> ((Int32.ofInt b).toInt64 &&& 63) = Int64.ofInt (a / 2 ^ b.toNat) := by
  obtain ⟨n, rfl⟩ := Int.eq_ofNat_of_zero_le ha.1
  obtain ⟨k, rfl⟩ := Int.eq_ofNat_of_zero_le hb.1
  have h1 : n < 2 ^ 63 := by omega
  have h2 : k < 64 := by omega
  have e : ((n : Int) / 2 ^ ((k : Int)).toNat) = ((n / 2 ^ k : Nat) : Int) := by
    rw [Int.toNat_natCast, Int.natCast_ediv]
    simp
  have hq : n / 2 ^ k < 2 ^ 63 := Nat.lt_of_le_of_lt (Nat.div_le_self _ _) h1
  rw [e, fd_oi]
  have e2 : ((n / 2 ^ k : Nat) : Int).bmod (2 ^ 64) = ((n / 2 ^ k : Nat) : Int) := by
    generalize n / 2 ^ k = q at hq
    exact Int.bmod_eq_of_le (by omega) (by omega)
  apply Int64.toBitVec.inj
  rw [Int64.toBitVec_shiftRight, BitVec.sshiftRight', fd_sl63 k h2, Int64.toBitVec_ofInt, Int64.toBitVec_ofInt]
  apply BitVec.eq_of_toInt_eq
  rw [BitVec.toInt_sshiftRight, BitVec.toInt_ofInt, BitVec.toInt_ofInt, Int.bmod_eq_of_le (by omega) (by omega), e2, Int.shiftRight_eq_div_pow, Int.natCast_ediv]
/-! the world: base address, the two tables of steps, class numbers, array classes -/
abbrev fd_G : Type := Nat × Nat × Nat × va_G × (Nat → ClassId)
def fd_rv (g : fd_G) (c : Nat) : Value := if c < 1000 then .ref (g.1 + c) else if c = 1001 then .ref g.2.1 else if c = 1002 then .ref g.2.2.1 else .null
def fd_cv (g : fd_G) (v : fd_V) : Value := match v with
  | .inl a => .int (Int32.ofInt a)
  | .inr (.inl a) => .long (Int64.ofInt a)
  | .inr (.inr c) => fd_rv g c
theorem fd_rv_lt {g : fd_G} {c : Nat} (h : c < 1000) : fd_rv g c = .ref (g.1 + c) := if_pos h
theorem fd_cat (g : fd_G) (v : fd_V) : (fd_cv g v).category = fd_cw v := by
  rcases v with a | a | c
  · rfl
  · rfl
  · show (fd_rv g c).category = 1
    unfold fd_rv
    split
    · rfl
    · split
      · rfl
      · split <;> rfl
def fd_fv (g : fd_G) (ph : Bool) (M : fd_M) (ci c k : Nat) : Value := fd_cv g (fd_gf ph M (fd_kd (fd_ty ci k)) c k)
def fd_ro (g : fd_G) (x : Int) : Option Nat := if x.toNat < 1000 then some (g.1 + x.toNat) else none
def fd_ce (g : fd_G) (ph : Bool) (M : fd_M) (c : Nat) : va_E :=
  if (fd_SH c).1 < 20 then .inr ((fd_SH c).1, (List.range (fd_SH c).2).map (fun k => fd_fv g ph M (fd_SH c).1 c k))
  else if (fd_SH c).1 < 23 then .inl (g.2.2.2.2 (fd_SH c).1, (fd_SH c).2, .inl (fun j => Int32.ofInt (M c j)))
  else .inl (g.2.2.2.2 (fd_SH c).1, (fd_SH c).2, .inr (.inr (.inr (.inr (fun j => fd_ro g (M c j))))))
def fd_ws (g : fd_G) (ph : Bool) (M : fd_M) (n : Nat) : va_W := (List.range n).map (fun c => (g.1 + c, fd_ce g ph M c))
abbrev fd_ap (M : fd_M) : Nat := (M 5000 0).toNat
abbrev fd_A (g : fd_G) : Nat → Prop := fun q => g.1 ≤ q
def fd_hp (g : fd_G) (ph : Bool) (M : fd_M) (H : Heap) : Prop :=
  (ph = false → H.size = g.1 + fd_ap M) ∧ fd_ap M ≤ fd_NC ∧ 0 ≤ M 5000 0 ∧ (ph = true → fd_ap M = fd_NC) ∧ va_P g.2.2.2.1 fd_cl (fd_ws g ph M (fd_ap M)) H
theorem fd_ws_get {g : fd_G} {ph : Bool} {M : fd_M} {n c : Nat} (h : c < n) : (fd_ws g ph M n)[c]? = some (g.1 + c, fd_ce g ph M c) := by
  simp [fd_ws, List.getElem?_map, List.getElem?_range h]
theorem fd_ws_D {g : fd_G} {ph : Bool} {M : fd_M} {n : Nat} : va_D (fd_A g) (fd_ws g ph M n) := by
  have key : ∀ (i : Nat) (p : Nat × va_E), (fd_ws g ph M n)[i]? = some p → p.1 = g.1 + i := by
    intro i p hp
    have hl : i < n := by
      have := (List.getElem?_eq_some_iff.mp hp).1
      simpa [fd_ws] using this
    rw [fd_ws_get hl] at hp
    cases hp
    rfl
  refine ⟨fun i j p q hp hq e => ?_, fun k q hq => ?_⟩
  · have := key i p hp
    have := key j q hq
    omega
  · have := key k q hq
    show g.1 ≤ q.1
    omega
theorem fd_ce_congr {g : fd_G} {ph : Bool} {M M' : fd_M} {c : Nat} (h : M' c = M c) : fd_ce g ph M' c = fd_ce g ph M c := by
  have h1 : ∀ ci k, fd_fv g ph M' ci c k = fd_fv g ph M ci c k := fun ci k => by
    unfold fd_fv fd_gf fd_rf
    rw [h]
  unfold fd_ce
  simp only [h1, h]
theorem fd_ws_set {g : fd_G} {ph : Bool} {M M' : fd_M} {n c : Nat} {x : Nat × va_E} (hx : x = (g.1 + c, fd_ce g ph M' c)) (ho : ∀ c', c' < n → c' ≠ c → M' c' = M c') : (fd_ws g ph M n).set c x = fd_ws g ph M' n := by
  subst hx
  apply List.ext_getElem?
  intro i
  by_cases hi : i < n
  · by_cases hc : c = i
    · subst hc
      rw [List.getElem?_set_self (by simpa [fd_ws] using hi), fd_ws_get hi]
    · rw [List.getElem?_set_ne hc, fd_ws_get hi, fd_ws_get hi, fd_ce_congr (ho i hi (fun q => hc q.symm))]
  · rw [List.getElem?_eq_none (by simpa [fd_ws] using hi), List.getElem?_eq_none (by simpa [fd_ws] using hi)]
/-- what the tables say at a state: classes, array classes, words, the two tables of steps -/
def fd_tys (g : fd_G) : List (ClassId × FieldType) := [(g.2.2.2.2 20, .int), (g.2.2.2.2 21, .byte), (g.2.2.2.2 22, .boolean), (g.2.2.2.2 23, .object "FacingDoors$Scene"), (g.2.2.2.2 24, .object "FacingDoors$Image")]
def fd_nest (w : Jvm.Cond) : Bool := match w with
  | .fieldLinkNest .. => true
  | .methodLinkNest .. => true
  | .arrayOver (.object _) => true
  | _ => false
def fd_gtbl : List Jvm.Cond := lw_tbl.filter goodWord
def fd_ntbl : List Jvm.Cond := lw_tbl.filter fd_nest
/-- the words that a frame holds: those that go over into calls -/
def fd_tbl : List Jvm.Cond := lw_tbl.filter (fun w => goodWord w || fd_nest w)
theorem fd_mt {w : Jvm.Cond} (h : w ∈ lw_tbl) (hg : (goodWord w || fd_nest w) = true := by rfl) : w ∈ fd_tbl := List.mem_filter.mpr ⟨h, hg⟩
def fd_St (g : fd_G) (U : State) (H : Heap) : Prop :=
  va_Z "FacingDoors" "STEP_X" "[I" (.ref g.2.1) (fd_A g) U H ∧ va_T .int g.2.1 4 (fun j => .int (Int32.ofInt (fd_sx j))) (fd_A g) U H ∧
  va_Z "FacingDoors" "STEP_Y" "[I" (.ref g.2.2.1) (fd_A g) U H ∧ va_T .int g.2.2.1 4 (fun j => .int (Int32.ofInt (fd_sy j))) (fd_A g) U H
def fd_Kn (g : fd_G) (U : State) (H : Heap) : Prop := va_K g.2.2.2.1 fd_cl (fd_tys g) U ∧ (∀ w ∈ fd_ntbl, va_Nw w U) ∧ fd_St g U H
theorem fd_Nw_moved {s U : State} {w : Jvm.Cond} (hw : w ∈ fd_ntbl) (hW : s.WarmedH U.vm) (h : va_Nw w s) : va_Nw w U := by
  have h1 : fd_nest w = true := (List.mem_filter.mp hw).2
  cases w <;> first | exact va_Nw.warmF hW h | exact va_Nw.warmM hW h | skip
  case arrayOver t =>
    cases t with
    | object C => exact va_AO.moved hW.alike h
    | _ => cases h1
  all_goals cases h1
theorem fd_Kn_moved {g : fd_G} {s U : State} {H H1 : Heap} (hW : s.WarmedH U.vm) (hk : ∀ q : Nat, q < H.size → ¬ fd_A g q → H1[q]? = H[q]?) (h : fd_Kn g s H) : fd_Kn g U H1 :=
  ⟨va_K.moved hW.alike h.1, fun w hw => fd_Nw_moved hw hW (h.2.1 w hw), (va_Z.moved hW.alike h.2.2.1).kept hk, (va_T.moved hW.alike h.2.2.2.1).kept hk, (va_Z.moved hW.alike h.2.2.2.2.1).kept hk, (va_T.moved hW.alike h.2.2.2.2.2).kept hk⟩
theorem fd_words {s : State} {args : Array Value} (h1 : ∀ w ∈ fd_gtbl, w.before args s = true) (h2 : ∀ w ∈ fd_ntbl, va_Nw w s) : ∀ w ∈ fd_tbl, w.before args s = true := by
  intro w hw0
  obtain ⟨hw, hq⟩ := List.mem_filter.mp hw0
  clear hw0
  cases hg : goodWord w with
  | true => exact h1 w (List.mem_filter.mpr ⟨hw, hg⟩)
  | false =>
    have h3 : fd_nest w = true := by rw [hg] at hq; exact hq
    have h4 := h2 w (List.mem_filter.mpr ⟨hw, h3⟩)
    cases w <;> first | exact va_Nw.use rfl h4 | skip
    case arrayOver t =>
      cases t with
      | object C => exact va_AO.use h4
      | _ => cases h3
    all_goals cases h3
end
section
/-! locals -/
def fd_as (g : fd_G) (L : List fd_V) : List (Nat × Value) := (List.range L.length).filterMap (fun k => match L[k]? with
  | some v => if v = fd_R 1003 then none else some (k, fd_cv g v)
  | none => none)
theorem fd_as_mem {g : fd_G} {L : List fd_V} {k : Nat} {w : Value} : (k, w) ∈ fd_as g L ↔ ∃ v, L[k]? = some v ∧ v ≠ fd_R 1003 ∧ w = fd_cv g v := by
  unfold fd_as
  rw [List.mem_filterMap]
  constructor
  · rintro ⟨j, -, hj⟩
    cases hv : L[j]? with
    | none => rw [hv] at hj; cases hj
    | some v =>
      rw [hv] at hj
      by_cases h : v = fd_R 1003
      · simp only [h, if_true] at hj; cases hj
      · simp only [if_neg h] at hj
        cases hj
        exact ⟨v, hv, h, rfl⟩
  · rintro ⟨v, hv, h, rfl⟩
    refine ⟨k, List.mem_range.mpr (List.getElem?_eq_some_iff.mp hv).1, ?_⟩
    rw [hv]
    simp only [if_neg h]
def fd_lr (g : fd_G) (la : Array Slot) (nL : Nat) (L : List fd_V) : Prop := L.length = nL ∧ (∀ v ∈ L, fd_cw v = 1) ∧ lv_has la nL (fd_as g L)
theorem fd_lr_get {g : fd_G} {la : Array Slot} {nL k : Nat} {L : List fd_V} {v : fd_V} (h : fd_lr g la nL L) (hk : L[k]? = some v) (hv : v ≠ fd_R 1003) : la[k]? = some (.val (fd_cv g v)) := h.2.2.2.2 (k, fd_cv g v) (fd_as_mem.mpr ⟨v, hk, hv, rfl⟩)
theorem fd_lr_set {g : fd_G} {la la' : Array Slot} {nL k : Nat} {L : List fd_V} {v : fd_V} (h : fd_lr g la nL L) (hk : k < nL) (hv : fd_cw v = 1) (h' : lv_has la' nL ((k, fd_cv g v) :: (fd_as g L).filter (fun q => !(q.1 == k) && !(q.1 + 1 == k && q.2.category == 2)))) : fd_lr g la' nL (L.set k v) := by
  refine ⟨by rw [List.length_set]; exact h.1, fun w hw => ?_, h'.1, h'.2.1, fun q hq => ?_⟩
  · rcases List.mem_or_eq_of_mem_set hw with hw | rfl
    · exact h.2.1 w hw
    · exact hv
  · obtain ⟨j, w⟩ := q
    obtain ⟨x, hx, hne, rfl⟩ := fd_as_mem.mp hq
    refine h'.2.2 _ ?_
    by_cases hj : j = k
    · subst hj
      rw [List.getElem?_set_self (by have := h.1; omega)] at hx
      cases hx
      exact List.mem_cons_self
    · rw [List.getElem?_set_ne (fun q => hj q.symm)] at hx
      refine List.mem_cons_of_mem _ (List.mem_filter.mpr ⟨fd_as_mem.mpr ⟨x, hx, hne, rfl⟩, ?_⟩)
      have h1 : (fd_cv g x).category = 1 := by rw [fd_cat]; exact h.2.1 x (List.mem_of_getElem? hx)
      simp [hj, h1]
/-! inversion -/
theorem fd_pI_inv {st : List fd_V} {F : Int → List fd_V → fd_Rs} {y} (h : fd_pI st F = some y) : ∃ a r, st = .inl a :: r ∧ F a r = some y := by
  unfold fd_pI at h
  split at h
  · exact ⟨_, _, rfl, h⟩
  · cases h
theorem fd_pJ_inv {st : List fd_V} {F : Int → List fd_V → fd_Rs} {y} (h : fd_pJ st F = some y) : ∃ a r, st = .inr (.inl a) :: r ∧ F a r = some y := by
  unfold fd_pJ at h
  split at h
  · exact ⟨_, _, rfl, h⟩
  · cases h
theorem fd_pR_inv {st : List fd_V} {F : Nat → List fd_V → fd_Rs} {y} (h : fd_pR st F = some y) : ∃ a r, st = .inr (.inr a) :: r ∧ F a r = some y := by
  unfold fd_pR at h
  split at h
  · exact ⟨_, _, rfl, h⟩
  · cases h
theorem fd_lI_inv {v : Option fd_V} {F : Int → fd_Rs} {y} (h : fd_lI v F = some y) : ∃ a, v = some (.inl a) ∧ F a = some y := by
  unfold fd_lI at h
  split at h
  · exact ⟨_, rfl, h⟩
  · cases h
theorem fd_lR_inv {v : Option fd_V} {F : Nat → fd_Rs} {y} (h : fd_lR v F = some y) : ∃ a, v = some (.inr (.inr a)) ∧ F a = some y := by
  unfold fd_lR at h
  split at h
  · exact ⟨_, rfl, h⟩
  · cases h
theorem fd_some4 {b : Bool} {x x' y y' : List fd_V} {z z' : fd_M} (h : (some (b, x, y, z) : fd_Rs) = some (true, x', y', z')) : b = true ∧ x = x' ∧ y = y' ∧ z = z' := by
  cases h
  exact ⟨rfl, rfl, rfl, rfl⟩
/-! the rows of the check at a place -/
theorem fd_okL_at {own : String} {b : ByteArray} {ini : Bool} {pcs : List Nat} : ∀ (r : List fd_Ins) (q : List Nat), fd_okL own b ini pcs r q = true → ∀ (i : Nat) (op : Nat) (as : List Int), r[i]? = some (op, as) → ∃ pc, q[i]? = some pc ∧ fd_okI own b ini pcs pc (q.getD (i + 1) 0) op as = true
  | [], [], _, i, op, as, h => by simp at h
  | [], _ :: _, h, _, _, _, _ => by cases h
  | _ :: _, [], h, _, _, _, _ => by cases h
  | (op', as') :: r, pc :: q, h, i, op, as, hi => by
    rw [fd_okL, Bool.and_eq_true] at h
    cases i with
    | zero =>
      cases hi
      exact ⟨pc, rfl, by
        have := h.1
        cases q <;> exact this⟩
    | succ i =>
      obtain ⟨pc', h1, h2⟩ := fd_okL_at r q h.2 i op as hi
      exact ⟨pc', h1, h2⟩
theorem fd_ok_at {mm i op : Nat} {as : List Int} (hm : mm < 177) (hi : (fd_code mm)[i]? = some (op, as)) : ∃ pc, (fd_pcs mm)[i]? = some pc ∧ fd_okI (fd_y mm).cls (fd_b mm) (fd_ini mm) (fd_pcs mm) pc ((fd_pcs mm).getD (i + 1) 0) op as = true := by
  have h := fd_okAll mm hm
  rw [fd_okC, Bool.and_eq_true] at h
  exact fd_okL_at _ _ h.2 i op as hi
theorem fd_okMM {mm : Nat} (hm : mm < 177) : fd_okM mm = true := by
  have h := fd_okAll mm hm
  rw [fd_okC, Bool.and_eq_true] at h
  exact h.1
theorem fd_wd_mem {p : Nat} {w : Jvm.Cond} (h : fd_wd p w = true) (hg : (goodWord w || fd_nest w) = true := by rfl) : w ∈ fd_tbl := fd_mt (List.mem_of_getElem? (of_decide_eq_true h)) hg
theorem fd_wd_memL {p : Nat} {w : Jvm.Cond} (h : fd_wd p w = true) : w ∈ lw_tbl := List.mem_of_getElem? (of_decide_eq_true h)
theorem fd_dc_inv {b : ByteArray} {pc nx : Nat} {I : Instr} {len : Nat} (h : fd_dc b pc nx I len = true) : decode b pc = .ok (I, len) ∧ nx = pc + len := by
  rw [fd_dc, Bool.and_eq_true] at h
  exact ⟨of_decide_eq_true h.1, of_decide_eq_true h.2⟩
theorem fd_nxt {q : List Nat} {j pc len : Nat} (h : q.getD j 0 = pc + len) (hl : 0 < len) : q[j]? = some (pc + len) := by
  rw [List.getD_eq_getElem?_getD] at h
  cases hj : q[j]? with
  | none => rw [hj] at h; simp at h; omega
  | some x => rw [hj] at h; simp at h; rw [h]
/-! what is so of the cells' shapes -/
def fd_shOk (c : Nat) : Bool := decide ((fd_SH c).1 < 20 → (fd_SH c).1 < 11 ∧ (fd_clD (fd_SH c).1).2.2 = (fd_SH c).2) && decide ((fd_SH c).2 < 1000 ∧ ((fd_SH c).1 ≤ 24))
theorem fd_sh_all : (List.range 213).all fd_shOk = true := by decide +kernel
theorem fd_sh_out {c : Nat} (h : 213 ≤ c) : fd_SH c = (99, 0) := by
  unfold fd_SH
  simp only [Bool.cond_eq_ite, Nat.ble_eq]
  repeat (first | rw [if_pos (by omega)])
theorem fd_sh_at {c : Nat} (h : (fd_SH c).1 ≤ 24) : c < 213 ∧ ((fd_SH c).1 < 20 → (fd_SH c).1 < 11 ∧ (fd_clD (fd_SH c).1).2.2 = (fd_SH c).2) ∧ (fd_SH c).2 < 1000 := by
  have hc : c < 213 := by
    rcases Nat.lt_or_ge c 213 with q | q
    · exact q
    · rw [fd_sh_out q] at h
      exact absurd h (by decide)
  have h1 := List.all_eq_true.mp fd_sh_all c (List.mem_range.mpr hc)
  rw [fd_shOk, Bool.and_eq_true] at h1
  exact ⟨hc, of_decide_eq_true h1.1, (of_decide_eq_true h1.2).1⟩
def fd_sl (n : Nat) : Nat := ((List.range n).map (fun c => (fd_SH c).2)).sum
theorem fd_sl_succ (n : Nat) : fd_sl (n + 1) = fd_sl n + (fd_SH n).2 := by
  simp [fd_sl, List.range_succ]
/-- a class by its number -/
theorem fd_clD_get {ci : Nat} (h : ci < 11) : fd_cl[ci]? = some (fd_clD ci) := by
  rcases ci with _ | _ | _ | _ | _ | _ | _ | _ | _ | _ | _ | ci <;> first | rfl | omega
def fd_clOk (ci : Nat) : Bool := (u_ws (fd_clD ci).1 (fd_clD ci).2.1 (fd_clD ci).2.2).all (fun w => decide (w ∈ lw_tbl) && goodWord w) &&
  (decide (.instantiable (fd_clD ci).1 (fd_clD ci).2.2 ∈ lw_tbl ∧ Jvm.Cond.initialized (fd_clD ci).1 ∈ lw_tbl) &&
  decide ((∀ a, a < (fd_clD ci).2.2 → ∀ b, b < (fd_clD ci).2.2 → a ≠ b → ((fd_clD ci).2.1 a).2.1 ≠ ((fd_clD ci).2.1 b).2.1) ∧ ∀ k, k < (fd_clD ci).2.2 → parseFieldDescriptor ((fd_clD ci).2.1 k).2.2.1 = some (fd_ty ci k)))
theorem fd_cl_all : (List.range 11).all fd_clOk = true := by decide +kernel
theorem fd_cl_at {ci : Nat} (h : ci < 11) : (∀ w ∈ u_ws (fd_clD ci).1 (fd_clD ci).2.1 (fd_clD ci).2.2, w ∈ fd_tbl) ∧ Jvm.Cond.instantiable (fd_clD ci).1 (fd_clD ci).2.2 ∈ fd_tbl ∧ Jvm.Cond.initialized (fd_clD ci).1 ∈ fd_tbl ∧ (∀ a, a < (fd_clD ci).2.2 → ∀ b, b < (fd_clD ci).2.2 → a ≠ b → ((fd_clD ci).2.1 a).2.1 ≠ ((fd_clD ci).2.1 b).2.1) ∧ ∀ k, k < (fd_clD ci).2.2 → parseFieldDescriptor ((fd_clD ci).2.1 k).2.2.1 = some (fd_ty ci k) := by
  have h1 := List.all_eq_true.mp fd_cl_all ci (List.mem_range.mpr h)
  rw [fd_clOk, Bool.and_eq_true, Bool.and_eq_true] at h1
  have h2 := of_decide_eq_true h1.2.1
  have h3 := of_decide_eq_true h1.2.2
  exact ⟨fun w hw => by
    have q := List.all_eq_true.mp h1.1 w hw
    rw [Bool.and_eq_true] at q
    exact fd_mt (of_decide_eq_true q.1) (by rw [q.2]; rfl), fd_mt h2.1, fd_mt h2.2, h3.1, h3.2⟩
end
section
section fdK
variable {g : fd_G} {ph : Bool} {p : Program} {l : Launch} {e : Env} {R : Room} {s : State} {m : MethodId} {args : Array Value} {below : List Frame} {meth : Method} {c : Code} {mm a0 i pc : Nat} {Q : State → Prop} {as : List Int} {L L' st st' : List fd_V} {M M' : fd_M} {H : Heap} {locs : List Loc} {la : Array Slot}
def fd_cx (g : fd_G) (p : Program) (R : Room) (s : State) (m : MethodId) (args : Array Value) (meth : Method) (c : Code) (mm : Nat) : Prop :=
  p.tables.exec = Jvm.exec ∧ c.code = fd_b mm ∧ c.maxLocals = fd_mL mm ∧ meth.sig.returnType = fd_r mm ∧ s.vm.findClass (fd_y mm).cls = some m.cls ∧ (∀ w ∈ fd_tbl, w.before args s = true) ∧ meth.locks = false ∧ (fd_ini mm = true → meth.name = "<init>") ∧ fd_Kn g s s.heap ∧ g.1 ≤ s.heap.size ∧ mm < 177 ∧ 5 ≤ R.frames ∧ 200 ≤ R.locals
def fd_Go (g : fd_G) (ph : Bool) (p : Program) (l : Launch) (e : Env) (R : Room) (s : State) (m : MethodId) (args : Array Value) (below : List Frame) (meth : Method) (c : Code) (mm a0 : Nat) (Q : State → Prop) (i : Nat) (L st : List fd_V) (M : fd_M) : Prop :=
  ∀ (pc : Nat) (H : Heap) (locs : List Loc) (la : Array Slot), (fd_pcs mm)[i]? = some pc → fd_hp g ph M H → va_S (fd_A g) s.heap H locs → fd_lr g la (fd_mL mm) L → W p l e R s m args below meth c H locs (fd_ap M - a0) (fd_sl (fd_ap M) - fd_sl a0) Q (F0 m pc la (st.map (fd_cv g)))
theorem fd_k6 (cx : fd_cx g p R s m args meth c mm) (hok : fd_okI (fd_y mm).cls (fd_b mm) (fd_ini mm) (fd_pcs mm) pc ((fd_pcs mm).getD (i + 1) 0) 6 as = true) (hn : fd_nx ph 6 as L st M = some (true, L', st', M')) (kk : fd_Go g ph p l e R s m args below meth c mm a0 Q (i + 1) L' st' M') (hH : fd_hp g ph M H) (hS : va_S (fd_A g) s.heap H locs) (hl : fd_lr g la (fd_mL mm) L) : W p l e R s m args below meth c H locs (fd_ap M - a0) (fd_sl (fd_ap M) - fd_sl a0) Q (F0 m pc la (st.map (fd_cv g))) := by
  obtain ⟨hd, hx⟩ := fd_dc_inv (show fd_dc (fd_b mm) pc _ .iadd 1 = true from hok)
  obtain ⟨b, r, rfl, hn⟩ := fd_pI_inv hn
  obtain ⟨a, r, rfl, hn⟩ := fd_pI_inv hn
  obtain ⟨hg, rfl, rfl, rfl⟩ := fd_some4 hn
  have k1 := kk (pc + 1) H locs la (fd_nxt hx (by decide)) hH hS hl
  refine lv_iadd cx.1 cx.2.1 hd ?_
  rw [← Int32.ofInt_add]
  exact k1
theorem fd_k7 (cx : fd_cx g p R s m args meth c mm) (hok : fd_okI (fd_y mm).cls (fd_b mm) (fd_ini mm) (fd_pcs mm) pc ((fd_pcs mm).getD (i + 1) 0) 7 as = true) (hn : fd_nx ph 7 as L st M = some (true, L', st', M')) (kk : fd_Go g ph p l e R s m args below meth c mm a0 Q (i + 1) L' st' M') (hH : fd_hp g ph M H) (hS : va_S (fd_A g) s.heap H locs) (hl : fd_lr g la (fd_mL mm) L) : W p l e R s m args below meth c H locs (fd_ap M - a0) (fd_sl (fd_ap M) - fd_sl a0) Q (F0 m pc la (st.map (fd_cv g))) := by
  obtain ⟨hd, hx⟩ := fd_dc_inv (show fd_dc (fd_b mm) pc _ .isub 1 = true from hok)
  obtain ⟨b, r, rfl, hn⟩ := fd_pI_inv hn
  obtain ⟨a, r, rfl, hn⟩ := fd_pI_inv hn
  obtain ⟨hg, rfl, rfl, rfl⟩ := fd_some4 hn
  have k1 := kk (pc + 1) H locs la (fd_nxt hx (by decide)) hH hS hl
  refine lv_isub cx.1 cx.2.1 hd ?_
  rw [← Int32.ofInt_sub]
  exact k1
theorem fd_k8 (cx : fd_cx g p R s m args meth c mm) (hok : fd_okI (fd_y mm).cls (fd_b mm) (fd_ini mm) (fd_pcs mm) pc ((fd_pcs mm).getD (i + 1) 0) 8 as = true) (hn : fd_nx ph 8 as L st M = some (true, L', st', M')) (kk : fd_Go g ph p l e R s m args below meth c mm a0 Q (i + 1) L' st' M') (hH : fd_hp g ph M H) (hS : va_S (fd_A g) s.heap H locs) (hl : fd_lr g la (fd_mL mm) L) : W p l e R s m args below meth c H locs (fd_ap M - a0) (fd_sl (fd_ap M) - fd_sl a0) Q (F0 m pc la (st.map (fd_cv g))) := by
  obtain ⟨hd, hx⟩ := fd_dc_inv (show fd_dc (fd_b mm) pc _ .imul 1 = true from hok)
  obtain ⟨b, r, rfl, hn⟩ := fd_pI_inv hn
  obtain ⟨a, r, rfl, hn⟩ := fd_pI_inv hn
  obtain ⟨hg, rfl, rfl, rfl⟩ := fd_some4 hn
  have k1 := kk (pc + 1) H locs la (fd_nxt hx (by decide)) hH hS hl
  refine lv_imul cx.1 cx.2.1 hd ?_
  rw [← Int32.ofInt_mul]
  exact k1
theorem fd_k9 (cx : fd_cx g p R s m args meth c mm) (hok : fd_okI (fd_y mm).cls (fd_b mm) (fd_ini mm) (fd_pcs mm) pc ((fd_pcs mm).getD (i + 1) 0) 9 as = true) (hn : fd_nx ph 9 as L st M = some (true, L', st', M')) (kk : fd_Go g ph p l e R s m args below meth c mm a0 Q (i + 1) L' st' M') (hH : fd_hp g ph M H) (hS : va_S (fd_A g) s.heap H locs) (hl : fd_lr g la (fd_mL mm) L) : W p l e R s m args below meth c H locs (fd_ap M - a0) (fd_sl (fd_ap M) - fd_sl a0) Q (F0 m pc la (st.map (fd_cv g))) := by
  obtain ⟨hd, hx⟩ := fd_dc_inv (show fd_dc (fd_b mm) pc _ .idiv 1 = true from hok)
  obtain ⟨b, r, rfl, hn⟩ := fd_pI_inv hn
  obtain ⟨a, r, rfl, hn⟩ := fd_pI_inv hn
  obtain ⟨hg, rfl, rfl, rfl⟩ := fd_some4 hn
  have k1 := kk (pc + 1) H locs la (fd_nxt hx (by decide)) hH hS hl
  rw [Bool.and_eq_true, fd_inb_iff, fd_inb_iff] at hg
  obtain ⟨e1, e2, e3⟩ := fd_divI hg.1 hg.2
  refine lv_idiv cx.1 cx.2.1 hd e3 ?_
  rw [e1]
  exact k1
theorem fd_k10 (cx : fd_cx g p R s m args meth c mm) (hok : fd_okI (fd_y mm).cls (fd_b mm) (fd_ini mm) (fd_pcs mm) pc ((fd_pcs mm).getD (i + 1) 0) 10 as = true) (hn : fd_nx ph 10 as L st M = some (true, L', st', M')) (kk : fd_Go g ph p l e R s m args below meth c mm a0 Q (i + 1) L' st' M') (hH : fd_hp g ph M H) (hS : va_S (fd_A g) s.heap H locs) (hl : fd_lr g la (fd_mL mm) L) : W p l e R s m args below meth c H locs (fd_ap M - a0) (fd_sl (fd_ap M) - fd_sl a0) Q (F0 m pc la (st.map (fd_cv g))) := by
  obtain ⟨hd, hx⟩ := fd_dc_inv (show fd_dc (fd_b mm) pc _ .irem 1 = true from hok)
  obtain ⟨b, r, rfl, hn⟩ := fd_pI_inv hn
  obtain ⟨a, r, rfl, hn⟩ := fd_pI_inv hn
  obtain ⟨hg, rfl, rfl, rfl⟩ := fd_some4 hn
  have k1 := kk (pc + 1) H locs la (fd_nxt hx (by decide)) hH hS hl
  rw [Bool.and_eq_true, fd_inb_iff, fd_inb_iff] at hg
  obtain ⟨e1, e2, e3⟩ := fd_divI hg.1 hg.2
  refine lv_irem cx.1 cx.2.1 hd e3 ?_
  rw [e2]
  exact k1
theorem fd_k11 (cx : fd_cx g p R s m args meth c mm) (hok : fd_okI (fd_y mm).cls (fd_b mm) (fd_ini mm) (fd_pcs mm) pc ((fd_pcs mm).getD (i + 1) 0) 11 as = true) (hn : fd_nx ph 11 as L st M = some (true, L', st', M')) (kk : fd_Go g ph p l e R s m args below meth c mm a0 Q (i + 1) L' st' M') (hH : fd_hp g ph M H) (hS : va_S (fd_A g) s.heap H locs) (hl : fd_lr g la (fd_mL mm) L) : W p l e R s m args below meth c H locs (fd_ap M - a0) (fd_sl (fd_ap M) - fd_sl a0) Q (F0 m pc la (st.map (fd_cv g))) := by
  obtain ⟨hd, hx⟩ := fd_dc_inv (show fd_dc (fd_b mm) pc _ .iand 1 = true from hok)
  obtain ⟨b, r, rfl, hn⟩ := fd_pI_inv hn
  obtain ⟨a, r, rfl, hn⟩ := fd_pI_inv hn
  obtain ⟨hg, rfl, rfl, rfl⟩ := fd_some4 hn
  have k1 := kk (pc + 1) H locs la (fd_nxt hx (by decide)) hH hS hl
  refine lv_iand cx.1 cx.2.1 hd ?_
  have e1 : Int32.ofInt (fd_and a b) = _ := Int32.ofInt_toInt _
  rw [← e1]
  exact k1
theorem fd_k12 (cx : fd_cx g p R s m args meth c mm) (hok : fd_okI (fd_y mm).cls (fd_b mm) (fd_ini mm) (fd_pcs mm) pc ((fd_pcs mm).getD (i + 1) 0) 12 as = true) (hn : fd_nx ph 12 as L st M = some (true, L', st', M')) (kk : fd_Go g ph p l e R s m args below meth c mm a0 Q (i + 1) L' st' M') (hH : fd_hp g ph M H) (hS : va_S (fd_A g) s.heap H locs) (hl : fd_lr g la (fd_mL mm) L) : W p l e R s m args below meth c H locs (fd_ap M - a0) (fd_sl (fd_ap M) - fd_sl a0) Q (F0 m pc la (st.map (fd_cv g))) := by
  obtain ⟨hd, hx⟩ := fd_dc_inv (show fd_dc (fd_b mm) pc _ .ior 1 = true from hok)
  obtain ⟨b, r, rfl, hn⟩ := fd_pI_inv hn
  obtain ⟨a, r, rfl, hn⟩ := fd_pI_inv hn
  obtain ⟨hg, rfl, rfl, rfl⟩ := fd_some4 hn
  have k1 := kk (pc + 1) H locs la (fd_nxt hx (by decide)) hH hS hl
  refine lv_ior cx.1 cx.2.1 hd ?_
  have e1 : Int32.ofInt (fd_or a b) = _ := Int32.ofInt_toInt _
  rw [← e1]
  exact k1
theorem fd_k13 (cx : fd_cx g p R s m args meth c mm) (hok : fd_okI (fd_y mm).cls (fd_b mm) (fd_ini mm) (fd_pcs mm) pc ((fd_pcs mm).getD (i + 1) 0) 13 as = true) (hn : fd_nx ph 13 as L st M = some (true, L', st', M')) (kk : fd_Go g ph p l e R s m args below meth c mm a0 Q (i + 1) L' st' M') (hH : fd_hp g ph M H) (hS : va_S (fd_A g) s.heap H locs) (hl : fd_lr g la (fd_mL mm) L) : W p l e R s m args below meth c H locs (fd_ap M - a0) (fd_sl (fd_ap M) - fd_sl a0) Q (F0 m pc la (st.map (fd_cv g))) := by
  obtain ⟨hd, hx⟩ := fd_dc_inv (show fd_dc (fd_b mm) pc _ .ixor 1 = true from hok)
  obtain ⟨b, r, rfl, hn⟩ := fd_pI_inv hn
  obtain ⟨a, r, rfl, hn⟩ := fd_pI_inv hn
  obtain ⟨hg, rfl, rfl, rfl⟩ := fd_some4 hn
  have k1 := kk (pc + 1) H locs la (fd_nxt hx (by decide)) hH hS hl
  refine lv_ixor cx.1 cx.2.1 hd ?_
  have e1 : Int32.ofInt (fd_xor a b) = _ := Int32.ofInt_toInt _
  rw [← e1]
  exact k1
theorem fd_k14 (cx : fd_cx g p R s m args meth c mm) (hok : fd_okI (fd_y mm).cls (fd_b mm) (fd_ini mm) (fd_pcs mm) pc ((fd_pcs mm).getD (i + 1) 0) 14 as = true) (hn : fd_nx ph 14 as L st M = some (true, L', st', M')) (kk : fd_Go g ph p l e R s m args below meth c mm a0 Q (i + 1) L' st' M') (hH : fd_hp g ph M H) (hS : va_S (fd_A g) s.heap H locs) (hl : fd_lr g la (fd_mL mm) L) : W p l e R s m args below meth c H locs (fd_ap M - a0) (fd_sl (fd_ap M) - fd_sl a0) Q (F0 m pc la (st.map (fd_cv g))) := by
  obtain ⟨hd, hx⟩ := fd_dc_inv (show fd_dc (fd_b mm) pc _ .ishl 1 = true from hok)
  obtain ⟨b, r, rfl, hn⟩ := fd_pI_inv hn
  obtain ⟨a, r, rfl, hn⟩ := fd_pI_inv hn
  obtain ⟨hg, rfl, rfl, rfl⟩ := fd_some4 hn
  have k1 := kk (pc + 1) H locs la (fd_nxt hx (by decide)) hH hS hl
  rw [Bool.and_eq_true, fd_inb_iff] at hg
  obtain ⟨h1, h2⟩ := hg
  have h1 := of_decide_eq_true h1
  subst h1
  obtain ⟨n, rfl⟩ := Int.eq_ofNat_of_zero_le h2.1
  refine lv_ishl cx.1 cx.2.1 hd ?_
  have e1 := fd_shl1 n (by omega)
  rw [fd_oi, show Int32.ofInt 1 = (1 : Int32) from rfl, e1]
  exact k1
theorem fd_k15 (cx : fd_cx g p R s m args meth c mm) (hok : fd_okI (fd_y mm).cls (fd_b mm) (fd_ini mm) (fd_pcs mm) pc ((fd_pcs mm).getD (i + 1) 0) 15 as = true) (hn : fd_nx ph 15 as L st M = some (true, L', st', M')) (kk : fd_Go g ph p l e R s m args below meth c mm a0 Q (i + 1) L' st' M') (hH : fd_hp g ph M H) (hS : va_S (fd_A g) s.heap H locs) (hl : fd_lr g la (fd_mL mm) L) : W p l e R s m args below meth c H locs (fd_ap M - a0) (fd_sl (fd_ap M) - fd_sl a0) Q (F0 m pc la (st.map (fd_cv g))) := by
  obtain ⟨hd, hx⟩ := fd_dc_inv (show fd_dc (fd_b mm) pc _ .ishr 1 = true from hok)
  obtain ⟨b, r, rfl, hn⟩ := fd_pI_inv hn
  obtain ⟨a, r, rfl, hn⟩ := fd_pI_inv hn
  obtain ⟨hg, rfl, rfl, rfl⟩ := fd_some4 hn
  have k1 := kk (pc + 1) H locs la (fd_nxt hx (by decide)) hH hS hl
  rw [Bool.and_eq_true, fd_inb_iff, fd_inb_iff] at hg
  obtain ⟨e1, e2⟩ := fd_shrI hg.1 hg.2
  refine lv_ishr cx.1 cx.2.1 hd ?_
  rw [e1]
  exact k1
theorem fd_k16 (cx : fd_cx g p R s m args meth c mm) (hok : fd_okI (fd_y mm).cls (fd_b mm) (fd_ini mm) (fd_pcs mm) pc ((fd_pcs mm).getD (i + 1) 0) 16 as = true) (hn : fd_nx ph 16 as L st M = some (true, L', st', M')) (kk : fd_Go g ph p l e R s m args below meth c mm a0 Q (i + 1) L' st' M') (hH : fd_hp g ph M H) (hS : va_S (fd_A g) s.heap H locs) (hl : fd_lr g la (fd_mL mm) L) : W p l e R s m args below meth c H locs (fd_ap M - a0) (fd_sl (fd_ap M) - fd_sl a0) Q (F0 m pc la (st.map (fd_cv g))) := by
  obtain ⟨hd, hx⟩ := fd_dc_inv (show fd_dc (fd_b mm) pc _ .iushr 1 = true from hok)
  obtain ⟨b, r, rfl, hn⟩ := fd_pI_inv hn
  obtain ⟨a, r, rfl, hn⟩ := fd_pI_inv hn
  obtain ⟨hg, rfl, rfl, rfl⟩ := fd_some4 hn
  have k1 := kk (pc + 1) H locs la (fd_nxt hx (by decide)) hH hS hl
  rw [Bool.and_eq_true, fd_inb_iff, fd_inb_iff] at hg
  obtain ⟨e1, e2⟩ := fd_shrI hg.1 hg.2
  exact lv_iushr cx.1 cx.2.1 hd e2 k1
theorem fd_k18 (cx : fd_cx g p R s m args meth c mm) (hok : fd_okI (fd_y mm).cls (fd_b mm) (fd_ini mm) (fd_pcs mm) pc ((fd_pcs mm).getD (i + 1) 0) 18 as = true) (hn : fd_nx ph 18 as L st M = some (true, L', st', M')) (kk : fd_Go g ph p l e R s m args below meth c mm a0 Q (i + 1) L' st' M') (hH : fd_hp g ph M H) (hS : va_S (fd_A g) s.heap H locs) (hl : fd_lr g la (fd_mL mm) L) : W p l e R s m args below meth c H locs (fd_ap M - a0) (fd_sl (fd_ap M) - fd_sl a0) Q (F0 m pc la (st.map (fd_cv g))) := by
  obtain ⟨hd, hx⟩ := fd_dc_inv (show fd_dc (fd_b mm) pc _ .ladd 1 = true from hok)
  obtain ⟨b, r, rfl, hn⟩ := fd_pJ_inv hn
  obtain ⟨a, r, rfl, hn⟩ := fd_pJ_inv hn
  obtain ⟨hg, rfl, rfl, rfl⟩ := fd_some4 hn
  have k1 := kk (pc + 1) H locs la (fd_nxt hx (by decide)) hH hS hl
  refine lv_ladd cx.1 cx.2.1 hd ?_
  rw [← Int64.ofInt_add]
  exact k1
theorem fd_k19 (cx : fd_cx g p R s m args meth c mm) (hok : fd_okI (fd_y mm).cls (fd_b mm) (fd_ini mm) (fd_pcs mm) pc ((fd_pcs mm).getD (i + 1) 0) 19 as = true) (hn : fd_nx ph 19 as L st M = some (true, L', st', M')) (kk : fd_Go g ph p l e R s m args below meth c mm a0 Q (i + 1) L' st' M') (hH : fd_hp g ph M H) (hS : va_S (fd_A g) s.heap H locs) (hl : fd_lr g la (fd_mL mm) L) : W p l e R s m args below meth c H locs (fd_ap M - a0) (fd_sl (fd_ap M) - fd_sl a0) Q (F0 m pc la (st.map (fd_cv g))) := by
  obtain ⟨hd, hx⟩ := fd_dc_inv (show fd_dc (fd_b mm) pc _ .lxor 1 = true from hok)
  obtain ⟨b, r, rfl, hn⟩ := fd_pJ_inv hn
  obtain ⟨a, r, rfl, hn⟩ := fd_pJ_inv hn
  obtain ⟨hg, rfl, rfl, rfl⟩ := fd_some4 hn
  have k1 := kk (pc + 1) H locs la (fd_nxt hx (by decide)) hH hS hl
  refine lv_lxor cx.1 cx.2.1 hd ?_
  have e1 : Int64.ofInt (fd_lxor a b) = _ := Int64.ofInt_toInt _
  rw [← e1]
  exact k1
theorem fd_k20 (cx : fd_cx g p R s m args meth c mm) (hok : fd_okI (fd_y mm).cls (fd_b mm) (fd_ini mm) (fd_pcs mm) pc ((fd_pcs mm).getD (i + 1) 0) 20 as = true) (hn : fd_nx ph 20 as L st M = some (true, L', st', M')) (kk : fd_Go g ph p l e R s m args below meth c mm a0 Q (i + 1) L' st' M') (hH : fd_hp g ph M H) (hS : va_S (fd_A g) s.heap H locs) (hl : fd_lr g la (fd_mL mm) L) : W p l e R s m args below meth c H locs (fd_ap M - a0) (fd_sl (fd_ap M) - fd_sl a0) Q (F0 m pc la (st.map (fd_cv g))) := by
  obtain ⟨hd, hx⟩ := fd_dc_inv (show fd_dc (fd_b mm) pc _ .land 1 = true from hok)
  obtain ⟨b, r, rfl, hn⟩ := fd_pJ_inv hn
  obtain ⟨a, r, rfl, hn⟩ := fd_pJ_inv hn
  obtain ⟨hg, rfl, rfl, rfl⟩ := fd_some4 hn
  have k1 := kk (pc + 1) H locs la (fd_nxt hx (by decide)) hH hS hl
  refine lv_land cx.1 cx.2.1 hd ?_
  have e1 : Int64.ofInt (fd_land a b) = _ := Int64.ofInt_toInt _
  rw [← e1]
  exact k1
theorem fd_k22 (cx : fd_cx g p R s m args meth c mm) (hok : fd_okI (fd_y mm).cls (fd_b mm) (fd_ini mm) (fd_pcs mm) pc ((fd_pcs mm).getD (i + 1) 0) 22 as = true) (hn : fd_nx ph 22 as L st M = some (true, L', st', M')) (kk : fd_Go g ph p l e R s m args below meth c mm a0 Q (i + 1) L' st' M') (hH : fd_hp g ph M H) (hS : va_S (fd_A g) s.heap H locs) (hl : fd_lr g la (fd_mL mm) L) : W p l e R s m args below meth c H locs (fd_ap M - a0) (fd_sl (fd_ap M) - fd_sl a0) Q (F0 m pc la (st.map (fd_cv g))) := by
  obtain ⟨hd, hx⟩ := fd_dc_inv (show fd_dc (fd_b mm) pc _ .lcmp 1 = true from hok)
  obtain ⟨b, r, rfl, hn⟩ := fd_pJ_inv hn
  obtain ⟨a, r, rfl, hn⟩ := fd_pJ_inv hn
  obtain ⟨hg, rfl, rfl, rfl⟩ := fd_some4 hn
  have k1 := kk (pc + 1) H locs la (fd_nxt hx (by decide)) hH hS hl
  refine W.lcmp cx.1 cx.2.1 hd ?_
  have e1 : Int32.ofInt (fd_lcmp a b) = _ := Int32.ofInt_toInt _
  rw [← e1]
  exact k1
theorem fd_k21 (cx : fd_cx g p R s m args meth c mm) (hok : fd_okI (fd_y mm).cls (fd_b mm) (fd_ini mm) (fd_pcs mm) pc ((fd_pcs mm).getD (i + 1) 0) 21 as = true) (hn : fd_nx ph 21 as L st M = some (true, L', st', M')) (kk : fd_Go g ph p l e R s m args below meth c mm a0 Q (i + 1) L' st' M') (hH : fd_hp g ph M H) (hS : va_S (fd_A g) s.heap H locs) (hl : fd_lr g la (fd_mL mm) L) : W p l e R s m args below meth c H locs (fd_ap M - a0) (fd_sl (fd_ap M) - fd_sl a0) Q (F0 m pc la (st.map (fd_cv g))) := by
  obtain ⟨hd, hx⟩ := fd_dc_inv (show fd_dc (fd_b mm) pc _ .lshl 1 = true from hok)
  obtain ⟨b, r, rfl, hn⟩ := fd_pI_inv hn
  obtain ⟨a, r, rfl, hn⟩ := fd_pJ_inv hn
  obtain ⟨hg, rfl, rfl, rfl⟩ := fd_some4 hn
  have k1 := kk (pc + 1) H locs la (fd_nxt hx (by decide)) hH hS hl
  rw [Bool.and_eq_true, fd_inb_iff] at hg
  obtain ⟨h1, h2⟩ := hg
  have h1 := of_decide_eq_true h1
  subst h1
  obtain ⟨n, rfl⟩ := Int.eq_ofNat_of_zero_le h2.1
  refine lv_lshl (v := Int64.ofInt (2 ^ n)) cx.1 cx.2.1 hd ?_ k1
  rw [fd_oi, show Int64.ofInt 1 = (1 : Int64) from rfl]
  exact fd_lshl1 n (by omega)
theorem fd_k45 (cx : fd_cx g p R s m args meth c mm) (hok : fd_okI (fd_y mm).cls (fd_b mm) (fd_ini mm) (fd_pcs mm) pc ((fd_pcs mm).getD (i + 1) 0) 45 as = true) (hn : fd_nx ph 45 as L st M = some (true, L', st', M')) (kk : fd_Go g ph p l e R s m args below meth c mm a0 Q (i + 1) L' st' M') (hH : fd_hp g ph M H) (hS : va_S (fd_A g) s.heap H locs) (hl : fd_lr g la (fd_mL mm) L) : W p l e R s m args below meth c H locs (fd_ap M - a0) (fd_sl (fd_ap M) - fd_sl a0) Q (F0 m pc la (st.map (fd_cv g))) := by
  obtain ⟨hd, hx⟩ := fd_dc_inv (show fd_dc (fd_b mm) pc _ .lshr 1 = true from hok)
  obtain ⟨b, r, rfl, hn⟩ := fd_pI_inv hn
  obtain ⟨a, r, rfl, hn⟩ := fd_pJ_inv hn
  obtain ⟨hg, rfl, rfl, rfl⟩ := fd_some4 hn
  have k1 := kk (pc + 1) H locs la (fd_nxt hx (by decide)) hH hS hl
  rw [Bool.and_eq_true, fd_inb_iff, fd_inb_iff] at hg
  exact lv_lshr (v := Int64.ofInt (a / 2 ^ b.toNat)) cx.1 cx.2.1 hd (fd_lshrJ hg.1 hg.2) k1
theorem fd_k23 (cx : fd_cx g p R s m args meth c mm) (hok : fd_okI (fd_y mm).cls (fd_b mm) (fd_ini mm) (fd_pcs mm) pc ((fd_pcs mm).getD (i + 1) 0) 23 as = true) (hn : fd_nx ph 23 as L st M = some (true, L', st', M')) (kk : fd_Go g ph p l e R s m args below meth c mm a0 Q (i + 1) L' st' M') (hH : fd_hp g ph M H) (hS : va_S (fd_A g) s.heap H locs) (hl : fd_lr g la (fd_mL mm) L) : W p l e R s m args below meth c H locs (fd_ap M - a0) (fd_sl (fd_ap M) - fd_sl a0) Q (F0 m pc la (st.map (fd_cv g))) := by
  obtain ⟨hd, hx⟩ := fd_dc_inv (show fd_dc (fd_b mm) pc _ .i2b 1 = true from hok)
  obtain ⟨a, r, rfl, hn⟩ := fd_pI_inv hn
  obtain ⟨hg, rfl, rfl, rfl⟩ := fd_some4 hn
  exact lv_i2b cx.1 cx.2.1 hd (Int32.ofInt_toInt _).symm (kk (pc + 1) H locs la (fd_nxt hx (by decide)) hH hS hl)
theorem fd_k24 (cx : fd_cx g p R s m args meth c mm) (hok : fd_okI (fd_y mm).cls (fd_b mm) (fd_ini mm) (fd_pcs mm) pc ((fd_pcs mm).getD (i + 1) 0) 24 as = true) (hn : fd_nx ph 24 as L st M = some (true, L', st', M')) (kk : fd_Go g ph p l e R s m args below meth c mm a0 Q (i + 1) L' st' M') (hH : fd_hp g ph M H) (hS : va_S (fd_A g) s.heap H locs) (hl : fd_lr g la (fd_mL mm) L) : W p l e R s m args below meth c H locs (fd_ap M - a0) (fd_sl (fd_ap M) - fd_sl a0) Q (F0 m pc la (st.map (fd_cv g))) := by
  obtain ⟨hd, hx⟩ := fd_dc_inv (show fd_dc (fd_b mm) pc _ .dup 1 = true from hok)
  rcases st with _ | ⟨⟨a⟩ | ⟨a⟩ | ⟨a⟩, r⟩
  · cases hn
  · obtain ⟨hg, rfl, rfl, rfl⟩ := fd_some4 hn
    exact lv_dup cx.1 cx.2.1 hd rfl (kk (pc + 1) H locs la (fd_nxt hx (by decide)) hH hS hl)
  · cases hn
  · obtain ⟨hg, rfl, rfl, rfl⟩ := fd_some4 hn
    exact lv_dup cx.1 cx.2.1 hd (fd_cat g (fd_R a)) (kk (pc + 1) H locs la (fd_nxt hx (by decide)) hH hS hl)
theorem fd_k25 (cx : fd_cx g p R s m args meth c mm) (hok : fd_okI (fd_y mm).cls (fd_b mm) (fd_ini mm) (fd_pcs mm) pc ((fd_pcs mm).getD (i + 1) 0) 25 as = true) (hn : fd_nx ph 25 as L st M = some (true, L', st', M')) (kk : fd_Go g ph p l e R s m args below meth c mm a0 Q (i + 1) L' st' M') (hH : fd_hp g ph M H) (hS : va_S (fd_A g) s.heap H locs) (hl : fd_lr g la (fd_mL mm) L) : W p l e R s m args below meth c H locs (fd_ap M - a0) (fd_sl (fd_ap M) - fd_sl a0) Q (F0 m pc la (st.map (fd_cv g))) := by
  obtain ⟨hd, hx⟩ := fd_dc_inv (show fd_dc (fd_b mm) pc _ .dup2 1 = true from hok)
  obtain ⟨b, r, rfl, hn⟩ := fd_pI_inv hn
  obtain ⟨a, r, rfl, hn⟩ := fd_pR_inv hn
  obtain ⟨hg, rfl, rfl, rfl⟩ := fd_some4 hn
  exact lv_dup2_11 cx.1 cx.2.1 hd rfl (fd_cat g (fd_R a)) (kk (pc + 1) H locs la (fd_nxt hx (by decide)) hH hS hl)
theorem fd_k26 (cx : fd_cx g p R s m args meth c mm) (hok : fd_okI (fd_y mm).cls (fd_b mm) (fd_ini mm) (fd_pcs mm) pc ((fd_pcs mm).getD (i + 1) 0) 26 as = true) (hn : fd_nx ph 26 as L st M = some (true, L', st', M')) (kk : fd_Go g ph p l e R s m args below meth c mm a0 Q (i + 1) L' st' M') (hH : fd_hp g ph M H) (hS : va_S (fd_A g) s.heap H locs) (hl : fd_lr g la (fd_mL mm) L) : W p l e R s m args below meth c H locs (fd_ap M - a0) (fd_sl (fd_ap M) - fd_sl a0) Q (F0 m pc la (st.map (fd_cv g))) := by
  obtain ⟨hd, hx⟩ := fd_dc_inv (show fd_dc (fd_b mm) pc _ .pop 1 = true from hok)
  obtain ⟨b, r, rfl, hn⟩ := fd_pI_inv hn
  obtain ⟨hg, rfl, rfl, rfl⟩ := fd_some4 hn
  exact lv_pop cx.1 cx.2.1 hd rfl (kk (pc + 1) H locs la (fd_nxt hx (by decide)) hH hS hl)
theorem fd_k0 (cx : fd_cx g p R s m args meth c mm) (hok : fd_okI (fd_y mm).cls (fd_b mm) (fd_ini mm) (fd_pcs mm) pc ((fd_pcs mm).getD (i + 1) 0) 0 as = true) (hn : fd_nx ph 0 as L st M = some (true, L', st', M')) (kk : fd_Go g ph p l e R s m args below meth c mm a0 Q (i + 1) L' st' M') (hH : fd_hp g ph M H) (hS : va_S (fd_A g) s.heap H locs) (hl : fd_lr g la (fd_mL mm) L) : W p l e R s m args below meth c H locs (fd_ap M - a0) (fd_sl (fd_ap M) - fd_sl a0) Q (F0 m pc la (st.map (fd_cv g))) := by
  obtain ⟨-, rfl, rfl, rfl⟩ := fd_some4 hn
  rw [fd_okI] at hok
  split at hok
  · obtain ⟨hd, hx⟩ := fd_dc_inv hok
    exact lv_iconst cx.1 cx.2.1 hd rfl (kk (pc + 1) H locs la (fd_nxt hx (by decide)) hH hS hl)
  · rw [Bool.and_eq_true] at hok
    obtain ⟨hd, hx⟩ := fd_dc_inv hok.1
    exact lv_bipush cx.1 cx.2.1 hd (of_decide_eq_true hok.2) (kk (pc + 2) H locs la (fd_nxt hx (by decide)) hH hS hl)
  · rw [Bool.and_eq_true] at hok
    obtain ⟨hd, hx⟩ := fd_dc_inv hok.1
    exact lv_sipush cx.1 cx.2.1 hd (of_decide_eq_true hok.2) (kk (pc + 3) H locs la (fd_nxt hx (by decide)) hH hS hl)
  · rw [Bool.and_eq_true] at hok
    obtain ⟨hd, hx⟩ := fd_dc_inv hok.1
    exact lv_ldc cx.1 cx.2.1 cx.2.2.2.2.1 (cx.2.2.2.2.2.1 _ (fd_wd_mem hok.2)) hd (kk (pc + 2) H locs la (fd_nxt hx (by decide)) hH hS hl)
  · rw [Bool.and_eq_true] at hok
    obtain ⟨hd, hx⟩ := fd_dc_inv hok.1
    exact lv_ldcw cx.1 cx.2.1 cx.2.2.2.2.1 (cx.2.2.2.2.2.1 _ (fd_wd_mem hok.2)) hd (kk (pc + 3) H locs la (fd_nxt hx (by decide)) hH hS hl)
theorem fd_k17 (cx : fd_cx g p R s m args meth c mm) (hok : fd_okI (fd_y mm).cls (fd_b mm) (fd_ini mm) (fd_pcs mm) pc ((fd_pcs mm).getD (i + 1) 0) 17 as = true) (hn : fd_nx ph 17 as L st M = some (true, L', st', M')) (kk : fd_Go g ph p l e R s m args below meth c mm a0 Q (i + 1) L' st' M') (hH : fd_hp g ph M H) (hS : va_S (fd_A g) s.heap H locs) (hl : fd_lr g la (fd_mL mm) L) : W p l e R s m args below meth c H locs (fd_ap M - a0) (fd_sl (fd_ap M) - fd_sl a0) Q (F0 m pc la (st.map (fd_cv g))) := by
  obtain ⟨-, rfl, rfl, rfl⟩ := fd_some4 hn
  rw [fd_okI] at hok
  split at hok
  · split at hok
    · rename_i h0
      obtain ⟨hd, hx⟩ := fd_dc_inv hok
      have k1 := kk (pc + 1) H locs la (fd_nxt hx (by decide)) hH hS hl
      rw [h0] at k1
      exact lv_lconst cx.1 cx.2.1 hd rfl k1
    · rw [Bool.and_eq_true] at hok
      obtain ⟨hd, hx⟩ := fd_dc_inv hok.2
      have k1 := kk (pc + 1) H locs la (fd_nxt hx (by decide)) hH hS hl
      rw [of_decide_eq_true hok.1] at k1
      exact lv_lconst cx.1 cx.2.1 hd rfl k1
  · rw [Bool.and_eq_true] at hok
    obtain ⟨hd, hx⟩ := fd_dc_inv hok.1
    exact lv_ldc2 cx.1 cx.2.1 cx.2.2.2.2.1 (cx.2.2.2.2.2.1 _ (fd_wd_mem hok.2)) hd (kk (pc + 3) H locs la (fd_nxt hx (by decide)) hH hS hl)
theorem fd_k1 (cx : fd_cx g p R s m args meth c mm) (hok : fd_okI (fd_y mm).cls (fd_b mm) (fd_ini mm) (fd_pcs mm) pc ((fd_pcs mm).getD (i + 1) 0) 1 as = true) (hn : fd_nx ph 1 as L st M = some (true, L', st', M')) (kk : fd_Go g ph p l e R s m args below meth c mm a0 Q (i + 1) L' st' M') (hH : fd_hp g ph M H) (hS : va_S (fd_A g) s.heap H locs) (hl : fd_lr g la (fd_mL mm) L) : W p l e R s m args below meth c H locs (fd_ap M - a0) (fd_sl (fd_ap M) - fd_sl a0) Q (F0 m pc la (st.map (fd_cv g))) := by
  obtain ⟨a, ha, hn⟩ := fd_lI_inv hn
  obtain ⟨hg, rfl, rfl, rfl⟩ := fd_some4 hn
  have hv := fd_lr_get hl ha (by intro q; cases q)
  rw [fd_okI] at hok
  split at hok
  · rw [Bool.and_eq_true] at hok
    have h4 := of_decide_eq_true hok.1
    obtain ⟨hd, hx⟩ := fd_dc_inv hok.2
    have k1 := kk (pc + 1) H locs la (fd_nxt hx (by decide)) hH hS hl
    exact lv_iload_n cx.1 cx.2.1 hd (show (fd_f4 (fd_n as 0)).val = fd_n as 0 from Nat.mod_eq_of_lt h4) hv k1
  · obtain ⟨hd, hx⟩ := fd_dc_inv hok
    have k1 := kk (pc + 2) H locs la (fd_nxt hx (by decide)) hH hS hl
    exact lv_iload cx.1 cx.2.1 hd hv k1
theorem fd_k2 (cx : fd_cx g p R s m args meth c mm) (hok : fd_okI (fd_y mm).cls (fd_b mm) (fd_ini mm) (fd_pcs mm) pc ((fd_pcs mm).getD (i + 1) 0) 2 as = true) (hn : fd_nx ph 2 as L st M = some (true, L', st', M')) (kk : fd_Go g ph p l e R s m args below meth c mm a0 Q (i + 1) L' st' M') (hH : fd_hp g ph M H) (hS : va_S (fd_A g) s.heap H locs) (hl : fd_lr g la (fd_mL mm) L) : W p l e R s m args below meth c H locs (fd_ap M - a0) (fd_sl (fd_ap M) - fd_sl a0) Q (F0 m pc la (st.map (fd_cv g))) := by
  obtain ⟨a, ha, hn⟩ := fd_lR_inv hn
  obtain ⟨hg, rfl, rfl, rfl⟩ := fd_some4 hn
  have ha3 : a < 1000 := by simpa using hg
  have hv := fd_lr_get hl ha (by intro q; cases q; omega)
  have ev : fd_cv g (fd_R a) = .ref (g.1 + a) := fd_rv_lt ha3
  rw [ev] at hv
  rw [fd_okI] at hok
  split at hok
  · rw [Bool.and_eq_true] at hok
    have h4 := of_decide_eq_true hok.1
    obtain ⟨hd, hx⟩ := fd_dc_inv hok.2
    have k1 := kk (pc + 1) H locs la (fd_nxt hx (by decide)) hH hS hl
    rw [List.map_cons, ev] at k1
    exact lv_aload_n cx.1 cx.2.1 hd (show (fd_f4 (fd_n as 0)).val = fd_n as 0 from Nat.mod_eq_of_lt h4) hv k1
  · obtain ⟨hd, hx⟩ := fd_dc_inv hok
    have k1 := kk (pc + 2) H locs la (fd_nxt hx (by decide)) hH hS hl
    rw [List.map_cons, ev] at k1
    exact lv_aload cx.1 cx.2.1 hd hv k1
theorem fd_k3 (cx : fd_cx g p R s m args meth c mm) (hok : fd_okI (fd_y mm).cls (fd_b mm) (fd_ini mm) (fd_pcs mm) pc ((fd_pcs mm).getD (i + 1) 0) 3 as = true) (hn : fd_nx ph 3 as L st M = some (true, L', st', M')) (kk : fd_Go g ph p l e R s m args below meth c mm a0 Q (i + 1) L' st' M') (hH : fd_hp g ph M H) (hS : va_S (fd_A g) s.heap H locs) (hl : fd_lr g la (fd_mL mm) L) : W p l e R s m args below meth c H locs (fd_ap M - a0) (fd_sl (fd_ap M) - fd_sl a0) Q (F0 m pc la (st.map (fd_cv g))) := by
  obtain ⟨a, r, rfl, hn⟩ := fd_pI_inv hn
  obtain ⟨hg, rfl, rfl, rfl⟩ := fd_some4 hn
  have hk : fd_n as 0 < fd_mL mm := by rw [← hl.1]; simpa using hg
  rw [fd_okI] at hok
  split at hok
  · rw [Bool.and_eq_true] at hok
    have h4 := of_decide_eq_true hok.1
    obtain ⟨hd, hx⟩ := fd_dc_inv hok.2
    exact lv_istore_n cx.1 cx.2.1 hd (show (fd_f4 (fd_n as 0)).val = fd_n as 0 from Nat.mod_eq_of_lt h4) hl.2.2 hk rfl (fun la1 h1 => kk (pc + 1) H locs la1 (fd_nxt hx (by decide)) hH hS (fd_lr_set hl hk rfl h1))
  · obtain ⟨hd, hx⟩ := fd_dc_inv hok
    exact lv_istore cx.1 cx.2.1 hd hl.2.2 hk rfl (fun la1 h1 => kk (pc + 2) H locs la1 (fd_nxt hx (by decide)) hH hS (fd_lr_set hl hk rfl h1))
theorem fd_k4 (cx : fd_cx g p R s m args meth c mm) (hok : fd_okI (fd_y mm).cls (fd_b mm) (fd_ini mm) (fd_pcs mm) pc ((fd_pcs mm).getD (i + 1) 0) 4 as = true) (hn : fd_nx ph 4 as L st M = some (true, L', st', M')) (kk : fd_Go g ph p l e R s m args below meth c mm a0 Q (i + 1) L' st' M') (hH : fd_hp g ph M H) (hS : va_S (fd_A g) s.heap H locs) (hl : fd_lr g la (fd_mL mm) L) : W p l e R s m args below meth c H locs (fd_ap M - a0) (fd_sl (fd_ap M) - fd_sl a0) Q (F0 m pc la (st.map (fd_cv g))) := by
  obtain ⟨a, r, rfl, hn⟩ := fd_pR_inv hn
  obtain ⟨hg, rfl, rfl, rfl⟩ := fd_some4 hn
  rw [Bool.and_eq_true] at hg
  have hk : fd_n as 0 < fd_mL mm := by rw [← hl.1]; simpa using hg.1
  have ha3 : a < 1000 := by simpa using hg.2
  have ev : fd_cv g (fd_R a) = .ref (g.1 + a) := fd_rv_lt ha3
  rw [List.map_cons, ev]
  rw [fd_okI] at hok
  split at hok
  · rw [Bool.and_eq_true] at hok
    have h4 := of_decide_eq_true hok.1
    obtain ⟨hd, hx⟩ := fd_dc_inv hok.2
    exact lv_astore_n cx.1 cx.2.1 hd (show (fd_f4 (fd_n as 0)).val = fd_n as 0 from Nat.mod_eq_of_lt h4) hl.2.2 hk rfl (fun la1 h1 => kk (pc + 1) H locs la1 (fd_nxt hx (by decide)) hH hS (fd_lr_set hl hk rfl (by rw [ev]; exact h1)))
  · obtain ⟨hd, hx⟩ := fd_dc_inv hok
    exact lv_astore cx.1 cx.2.1 hd hl.2.2 hk rfl (fun la1 h1 => kk (pc + 2) H locs la1 (fd_nxt hx (by decide)) hH hS (fd_lr_set hl hk rfl (by rw [ev]; exact h1)))
theorem fd_k5 (cx : fd_cx g p R s m args meth c mm) (hok : fd_okI (fd_y mm).cls (fd_b mm) (fd_ini mm) (fd_pcs mm) pc ((fd_pcs mm).getD (i + 1) 0) 5 as = true) (hn : fd_nx ph 5 as L st M = some (true, L', st', M')) (kk : fd_Go g ph p l e R s m args below meth c mm a0 Q (i + 1) L' st' M') (hH : fd_hp g ph M H) (hS : va_S (fd_A g) s.heap H locs) (hl : fd_lr g la (fd_mL mm) L) : W p l e R s m args below meth c H locs (fd_ap M - a0) (fd_sl (fd_ap M) - fd_sl a0) Q (F0 m pc la (st.map (fd_cv g))) := by
  obtain ⟨hd, hx⟩ := fd_dc_inv (show fd_dc (fd_b mm) pc _ (.iinc (fd_n as 0) (fd_a as 1)) 3 = true from hok)
  obtain ⟨a, ha, hn⟩ := fd_lI_inv hn
  obtain ⟨hg, rfl, rfl, rfl⟩ := fd_some4 hn
  have hk : fd_n as 0 < fd_mL mm := by rw [← hl.1]; exact (List.getElem?_eq_some_iff.mp ha).1
  obtain ⟨k, hk1⟩ := List.getElem?_of_mem (fd_as_mem.mpr ⟨fd_I a, ha, (by intro q; cases q), rfl⟩ : (fd_n as 0, fd_cv g (fd_I a)) ∈ fd_as g L)
  exact lv_iinc (v := Int32.ofInt (a + fd_a as 1)) cx.1 cx.2.1 hd hl.2.2 (k := k) hk1 (Int32.ofInt_add ..).symm hk rfl (fun la1 h1 => kk (pc + 3) H locs la1 (fd_nxt hx (by decide)) hH hS (fd_lr_set hl hk rfl h1))
end fdK
end
section
/-! cells: reading and writing the memory of the small machine in the heap -/
theorem fd_lt_ap {g : fd_G} {ph : Bool} {M : fd_M} {H : Heap} {c : Nat} (hH : fd_hp g ph M H) (hal : fd_al ph M c = true) (hs : (fd_SH c).1 ≤ 24) : c < fd_ap M ∧ c < 213 := by
  have h1 := (fd_sh_at hs).1
  refine ⟨?_, h1⟩
  cases ph with
  | true => rw [hH.2.2.2.1 rfl]; exact h1
  | false =>
    have h2 : Nat.blt c (M 5000 0).toNat = true := hal
    simpa using h2
theorem fd_isO_inv {ph : Bool} {M : fd_M} {c ci : Nat} (h : fd_isO ph M c ci = true) : (fd_SH c).1 = ci ∧ fd_al ph M c = true := by
  rw [fd_isO, Bool.and_eq_true] at h
  exact ⟨Nat.eq_of_beq_eq_true h.1, h.2⟩
theorem fd_isA_inv {ph : Bool} {M : fd_M} {c kd : Nat} {i : Int} (h : fd_isA ph M c kd i = true) : (fd_SH c).1 = kd ∧ fd_al ph M c = true ∧ 0 ≤ i ∧ i < (fd_SH c).2 := by
  rw [fd_isA, Bool.and_eq_true, Bool.and_eq_true, fd_inb_iff] at h
  exact ⟨Nat.eq_of_beq_eq_true h.1.1, h.1.2, h.2⟩
theorem fd_ce_obj {g : fd_G} {ph : Bool} {M : fd_M} {c ci : Nat} (h : (fd_SH c).1 = ci) (hc : ci < 20) : fd_ce g ph M c = .inr (ci, (List.range (fd_SH c).2).map (fun k => fd_fv g ph M ci c k)) := by
  subst h
  rw [fd_ce, if_pos hc]
theorem fd_ce_int {g : fd_G} {ph : Bool} {M : fd_M} {c kd : Nat} (h : (fd_SH c).1 = kd) (h1 : 20 ≤ kd) (h2 : kd < 23) : fd_ce g ph M c = .inl (g.2.2.2.2 kd, (fd_SH c).2, .inl (fun j => Int32.ofInt (M c j))) := by
  subst h
  rw [fd_ce, if_neg (by omega), if_pos h2]
theorem fd_ce_ref {g : fd_G} {ph : Bool} {M : fd_M} {c kd : Nat} (h : (fd_SH c).1 = kd) (h1 : 23 ≤ kd) : fd_ce g ph M c = .inl (g.2.2.2.2 kd, (fd_SH c).2, .inr (.inr (.inr (.inr (fun j => fd_ro g (M c j)))))) := by
  subst h
  rw [fd_ce, if_neg (by omega), if_neg (by omega)]
theorem fd_up_ne {M : fd_M} {c k : Nat} {v : Int} {c' : Nat} (h : c' ≠ c) : fd_up M c k v c' = M c' := by
  funext k'
  simp [fd_up, h]
theorem fd_up_at (M : fd_M) (c k : Nat) (v : Int) (j : Nat) : fd_up M c k v c j = if j = k then v else M c j := by simp [fd_up]
theorem fd_up_ap {M : fd_M} {c k : Nat} {v : Int} (h : c < 213) : fd_up M c k v 5000 0 = M 5000 0 := by rw [fd_up_ne (by omega)]
/-- the memory behind a write of one cell -/
theorem fd_hp_up {g : fd_G} {ph : Bool} {M : fd_M} {H H1 : Heap} {c k : Nat} {v : Int} (hH : fd_hp g ph M H) (hc : c < fd_ap M) (hz : ph = false → H1.size = H.size) (x : Nat × va_E) (hx : x = (g.1 + c, fd_ce g ph (fd_up M c k v) c)) (hP : va_P g.2.2.2.1 fd_cl ((fd_ws g ph M (fd_ap M)).set c x) H1) : fd_hp g ph (fd_up M c k v) H1 := by
  have h213 : c < 213 := Nat.lt_of_lt_of_le hc hH.2.1
  have e : fd_ap (fd_up M c k v) = fd_ap M := by show Int.toNat _ = _; rw [fd_up_ap h213]
  refine ⟨fun h => by rw [hz h, e]; exact hH.1 h, by rw [e]; exact hH.2.1, by rw [fd_up_ap h213]; exact hH.2.2.1, fun h => by rw [e]; exact hH.2.2.2.1 h, ?_⟩
  rw [e, ← fd_ws_set (M := M) (c := c) hx (fun c' _ h => fd_up_ne h)]
  exact hP
section fdM
variable {p : Program} {l : Launch} {e : Env} {R : Room} {s : State} {m : MethodId} {args : Array Value} {below : List Frame} {meth : Method} {c : Code} {H : Heap} {locs : List Loc} {cells slots : Nat} {Q : State → Prop}
variable {cc : ByteArray} {pc : Nat} {ls : Array Slot} {rest : List Value} {D : va_G} {cl : List vw_C} {A : Nat → Prop} {a : Nat} {tys : List (ClassId × FieldType)} {ws : va_W} {H0 : Heap}
/-- writes into a field and into arrays: as the kit's rows, and the heap's size stays -/
theorem fd_rput (hexec : p.tables.exec = Jvm.exec) (hb : c.code = cc) {own C : String} {T : u_T} {N ci index : Nat} {Ts : List Jvm.Cond} (hts : ∀ w ∈ Ts, w.before args s = true) (hin : ∀ w ∈ u_ws C T N, w ∈ Ts) (ty0 : Nat → FieldType) (hty : ∀ k, k < N → parseFieldDescriptor (T k).2.2.1 = some (ty0 k)) (hnm : ∀ a, a < N → ∀ b, b < N → a ≠ b → (T a).2.1 ≠ (T b).2.1) (hown : s.vm.findClass own = some m.cls) (hK : va_K D cl tys s) (hP : va_P D cl ws H) (hD : va_D A ws) (hS0 : va_S A H0 H locs) (q0 : Nat) {fs : List Value} (he : ws[q0]? = some (a, .inr (ci, fs))) (hc : cl[ci]? = some (C, T, N)) (k : Nat) (hk : k < N)
    (hlink : (Jvm.Cond.fieldLink own index (T k).1 (T k).2.1 (T k).2.2.1).before args s = true) (hfin : (T k).2.2.2 = true → meth.name = "<init>" ∧ (T k).1 = own) {v : Value} (hn : narrow (ty0 k) v = v) (hfit : fits (ty0 k) v = true) (hl : k < fs.length)
    (hdg : decode cc pc = .ok (.putfield index, 3)) (kk : ∀ (H1 : Heap) (locs1 : List Loc), H1.size = H.size → va_P D cl (ws.set q0 (a, .inr (ci, fs.set k v))) H1 → va_S A H0 H1 locs1 → W p l e R s m args below meth c H1 locs1 cells slots Q (F0 m (pc + 3) ls rest)) : W p l e R s m args below meth c H locs cells slots Q (F0 m pc ls (v :: .ref a :: rest)) := by
  have hap := va_apart (own := own) hts hin ty0 hty hnm hK hc
  obtain ⟨r, h1, cell, q1, q2, q3, q4⟩ := hP q0 _ he
  cases Option.some.inj (h1.symm.trans hc)
  obtain ⟨hS, hfc, kC, hkC, hkind⟩ := hK.1 ci _ hc
  obtain ⟨cf, kf, fi, f, hi, hsl⟩ := hS k hk
  have hlay := hts _ (hin _ (u_in_lay hk))
  unfold u_lay at hlay
  have hst := (u_facts hfc hkC (u_lays hts hin hk) hi).1
  have fin : ∀ (H' : Heap) (l2 : List Loc), H'[a]? = some (cell.setSlot (D.2 ci k) v) → H'.size = H.size → (∀ q, q ≠ a → H'[q]? = H[q]?) → l2 = locs ++ [⟨a, D.2 ci k⟩] → W p l e R s m args below meth c H' l2 cells slots Q (F0 m (pc + 3) ls rest) := fun H' l2 e1 e2 e3 e4 => by
    subst e4
    exact kk H' _ e2 (hP.set hD he ⟨_, hc, t_OB.to (V := updV (vp_V fs) k v) ⟨_, e1, q2, q3, t_set q4 hap hk v⟩ (fun j _ => vp_updV_set hl v j)⟩ e3) (hS0.put e2 e3 (hD.2 q0 _ he))
  cases hf : (T k).2.2.2 with
  | false =>
    rw [if_neg (by rw [hf]; decide)] at hlay
    have h6 := u_store hfc hkC hkind hlay hi (hty k hk) hn hfit
    refine W.putK hexec hb (f := f) ⟨hown, hlink, ⟨_, _, _, hi⟩, hst⟩ (by rw [q2]; exact h6) q1 q3 (by rw [hsl]; exact k2_hasslot (q4 k hk)) rfl rfl hdg fun H' e1 e2 e3 => ?_
    exact fin H' _ (by rw [← hsl]; exact e1) e2 e3 (by rw [hsl])
  | true =>
    rw [if_pos hf] at hlay
    obtain ⟨hin2, hdecl⟩ := hfin hf
    have hcf : m.cls = cf := by
      obtain ⟨_, _, c', _, _, _, -, -, hf', -, -, -, hown2, -⟩ := Cond.laysFinal_spec hlay
      have e1 : c' = cf := by have := hi.symm.trans hf'; simp at this; exact this.1.symm
      rw [hdecl] at hown2
      rw [← e1]; exact Option.some.inj (hown.symm.trans hown2)
    have h6 := u_fits hfc hkC hkind (Or.inr hlay) hi (hty k hk) hn hfit
    refine W.putFinK hexec hb hown hlink hi hst hcf hin2 (by rw [q2]; exact h6) q1 q3 (by rw [hsl]; exact k2_hasslot (q4 k hk)) rfl rfl hdg fun H' e1 e2 e3 => ?_
    exact fin H' _ (by rw [← hsl]; exact e1) e2 e3 (by rw [hsl])
theorem fd_rputN (hexec : p.tables.exec = Jvm.exec) (hb : c.code = cc) {own C host : String} {T : u_T} {N ci index : Nat} {Ts : List Jvm.Cond} (hts : ∀ w ∈ Ts, w.before args s = true) (hin : ∀ w ∈ u_ws C T N, w ∈ Ts) (ty0 : Nat → FieldType) (hty : ∀ k, k < N → parseFieldDescriptor (T k).2.2.1 = some (ty0 k)) (hnm : ∀ a, a < N → ∀ b, b < N → a ≠ b → (T a).2.1 ≠ (T b).2.1) (hown : s.vm.findClass own = some m.cls) (hK : va_K D cl tys s) (hP : va_P D cl ws H) (hD : va_D A ws) (hS0 : va_S A H0 H locs) (q0 : Nat) {fs : List Value} (he : ws[q0]? = some (a, .inr (ci, fs))) (hc : cl[ci]? = some (C, T, N)) (k : Nat) (hk : k < N)
    (hlink : (Jvm.Cond.fieldLinkNest own index (T k).1 (T k).2.1 (T k).2.2.1 host).before args s = true) (hfin : (T k).2.2.2 = false) {v : Value} (hn : narrow (ty0 k) v = v) (hfit : fits (ty0 k) v = true) (hl : k < fs.length)
    (hdg : decode cc pc = .ok (.putfield index, 3)) (kk : ∀ (H1 : Heap) (locs1 : List Loc), H1.size = H.size → va_P D cl (ws.set q0 (a, .inr (ci, fs.set k v))) H1 → va_S A H0 H1 locs1 → W p l e R s m args below meth c H1 locs1 cells slots Q (F0 m (pc + 3) ls rest)) : W p l e R s m args below meth c H locs cells slots Q (F0 m pc ls (v :: .ref a :: rest)) := by
  have hap := va_apart (own := own) hts hin ty0 hty hnm hK hc
  obtain ⟨r, h1, cell, q1, q2, q3, q4⟩ := hP q0 _ he
  cases Option.some.inj (h1.symm.trans hc)
  obtain ⟨hS, hfc, kC, hkC, hkind⟩ := hK.1 ci _ hc
  obtain ⟨cf, kf, fi, f, hi, hsl⟩ := hS k hk
  have hlay := hts _ (hin _ (u_in_lay hk))
  unfold u_lay at hlay
  rw [if_neg (by rw [hfin]; decide)] at hlay
  have hst := (u_facts hfc hkC (u_lays hts hin hk) hi).1
  have h6 := u_store hfc hkC hkind hlay hi (hty k hk) hn hfit
  refine va_WputK hexec hb (f := f) hown hlink hi hst (by rw [q2]; exact h6) q1 q3 (by rw [hsl]; exact k2_hasslot (q4 k hk)) rfl rfl hdg fun H' e1 e2 e3 => ?_
  rw [hsl] at e1 ⊢
  exact kk H' _ e2 (hP.set hD he ⟨_, hc, t_OB.to (V := updV (vp_V fs) k v) ⟨_, e1, q2, q3, t_set q4 hap hk v⟩ (fun j _ => vp_updV_set hl v j)⟩ e3) (hS0.put e2 e3 (hD.2 q0 _ he))
theorem fd_rcell {cA : ClassId} {n : Nat} {f : Nat → Int32} {x : Int32} {k : Nat} {H1 : Heap} (e1 : H1[a]? = some ((arrV cA n (fun j => Value.int (f j))).setSlot k (.int x))) : H1[a]? = some (vp_cell cA (n, .inl (upd f k x))) := by
  rw [e1, vp_cell_i, arrV_store]
  congr 2
  funext q
  by_cases hq : q = k
  · subst hq
    simp [updV, upd]
  · simp [updV, upd, hq]
theorem fd_riast (hexec : p.tables.exec = Jvm.exec) (hb : c.code = cc) (hK : va_K D cl tys s) (hP : va_P D cl ws H) (hD : va_D A ws) (hS : va_S A H0 H locs) (q0 t0 : Nat) {cA : ClassId} {n : Nat} {f : Nat → Int32} (ha : ws[q0]? = some (a, .inl (cA, n, .inl f))) (ht : tys[t0]? = some (cA, .int)) {i : Int32} {x : Int32} (hin : vp_in i n) (hdg : decode cc pc = .ok (.iastore, 1))
    (kk : ∀ (H1 : Heap) (locs1 : List Loc), H1.size = H.size → va_P D cl (ws.set q0 (a, .inl (cA, n, .inl (upd f i.toNatClampNeg x)))) H1 → va_S A H0 H1 locs1 → W p l e R s m args below meth c H1 locs1 cells slots Q (F0 m (pc + 1) ls rest)) : W p l e R s m args below meth c H locs cells slots Q (F0 m pc ls (.int x :: .int i :: .ref a :: rest)) := by
  refine W.iast hexec hb (hP q0 _ ha) ((hK.2 t0 _ ht).1 n (fun j => .int (f j))) (fun q => by cases q) (by show ¬ (i < 0 ∨ (arrV _ _ _).slots.size ≤ _); rw [arrV_size]; exact hin) rfl rfl hdg fun H1 e z oq => ?_
  exact kk H1 _ z (hP.set hD ha (fd_rcell e) oq) (hS.put z oq (hD.2 q0 _ ha))
theorem fd_rnar {x : Int32} {ty : FieldType} {cA : ClassId} {n : Nat} {f : Nat → Int32} {k : Nat} {H1 : Heap} (hx : narrow ty (.int x) = .int x) (e1 : H1[a]? = some ((arrV cA n (fun j => Value.int (f j))).setSlot k (narrow ty (.int x)))) : H1[a]? = some (vp_cell cA (n, .inl (upd f k x))) := fd_rcell (by rw [← hx]; exact e1)
theorem fd_rbast (hexec : p.tables.exec = Jvm.exec) (hb : c.code = cc) (hK : va_K D cl tys s) (hP : va_P D cl ws H) (hD : va_D A ws) (hS : va_S A H0 H locs) (q0 t0 : Nat) {cA : ClassId} {n : Nat} {f : Nat → Int32} (ha : ws[q0]? = some (a, .inl (cA, n, .inl f))) {ty : FieldType} (ht : tys[t0]? = some (cA, ty)) (hty : ty = .byte ∨ ty = .boolean) {i : Int32} {x : Int32} (hx : narrow ty (.int x) = .int x) (hin : vp_in i n) (hdg : decode cc pc = .ok (.bastore, 1))
    (kk : ∀ (H1 : Heap) (locs1 : List Loc), H1.size = H.size → va_P D cl (ws.set q0 (a, .inl (cA, n, .inl (upd f i.toNatClampNeg x)))) H1 → va_S A H0 H1 locs1 → W p l e R s m args below meth c H1 locs1 cells slots Q (F0 m (pc + 1) ls rest)) : W p l e R s m args below meth c H locs cells slots Q (F0 m pc ls (.int x :: .int i :: .ref a :: rest)) := by
  rcases hty with rfl | rfl
  · refine W.bast hexec hb (hP q0 _ ha) ((hK.2 t0 _ ht).1 n (fun j => .int (f j))) (fun q => by cases q) (by show ¬ (i < 0 ∨ (arrV _ _ _).slots.size ≤ _); rw [arrV_size]; exact hin) rfl rfl hdg fun H1 e z oq => ?_
    exact kk H1 _ z (hP.set hD ha (fd_rnar hx e) oq) (hS.put z oq (hD.2 q0 _ ha))
  · refine W.zast hexec hb (hP q0 _ ha) ((hK.2 t0 _ ht).1 n (fun j => .int (f j))) (fun q => by cases q) (by show ¬ (i < 0 ∨ (arrV _ _ _).slots.size ≤ _); rw [arrV_size]; exact hin) rfl rfl hdg fun H1 e z oq => ?_
    exact kk H1 _ z (hP.set hD ha (fd_rnar hx e) oq) (hS.put z oq (hD.2 q0 _ ha))
theorem fd_raast (hexec : p.tables.exec = Jvm.exec) (hb : c.code = cc) (hK : va_K D cl tys s) (hP : va_P D cl ws H) (hD : va_D A ws) (hS : va_S A H0 H locs) (q0 t0 qk ci : Nat) {cA : ClassId} {r : vw_C} {n v : Nat} {vs : List Value} {f : Nat → Option Nat} (ha : ws[q0]? = some (a, .inl (cA, n, .inr (.inr (.inr (.inr f)))))) (ht : tys[t0]? = some (cA, .object r.1)) (hv : ws[qk]? = some (v, .inr (ci, vs))) (hc : cl[ci]? = some r) {i : Int32} (hin : vp_in i n) (hdg : decode cc pc = .ok (.aastore, 1))
    (kk : ∀ (H1 : Heap) (locs1 : List Loc), H1.size = H.size → va_P D cl (ws.set q0 (a, .inl (cA, n, .inr (.inr (.inr (.inr (va_up f i.toNatClampNeg (some v)))))))) H1 → va_S A H0 H1 locs1 → W p l e R s m args below meth c H1 locs1 cells slots Q (F0 m (pc + 1) ls rest)) : W p l e R s m args below meth c H locs cells slots Q (F0 m pc ls (.ref v :: .int i :: .ref a :: rest)) := by
  have hlt : i.toNatClampNeg < n := Nat.not_le.mp fun q => hin (Or.inr q)
  obtain ⟨r', hr', cellV, g1, g2, g3, -⟩ := hP qk _ hv
  have hcls := (hK.1 ci r hc).2
  obtain ⟨kA, comp, k1, k2, k3, -⟩ := (hK.2 t0 _ ht).2
  cases Option.some.inj (k3.symm.trans hcls.1)
  obtain ⟨kC, hkC, -⟩ := hcls.2
  refine W.aast hexec hb (hP q0 _ ha) (fun q h => by cases h) (fun h => by cases h) k1 k2 rfl hkC ⟨fun q => hin (Or.inl q), by show _ < (arrV _ _ _).slots.size; rw [arrV_size]; exact hlt⟩ g1 (fun q h => by rw [g3] at h; cases h) (by rw [g2]; exact hkC) (by rw [g2]; exact va_assign hcls) rfl rfl hdg fun H1 e z oq => ?_
  refine kk H1 _ z (hP.set hD ha ?_ oq) (hS.put z oq (hD.2 q0 _ ha))
  show H1[a]? = some (vp_cell _ _)
  rw [e, vp_cell_q, vp_cell_q, arrV_store]
  congr 2
  funext q
  by_cases hq : q = i.toNatClampNeg
  · subst hq
    simp [updV, va_up, va_rf]
  · simp [updV, va_up, hq]
end fdM
end
section
theorem fd_okF_inv {q : Nat} {own : String} {as : List Int} (h : fd_okF q own as = true) : fd_n as 0 < 11 ∧ fd_n as 1 < (fd_clD (fd_n as 0)).2.2 ∧ fd_kd (fd_ty (fd_n as 0) (fd_n as 1)) = fd_n as 2 ∧ fd_fl q own (fd_n as 3) (fd_a as 4) (fd_clD (fd_n as 0)).1 ((fd_clD (fd_n as 0)).2.1 (fd_n as 1)).2.1 ((fd_clD (fd_n as 0)).2.1 (fd_n as 1)).2.2.1 = true := by
  rw [fd_okF, Bool.and_eq_true, Bool.and_eq_true, Bool.and_eq_true] at h
  exact ⟨of_decide_eq_true h.1, of_decide_eq_true h.2.1, of_decide_eq_true h.2.2.1, h.2.2.2⟩
def fd_clOk2 (ci : Nat) : Bool := decide (∀ k, k < (fd_clD ci).2.2 → ((fd_clD ci).2.1 k).1 = (fd_clD ci).1 ∧ (fd_kd (fd_ty ci k) = 2 → isReferenceType (fd_ty ci k) = true))
theorem fd_cl2_all : (List.range 11).all fd_clOk2 = true := by decide +kernel
theorem fd_cl2_at {ci : Nat} (h : ci < 11) : ∀ k, k < (fd_clD ci).2.2 → ((fd_clD ci).2.1 k).1 = (fd_clD ci).1 ∧ (fd_kd (fd_ty ci k) = 2 → isReferenceType (fd_ty ci k) = true) := of_decide_eq_true (List.all_eq_true.mp fd_cl2_all ci (List.mem_range.mpr h))
theorem fd_fs_set {g : fd_G} {ph : Bool} {M : fd_M} {ci c k N : Nat} {x : Int} {v : Value} (hk : k < N) (hv : fd_fv g ph (fd_up M c k x) ci c k = v) : ((List.range N).map (fun j => fd_fv g ph M ci c j)).set k v = (List.range N).map (fun j => fd_fv g ph (fd_up M c k x) ci c j) := by
  apply List.ext_getElem?
  intro j
  by_cases hj : j < N
  · by_cases hjk : k = j
    · subst hjk
      rw [List.getElem?_set_self (by simpa using hj)]
      simp [hj, hv]
    · rw [List.getElem?_set_ne hjk]
      have e1 : fd_up M c k x c j = M c j := by rw [fd_up_at, if_neg (fun q => hjk q.symm)]
      simp [hj, fd_fv, fd_gf, fd_rf, e1]
  · rw [List.getElem?_eq_none (by simpa using hj), List.getElem?_eq_none (by simpa using hj)]
theorem fd_kd_int {t : FieldType} (h : fd_kd t = 0) : t = .int := by cases t <;> first | rfl | cases h
theorem fd_kd_long {t : FieldType} (h : fd_kd t = 1) : t = .long := by cases t <;> first | rfl | cases h
theorem fd_kd_bool {t : FieldType} (h : fd_kd t = 3) : t = .boolean := by cases t <;> first | rfl | cases h
theorem fd_bool {a : Int} (h : 0 ≤ a ∧ a < 2) : narrow .boolean (.int (Int32.ofInt a)) = .int (Int32.ofInt a) ∧ fits .boolean (.int (Int32.ofInt a)) = true := by
  have h1 : a = 0 ∨ a = 1 := by omega
  rcases h1 with rfl | rfl <;> exact ⟨rfl, rfl⟩
theorem fd_nbyte {a : Int} (h : 0 ≤ a + 128 ∧ a + 128 < 256) : narrow .byte (.int (Int32.ofInt a)) = .int (Int32.ofInt a) := by
  have key : ∀ n : Nat, n < 256 → narrow .byte (.int (Int32.ofInt ((n : Int) - 128))) = .int (Int32.ofInt ((n : Int) - 128)) := by decide +kernel
  have h1 := key (a + 128).toNat (by omega)
  rwa [show (((a + 128).toNat : Int) - 128) = a by omega] at h1
section fdK2
variable {g : fd_G} {ph : Bool} {p : Program} {l : Launch} {e : Env} {R : Room} {s : State} {m : MethodId} {args : Array Value} {below : List Frame} {meth : Method} {c : Code} {mm a0 i pc : Nat} {Q : State → Prop} {as : List Int} {L L' st st' : List fd_V} {M M' : fd_M} {H : Heap} {locs : List Loc} {la : Array Slot}
theorem fd_k27 (cx : fd_cx g p R s m args meth c mm) (hok : fd_okI (fd_y mm).cls (fd_b mm) (fd_ini mm) (fd_pcs mm) pc ((fd_pcs mm).getD (i + 1) 0) 27 as = true) (hn : fd_nx ph 27 as L st M = some (true, L', st', M')) (kk : fd_Go g ph p l e R s m args below meth c mm a0 Q (i + 1) L' st' M') (hH : fd_hp g ph M H) (hS : va_S (fd_A g) s.heap H locs) (hl : fd_lr g la (fd_mL mm) L) : W p l e R s m args below meth c H locs (fd_ap M - a0) (fd_sl (fd_ap M) - fd_sl a0) Q (F0 m pc la (st.map (fd_cv g))) := by
  obtain ⟨hx, hb, hml, hr, hown, hts, hlk, hini, ⟨hK, hNw, hSt⟩, hbs, h177, hfr, hlo⟩ := cx
  rw [fd_okI, Bool.and_eq_true] at hok
  obtain ⟨hd, hnx⟩ := fd_dc_inv hok.1
  obtain ⟨hci, hkN, hkd, hfl⟩ := fd_okF_inv hok.2
  obtain ⟨a, r, rfl, hn1⟩ := fd_pR_inv hn
  obtain ⟨hg, rfl, rfl, rfl⟩ := fd_some4 hn1
  obtain ⟨hsh, hal⟩ := fd_isO_inv hg
  obtain ⟨hlt, h213⟩ := fd_lt_ap hH hal (by omega)
  have hsz := ((fd_sh_at (c := a) (by omega)).2.1 (by omega)).2
  rw [hsh] at hsz
  have hce := fd_ws_get (g := g) (ph := ph) (M := M) hlt
  rw [fd_ce_obj hsh (by omega)] at hce
  have hin := (fd_cl_at hci).1
  have k1 := kk (pc + 3) H locs la (fd_nxt hnx (by decide)) hH hS hl
  have hv : ((List.range (fd_SH a).2).map (fun k => fd_fv g ph M (fd_n as 0) a k))[fd_n as 1]? = some (fd_cv g (fd_gf ph M (fd_n as 2) a (fd_n as 1))) := by
    simp [show fd_n as 1 < (fd_SH a).2 by omega, fd_fv, hkd]
  rw [List.map_cons, show fd_cv g (fd_R a) = .ref (g.1 + a) from fd_rv_lt (by omega)]
  have hsame : ∀ x, s.fieldFound? ((fd_clD (fd_n as 0)).2.1 (fd_n as 1)).1 ((fd_clD (fd_n as 0)).2.1 (fd_n as 1)).2.1 ((fd_clD (fd_n as 0)).2.1 (fd_n as 1)).2.2.1 = some x → s.fieldFound? (fd_clD (fd_n as 0)).1 ((fd_clD (fd_n as 0)).2.1 (fd_n as 1)).2.1 ((fd_clD (fd_n as 0)).2.1 (fd_n as 1)).2.2.1 = some x := fun x h => by rw [← (fd_cl2_at hci _ hkN).1]; exact h
  rw [fd_fl] at hfl
  split at hfl
  · exact va_get hx hb hts hin hown hK hH.2.2.2.2 a hce (fd_clD_get hci) (fd_n as 1) hkN (hts _ (fd_wd_mem hfl)) hsame hv hd k1
  · exact va_getN hx hb hts hin hown hK hH.2.2.2.2 a hce (fd_clD_get hci) (fd_n as 1) hkN (hts _ (fd_wd_mem hfl)) hsame hv hd k1
/-- a write into a field, whatever its kind -/
theorem fd_kput (cx : fd_cx g p R s m args meth c mm) (hok : fd_okI (fd_y mm).cls (fd_b mm) (fd_ini mm) (fd_pcs mm) pc ((fd_pcs mm).getD (i + 1) 0) 28 as = true) {x : Int} {v : Value} {a : Nat} {r : List Value}
    (hal : fd_isO ph M a (fd_n as 0) = true) (hnar : narrow (fd_ty (fd_n as 0) (fd_n as 1)) v = v) (hfit : fits (fd_ty (fd_n as 0) (fd_n as 1)) v = true) (hv : fd_fv g ph (fd_up M a (fd_n as 1) x) (fd_n as 0) a (fd_n as 1) = v)
    (hH : fd_hp g ph M H) (hS : va_S (fd_A g) s.heap H locs) (kk : ∀ (H1 : Heap) (locs1 : List Loc), (fd_pcs mm)[i + 1]? = some (pc + 3) → fd_hp g ph (fd_up M a (fd_n as 1) x) H1 → va_S (fd_A g) s.heap H1 locs1 → W p l e R s m args below meth c H1 locs1 (fd_ap M - a0) (fd_sl (fd_ap M) - fd_sl a0) Q (F0 m (pc + 3) la r)) :
    W p l e R s m args below meth c H locs (fd_ap M - a0) (fd_sl (fd_ap M) - fd_sl a0) Q (F0 m pc la (v :: fd_cv g (fd_R a) :: r)) := by
  obtain ⟨hx, hb, hml, hr, hown, hts, hlk, hini, ⟨hK, hNw, hSt⟩, hbs, h177, hfr, hlo⟩ := cx
  rw [fd_okI, Bool.and_eq_true, Bool.and_eq_true] at hok
  obtain ⟨hd, hnx⟩ := fd_dc_inv hok.1
  obtain ⟨hci, hkN, hkd, hfl⟩ := fd_okF_inv hok.2.1
  obtain ⟨hsh, hal⟩ := fd_isO_inv hal
  obtain ⟨hlt, h213⟩ := fd_lt_ap hH hal (by omega)
  have hsz := ((fd_sh_at (c := a) (by omega)).2.1 (by omega)).2
  rw [hsh] at hsz
  have hce := fd_ws_get (g := g) (ph := ph) (M := M) hlt
  rw [fd_ce_obj hsh (by omega)] at hce
  obtain ⟨hin, -, -, hnm, hty⟩ := fd_cl_at hci
  rw [show fd_cv g (fd_R a) = .ref (g.1 + a) from fd_rv_lt (by omega)]
  have fin : ∀ (H1 : Heap) (locs1 : List Loc), H1.size = H.size → va_P g.2.2.2.1 fd_cl ((fd_ws g ph M (fd_ap M)).set a (g.1 + a, .inr (fd_n as 0, ((List.range (fd_SH a).2).map (fun k => fd_fv g ph M (fd_n as 0) a k)).set (fd_n as 1) v))) H1 → va_S (fd_A g) s.heap H1 locs1 → W p l e R s m args below meth c H1 locs1 (fd_ap M - a0) (fd_sl (fd_ap M) - fd_sl a0) Q (F0 m (pc + 3) la r) := fun H1 locs1 z hP1 hS1 => by
    refine kk H1 locs1 (fd_nxt hnx (by decide)) (fd_hp_up hH hlt (fun _ => z) _ ?_ hP1) hS1
    rw [fd_ce_obj hsh (by omega), fd_fs_set (by omega) hv]
  have hlen : fd_n as 1 < ((List.range (fd_SH a).2).map (fun k => fd_fv g ph M (fd_n as 0) a k)).length := by
    rw [List.length_map, List.length_range]; omega
  have hC := (fd_cl2_at hci _ hkN).1
  rw [fd_fl] at hfl
  have hok2 := hok.2.2
  split at hfl
  · refine fd_rput hx hb hts hin (fd_ty (fd_n as 0)) hty hnm hown hK hH.2.2.2.2 fd_ws_D hS a hce (fd_clD_get hci) (fd_n as 1) hkN (by rw [hC]; exact hts _ (fd_wd_mem hfl)) (fun hf => ?_) hnar hfit hlen hd fin
    rw [if_pos hf, Bool.and_eq_true, Bool.and_eq_true] at hok2
    exact ⟨hini hok2.1, of_decide_eq_true hok2.2.1⟩
  · rename_i hne
    refine fd_rputN hx hb hts hin (fd_ty (fd_n as 0)) hty hnm hown hK hH.2.2.2.2 fd_ws_D hS a hce (fd_clD_get hci) (fd_n as 1) hkN (by rw [hC]; exact hts _ (fd_wd_mem hfl)) ?_ hnar hfit hlen hd fin
    cases hf : ((fd_clD (fd_n as 0)).2.1 (fd_n as 1)).2.2.2 with
    | false => rfl
    | true =>
      rw [if_pos hf, Bool.and_eq_true, Bool.and_eq_true] at hok2
      exact absurd (of_decide_eq_true hok2.2.2) hne
theorem fd_k28 (cx : fd_cx g p R s m args meth c mm) (hok : fd_okI (fd_y mm).cls (fd_b mm) (fd_ini mm) (fd_pcs mm) pc ((fd_pcs mm).getD (i + 1) 0) 28 as = true) (hn : fd_nx ph 28 as L st M = some (true, L', st', M')) (kk : fd_Go g ph p l e R s m args below meth c mm a0 Q (i + 1) L' st' M') (hH : fd_hp g ph M H) (hS : va_S (fd_A g) s.heap H locs) (hl : fd_lr g la (fd_mL mm) L) : W p l e R s m args below meth c H locs (fd_ap M - a0) (fd_sl (fd_ap M) - fd_sl a0) Q (F0 m pc la (st.map (fd_cv g))) := by
  have hok0 := hok
  rw [fd_okI, Bool.and_eq_true, Bool.and_eq_true] at hok0
  obtain ⟨hci, hkN, hkd, -⟩ := fd_okF_inv hok0.2.1
  have hR := (fd_cl2_at hci _ hkN).2
  have hap : ∀ {a : Nat} {x : Int}, fd_isO ph M a (fd_n as 0) = true → fd_ap (fd_up M a (fd_n as 1) x) = fd_ap M := fun {a x} hal => by
    obtain ⟨hsh, hal⟩ := fd_isO_inv hal
    show Int.toNat _ = _
    rw [fd_up_ap (fd_lt_ap hH hal (by omega)).2]
  have hn : fd_put ph (fd_n as 0) (fd_n as 1) (fd_n as 2) L st M = some (true, L', st', M') := hn
  unfold fd_put at hn
  split at hn
  · rename_i h2
    rw [h2] at hkd
    obtain ⟨x, r, rfl, hn1⟩ := fd_pI_inv hn
    obtain ⟨a, r, rfl, hn2⟩ := fd_pR_inv hn1
    obtain ⟨hg, rfl, rfl, rfl⟩ := fd_some4 hn2
    refine fd_kput (x := x) (v := .int (Int32.ofInt x)) cx hok hg (by rw [fd_kd_int hkd]; rfl) (by rw [fd_kd_int hkd]; rfl) (by simp [fd_fv, hkd, fd_gf, fd_cv, fd_up_at]) hH hS (fun H1 l1 hp h1 h2 => ?_)
    have k1 := kk (pc + 3) H1 l1 la hp h1 h2 hl
    rw [hap hg] at k1
    exact k1
  · rename_i h2
    rw [h2] at hkd
    obtain ⟨x, r, rfl, hn1⟩ := fd_pJ_inv hn
    obtain ⟨a, r, rfl, hn2⟩ := fd_pR_inv hn1
    obtain ⟨hg, rfl, rfl, rfl⟩ := fd_some4 hn2
    refine fd_kput (x := x) (v := .long (Int64.ofInt x)) cx hok hg (by rw [fd_kd_long hkd]; rfl) (by rw [fd_kd_long hkd]; rfl) (by simp [fd_fv, hkd, fd_gf, fd_cv, fd_up_at]) hH hS (fun H1 l1 hp h1 h2 => ?_)
    have k1 := kk (pc + 3) H1 l1 la hp h1 h2 hl
    rw [hap hg] at k1
    exact k1
  · rename_i h2
    rw [h2] at hkd
    obtain ⟨x, r, rfl, hn1⟩ := fd_pR_inv hn
    obtain ⟨a, r, rfl, hn2⟩ := fd_pR_inv hn1
    obtain ⟨hg, rfl, rfl, rfl⟩ := fd_some4 hn2
    rw [Bool.and_eq_true, Bool.and_eq_true] at hg
    obtain ⟨hph, hg, hx3⟩ := hg
    have hph : ph = false := by simpa using hph
    subst hph
    have hx3 : x < 1000 := by simpa using hx3
    have hR := hR hkd
    refine fd_kput (x := x) (v := fd_cv g (fd_R x)) cx hok hg ?_ ?_ (by simp [fd_fv, hkd, fd_gf, fd_rf, fd_cv, fd_up_at]) hH hS (fun H1 l1 hp h1 h2 => ?_)
    · rw [show fd_cv g (fd_R x) = .ref (g.1 + x) from fd_rv_lt hx3]
      cases ht : fd_ty (fd_n as 0) (fd_n as 1) <;> rw [ht] at hR <;> first | rfl | cases hR
    · rw [show fd_cv g (fd_R x) = .ref (g.1 + x) from fd_rv_lt hx3]
      cases ht : fd_ty (fd_n as 0) (fd_n as 1) <;> rw [ht] at hR <;> first | rfl | cases hR
    · have k1 := kk (pc + 3) H1 l1 la hp h1 h2 hl
      rw [hap hg] at k1
      exact k1
  · rename_i h2
    rw [h2] at hkd
    obtain ⟨x, r, rfl, hn1⟩ := fd_pI_inv hn
    obtain ⟨a, r, rfl, hn2⟩ := fd_pR_inv hn1
    obtain ⟨hg, rfl, rfl, rfl⟩ := fd_some4 hn2
    rw [Bool.and_eq_true, fd_inb_iff] at hg
    obtain ⟨n1, n2⟩ := fd_bool hg.2
    refine fd_kput (x := x) (v := .int (Int32.ofInt x)) cx hok hg.1 (by rw [fd_kd_bool hkd]; exact n1) (by rw [fd_kd_bool hkd]; exact n2) (by simp [fd_fv, hkd, fd_gf, fd_cv, fd_up_at]) hH hS (fun H1 l1 hp h1 h2 => ?_)
    have k1 := kk (pc + 3) H1 l1 la hp h1 h2 hl
    rw [hap hg.1] at k1
    exact k1
  · cases hn
theorem fd_k29 (cx : fd_cx g p R s m args meth c mm) (hok : fd_okI (fd_y mm).cls (fd_b mm) (fd_ini mm) (fd_pcs mm) pc ((fd_pcs mm).getD (i + 1) 0) 29 as = true) (hn : fd_nx ph 29 as L st M = some (true, L', st', M')) (kk : fd_Go g ph p l e R s m args below meth c mm a0 Q (i + 1) L' st' M') (hH : fd_hp g ph M H) (hS : va_S (fd_A g) s.heap H locs) (hl : fd_lr g la (fd_mL mm) L) : W p l e R s m args below meth c H locs (fd_ap M - a0) (fd_sl (fd_ap M) - fd_sl a0) Q (F0 m pc la (st.map (fd_cv g))) := by
  obtain ⟨hx, hb, hml, hr, hown, hts, hlk, hini, ⟨hK, hNw, hSt⟩, hbs, h177, hfr, hlo⟩ := cx
  rw [fd_okI, Bool.and_eq_true, Bool.or_eq_true, Bool.and_eq_true, Bool.and_eq_true] at hok
  obtain ⟨hd, hnx⟩ := fd_dc_inv hok.1
  obtain ⟨hg, rfl, rfl, rfl⟩ := fd_some4 hn
  have k1 := kk (pc + 3) H locs la (fd_nxt hnx (by decide)) hH hS hl
  rcases hok.2 with ⟨h1, hfl⟩ | ⟨h1, hfl⟩
  · rw [of_decide_eq_true h1] at k1
    rw [fd_fl] at hfl
    split at hfl
    · exact va_gets hx hb hSt.1 hS hown (hts _ (fd_wd_mem hfl)) (fun _ h => h) hd k1
    · exact va_getsN hx hb hSt.1 hS hown (hts _ (fd_wd_mem hfl)) (fun _ h => h) hd k1
  · rw [of_decide_eq_true h1] at k1
    rw [fd_fl] at hfl
    split at hfl
    · exact va_gets hx hb hSt.2.2.1 hS hown (hts _ (fd_wd_mem hfl)) (fun _ h => h) hd k1
    · exact va_getsN hx hb hSt.2.2.1 hS hown (hts _ (fd_wd_mem hfl)) (fun _ h => h) hd k1
theorem fd_k30 (cx : fd_cx g p R s m args meth c mm) (hok : fd_okI (fd_y mm).cls (fd_b mm) (fd_ini mm) (fd_pcs mm) pc ((fd_pcs mm).getD (i + 1) 0) 30 as = true) (hn : fd_nx ph 30 as L st M = some (true, L', st', M')) (kk : fd_Go g ph p l e R s m args below meth c mm a0 Q (i + 1) L' st' M') (hH : fd_hp g ph M H) (hS : va_S (fd_A g) s.heap H locs) (hl : fd_lr g la (fd_mL mm) L) : W p l e R s m args below meth c H locs (fd_ap M - a0) (fd_sl (fd_ap M) - fd_sl a0) Q (F0 m pc la (st.map (fd_cv g))) := by
  obtain ⟨hx, hb, hml, hr, hown, hts, hlk, hini, ⟨hK, hNw, hSt⟩, hbs, h177, hfr, hlo⟩ := cx
  obtain ⟨hd, hnx⟩ := fd_dc_inv (show fd_dc (fd_b mm) pc _ .iaload 1 = true from hok)
  obtain ⟨j, r, rfl, hn1⟩ := fd_pI_inv hn
  obtain ⟨a, r, rfl, hn2⟩ := fd_pR_inv hn1
  obtain ⟨hg, rfl, rfl, rfl⟩ := fd_some4 hn2
  obtain ⟨hsh, hal, hi0, hi1⟩ := fd_isA_inv hg
  obtain ⟨hlt, h213⟩ := fd_lt_ap hH hal (by omega)
  have hn3 := (fd_sh_at (c := a) (by omega)).2.2
  obtain ⟨hin, hcl⟩ := fd_vin ⟨hi0, hi1⟩ (by omega)
  have hce := fd_ws_get (g := g) (ph := ph) (M := M) hlt
  rw [fd_ce_int hsh (by decide) (by decide)] at hce
  have k1 := kk (pc + 1) H locs la (fd_nxt hnx (by decide)) hH hS hl
  rw [List.map_cons, List.map_cons, show fd_cv g (fd_R a) = .ref (g.1 + a) from fd_rv_lt (by omega)]
  refine va_iald hx hb hK hH.2.2.2.2 a 0 hce rfl hin hd ?_
  rw [hcl]
  exact k1
theorem fd_k32 (cx : fd_cx g p R s m args meth c mm) (hok : fd_okI (fd_y mm).cls (fd_b mm) (fd_ini mm) (fd_pcs mm) pc ((fd_pcs mm).getD (i + 1) 0) 32 as = true) (hn : fd_nx ph 32 as L st M = some (true, L', st', M')) (kk : fd_Go g ph p l e R s m args below meth c mm a0 Q (i + 1) L' st' M') (hH : fd_hp g ph M H) (hS : va_S (fd_A g) s.heap H locs) (hl : fd_lr g la (fd_mL mm) L) : W p l e R s m args below meth c H locs (fd_ap M - a0) (fd_sl (fd_ap M) - fd_sl a0) Q (F0 m pc la (st.map (fd_cv g))) := by
  obtain ⟨hx, hb, hml, hr, hown, hts, hlk, hini, ⟨hK, hNw, hSt⟩, hbs, h177, hfr, hlo⟩ := cx
  obtain ⟨hd, hnx⟩ := fd_dc_inv (show fd_dc (fd_b mm) pc _ .baload 1 = true from hok)
  obtain ⟨j, r, rfl, hn1⟩ := fd_pI_inv hn
  obtain ⟨a, r, rfl, hn2⟩ := fd_pR_inv hn1
  obtain ⟨hg, rfl, rfl, rfl⟩ := fd_some4 hn2
  rw [Bool.or_eq_true] at hg
  have k1 := kk (pc + 1) H locs la (fd_nxt hnx (by decide)) hH hS hl
  rcases hg with hg | hg
  · obtain ⟨hsh, hal, hi0, hi1⟩ := fd_isA_inv hg
    obtain ⟨hlt, h213⟩ := fd_lt_ap hH hal (by omega)
    have hn3 := (fd_sh_at (c := a) (by omega)).2.2
    obtain ⟨hin, hcl⟩ := fd_vin ⟨hi0, hi1⟩ (by omega)
    have hce := fd_ws_get (g := g) (ph := ph) (M := M) hlt
    rw [fd_ce_int hsh (by decide) (by decide)] at hce
    rw [List.map_cons, List.map_cons, show fd_cv g (fd_R a) = .ref (g.1 + a) from fd_rv_lt (by omega)]
    refine va_bald hx hb hK hH.2.2.2.2 a 1 hce rfl hin hd ?_
    rw [hcl]
    exact k1
  · obtain ⟨hsh, hal, hi0, hi1⟩ := fd_isA_inv hg
    obtain ⟨hlt, h213⟩ := fd_lt_ap hH hal (by omega)
    have hn3 := (fd_sh_at (c := a) (by omega)).2.2
    obtain ⟨hin, hcl⟩ := fd_vin ⟨hi0, hi1⟩ (by omega)
    have hce := fd_ws_get (g := g) (ph := ph) (M := M) hlt
    rw [fd_ce_int hsh (by decide) (by decide)] at hce
    rw [List.map_cons, List.map_cons, show fd_cv g (fd_R a) = .ref (g.1 + a) from fd_rv_lt (by omega)]
    refine va_zald hx hb hK hH.2.2.2.2 a 2 hce rfl hin hd ?_
    rw [hcl]
    exact k1
theorem fd_k31 (cx : fd_cx g p R s m args meth c mm) (hok : fd_okI (fd_y mm).cls (fd_b mm) (fd_ini mm) (fd_pcs mm) pc ((fd_pcs mm).getD (i + 1) 0) 31 as = true) (hn : fd_nx ph 31 as L st M = some (true, L', st', M')) (kk : fd_Go g ph p l e R s m args below meth c mm a0 Q (i + 1) L' st' M') (hH : fd_hp g ph M H) (hS : va_S (fd_A g) s.heap H locs) (hl : fd_lr g la (fd_mL mm) L) : W p l e R s m args below meth c H locs (fd_ap M - a0) (fd_sl (fd_ap M) - fd_sl a0) Q (F0 m pc la (st.map (fd_cv g))) := by
  obtain ⟨hx, hb, hml, hr, hown, hts, hlk, hini, ⟨hK, hNw, hSt⟩, hbs, h177, hfr, hlo⟩ := cx
  obtain ⟨hd, hnx⟩ := fd_dc_inv (show fd_dc (fd_b mm) pc _ .iastore 1 = true from hok)
  obtain ⟨x, r, rfl, hn1⟩ := fd_pI_inv hn
  obtain ⟨j, r, rfl, hn2⟩ := fd_pI_inv hn1
  obtain ⟨a, r, rfl, hn3⟩ := fd_pR_inv hn2
  obtain ⟨hg, rfl, rfl, rfl⟩ := fd_some4 hn3
  obtain ⟨hsh, hal, hi0, hi1⟩ := fd_isA_inv hg
  obtain ⟨hlt, h213⟩ := fd_lt_ap hH hal (by omega)
  have hn3 := (fd_sh_at (c := a) (by omega)).2.2
  obtain ⟨hin, hcl⟩ := fd_vin ⟨hi0, hi1⟩ (by omega)
  have hce := fd_ws_get (g := g) (ph := ph) (M := M) hlt
  have e1 : ∀ (x : Int), upd (fun j => Int32.ofInt (M a j)) j.toNat (Int32.ofInt x) = fun k => Int32.ofInt (fd_up M a j.toNat x a k) := fun x => by
    funext k
    rw [fd_up_at]
    by_cases h : k = j.toNat
    · simp [upd, h]
    · simp [upd, h]
  rw [fd_ce_int hsh (by decide) (by decide)] at hce
  rw [List.map_cons, List.map_cons, List.map_cons, show fd_cv g (fd_R a) = .ref (g.1 + a) from fd_rv_lt (by omega)]
  refine fd_riast hx hb hK hH.2.2.2.2 fd_ws_D hS a 0 hce rfl hin hd (fun H1 l1 z hP1 hS1 => ?_)
  have k1 := kk (pc + 1) H1 l1 la (fd_nxt hnx (by decide)) (fd_hp_up hH hlt (fun _ => z) _ (by rw [fd_ce_int hsh (by decide) (by decide), hcl, e1]) hP1) hS1 hl
  rw [show fd_ap (fd_up M a j.toNat x) = fd_ap M from by show Int.toNat _ = _; rw [fd_up_ap h213]] at k1
  exact k1
theorem fd_k33 (cx : fd_cx g p R s m args meth c mm) (hok : fd_okI (fd_y mm).cls (fd_b mm) (fd_ini mm) (fd_pcs mm) pc ((fd_pcs mm).getD (i + 1) 0) 33 as = true) (hn : fd_nx ph 33 as L st M = some (true, L', st', M')) (kk : fd_Go g ph p l e R s m args below meth c mm a0 Q (i + 1) L' st' M') (hH : fd_hp g ph M H) (hS : va_S (fd_A g) s.heap H locs) (hl : fd_lr g la (fd_mL mm) L) : W p l e R s m args below meth c H locs (fd_ap M - a0) (fd_sl (fd_ap M) - fd_sl a0) Q (F0 m pc la (st.map (fd_cv g))) := by
  obtain ⟨hx, hb, hml, hr, hown, hts, hlk, hini, ⟨hK, hNw, hSt⟩, hbs, h177, hfr, hlo⟩ := cx
  obtain ⟨hd, hnx⟩ := fd_dc_inv (show fd_dc (fd_b mm) pc _ .bastore 1 = true from hok)
  obtain ⟨x, r, rfl, hn1⟩ := fd_pI_inv hn
  obtain ⟨j, r, rfl, hn2⟩ := fd_pI_inv hn1
  obtain ⟨a, r, rfl, hn3⟩ := fd_pR_inv hn2
  obtain ⟨hg, rfl, rfl, rfl⟩ := fd_some4 hn3
  rw [Bool.or_eq_true, Bool.and_eq_true, Bool.and_eq_true, fd_inb_iff, fd_inb_iff] at hg
  have e1 : ∀ (x : Int), upd (fun j => Int32.ofInt (M a j)) j.toNat (Int32.ofInt x) = fun k => Int32.ofInt (fd_up M a j.toNat x a k) := fun x => by
    funext k
    rw [fd_up_at]
    by_cases h : k = j.toNat
    · simp [upd, h]
    · simp [upd, h]
  rcases hg with ⟨hg, hv⟩ | ⟨hg, hv⟩
  · obtain ⟨hsh, hal, hi0, hi1⟩ := fd_isA_inv hg
    obtain ⟨hlt, h213⟩ := fd_lt_ap hH hal (by omega)
    have hn3 := (fd_sh_at (c := a) (by omega)).2.2
    obtain ⟨hin, hcl⟩ := fd_vin ⟨hi0, hi1⟩ (by omega)
    have hce := fd_ws_get (g := g) (ph := ph) (M := M) hlt
    rw [fd_ce_int hsh (by decide) (by decide)] at hce
    rw [List.map_cons, List.map_cons, List.map_cons, show fd_cv g (fd_R a) = .ref (g.1 + a) from fd_rv_lt (by omega)]
    refine fd_rbast (ty := .byte) hx hb hK hH.2.2.2.2 fd_ws_D hS a 1 hce rfl (Or.inl rfl) (fd_nbyte hv) hin hd (fun H1 l1 z hP1 hS1 => ?_)
    have k1 := kk (pc + 1) H1 l1 la (fd_nxt hnx (by decide)) (fd_hp_up hH hlt (fun _ => z) _ (by rw [fd_ce_int hsh (by decide) (by decide), hcl, e1]) hP1) hS1 hl
    rw [show fd_ap (fd_up M a j.toNat x) = fd_ap M from by show Int.toNat _ = _; rw [fd_up_ap h213]] at k1
    exact k1
  · obtain ⟨hsh, hal, hi0, hi1⟩ := fd_isA_inv hg
    obtain ⟨hlt, h213⟩ := fd_lt_ap hH hal (by omega)
    have hn3 := (fd_sh_at (c := a) (by omega)).2.2
    obtain ⟨hin, hcl⟩ := fd_vin ⟨hi0, hi1⟩ (by omega)
    have hce := fd_ws_get (g := g) (ph := ph) (M := M) hlt
    rw [fd_ce_int hsh (by decide) (by decide)] at hce
    rw [List.map_cons, List.map_cons, List.map_cons, show fd_cv g (fd_R a) = .ref (g.1 + a) from fd_rv_lt (by omega)]
    refine fd_rbast (ty := .boolean) hx hb hK hH.2.2.2.2 fd_ws_D hS a 2 hce rfl (Or.inr rfl) ((fd_bool hv).1) hin hd (fun H1 l1 z hP1 hS1 => ?_)
    have k1 := kk (pc + 1) H1 l1 la (fd_nxt hnx (by decide)) (fd_hp_up hH hlt (fun _ => z) _ (by rw [fd_ce_int hsh (by decide) (by decide), hcl, e1]) hP1) hS1 hl
    rw [show fd_ap (fd_up M a j.toNat x) = fd_ap M from by show Int.toNat _ = _; rw [fd_up_ap h213]] at k1
    exact k1
theorem fd_k34 (cx : fd_cx g p R s m args meth c mm) (hok : fd_okI (fd_y mm).cls (fd_b mm) (fd_ini mm) (fd_pcs mm) pc ((fd_pcs mm).getD (i + 1) 0) 34 as = true) (hn : fd_nx ph 34 as L st M = some (true, L', st', M')) (kk : fd_Go g ph p l e R s m args below meth c mm a0 Q (i + 1) L' st' M') (hH : fd_hp g ph M H) (hS : va_S (fd_A g) s.heap H locs) (hl : fd_lr g la (fd_mL mm) L) : W p l e R s m args below meth c H locs (fd_ap M - a0) (fd_sl (fd_ap M) - fd_sl a0) Q (F0 m pc la (st.map (fd_cv g))) := by
  obtain ⟨hx, hb, hml, hr, hown, hts, hlk, hini, ⟨hK, hNw, hSt⟩, hbs, h177, hfr, hlo⟩ := cx
  obtain ⟨hd, hnx⟩ := fd_dc_inv (show fd_dc (fd_b mm) pc _ .aaload 1 = true from hok)
  obtain ⟨j, r, rfl, hn1⟩ := fd_pI_inv hn
  obtain ⟨a, r, rfl, hn2⟩ := fd_pR_inv hn1
  obtain ⟨hg, rfl, rfl, rfl⟩ := fd_some4 hn2
  rw [Bool.and_eq_true, Bool.or_eq_true] at hg
  have hm3 : (M a j.toNat).toNat < 1000 := by simpa using hg.2
  have k1 := kk (pc + 1) H locs la (fd_nxt hnx (by decide)) hH hS hl
  rw [List.map_cons, show fd_cv g (fd_R (M a j.toNat).toNat) = .ref (g.1 + (M a j.toNat).toNat) from fd_rv_lt hm3] at k1
  rcases hg.1 with hg | hg
  · obtain ⟨hsh, hal, hi0, hi1⟩ := fd_isA_inv hg
    obtain ⟨hlt, h213⟩ := fd_lt_ap hH hal (by omega)
    have hn3 := (fd_sh_at (c := a) (by omega)).2.2
    obtain ⟨hin, hcl⟩ := fd_vin ⟨hi0, hi1⟩ (by omega)
    have hce := fd_ws_get (g := g) (ph := ph) (M := M) hlt
    rw [fd_ce_ref hsh (by decide)] at hce
    rw [List.map_cons, List.map_cons, show fd_cv g (fd_R a) = .ref (g.1 + a) from fd_rv_lt (by omega)]
    refine va_aldq hx hb hK hH.2.2.2.2 a 3 hce rfl hin hd ?_
    rw [hcl, fd_ro, if_pos hm3]
    exact k1
  · obtain ⟨hsh, hal, hi0, hi1⟩ := fd_isA_inv hg
    obtain ⟨hlt, h213⟩ := fd_lt_ap hH hal (by omega)
    have hn3 := (fd_sh_at (c := a) (by omega)).2.2
    obtain ⟨hin, hcl⟩ := fd_vin ⟨hi0, hi1⟩ (by omega)
    have hce := fd_ws_get (g := g) (ph := ph) (M := M) hlt
    rw [fd_ce_ref hsh (by decide)] at hce
    rw [List.map_cons, List.map_cons, show fd_cv g (fd_R a) = .ref (g.1 + a) from fd_rv_lt (by omega)]
    refine va_aldq hx hb hK hH.2.2.2.2 a 4 hce rfl hin hd ?_
    rw [hcl, fd_ro, if_pos hm3]
    exact k1
theorem fd_k35 (cx : fd_cx g p R s m args meth c mm) (hok : fd_okI (fd_y mm).cls (fd_b mm) (fd_ini mm) (fd_pcs mm) pc ((fd_pcs mm).getD (i + 1) 0) 35 as = true) (hn : fd_nx ph 35 as L st M = some (true, L', st', M')) (kk : fd_Go g ph p l e R s m args below meth c mm a0 Q (i + 1) L' st' M') (hH : fd_hp g ph M H) (hS : va_S (fd_A g) s.heap H locs) (hl : fd_lr g la (fd_mL mm) L) : W p l e R s m args below meth c H locs (fd_ap M - a0) (fd_sl (fd_ap M) - fd_sl a0) Q (F0 m pc la (st.map (fd_cv g))) := by
  obtain ⟨hx, hb, hml, hr, hown, hts, hlk, hini, ⟨hK, hNw, hSt⟩, hbs, h177, hfr, hlo⟩ := cx
  obtain ⟨hd, hnx⟩ := fd_dc_inv (show fd_dc (fd_b mm) pc _ .aastore 1 = true from hok)
  obtain ⟨x, r, rfl, hn1⟩ := fd_pR_inv hn
  obtain ⟨j, r, rfl, hn2⟩ := fd_pI_inv hn1
  obtain ⟨a, r, rfl, hn3⟩ := fd_pR_inv hn2
  obtain ⟨hg, rfl, rfl, rfl⟩ := fd_some4 hn3
  rw [Bool.or_eq_true, Bool.and_eq_true, Bool.and_eq_true] at hg
  rcases hg with ⟨hg, hv⟩ | ⟨hg, hv⟩
  · obtain ⟨hsh, hal, hi0, hi1⟩ := fd_isA_inv hg
    obtain ⟨hsx, halx⟩ := fd_isO_inv hv
    obtain ⟨hlt, h213⟩ := fd_lt_ap hH hal (by omega)
    obtain ⟨hltx, hx213⟩ := fd_lt_ap hH halx (by omega)
    have hn3 := (fd_sh_at (c := a) (by omega)).2.2
    obtain ⟨hin, hcl⟩ := fd_vin ⟨hi0, hi1⟩ (by omega)
    have hce := fd_ws_get (g := g) (ph := ph) (M := M) hlt
    rw [fd_ce_ref hsh (by decide)] at hce
    have hcx := fd_ws_get (g := g) (ph := ph) (M := M) hltx
    rw [fd_ce_obj hsx (by decide)] at hcx
    rw [List.map_cons, List.map_cons, List.map_cons, show fd_cv g (fd_R a) = .ref (g.1 + a) from fd_rv_lt (by omega), show fd_cv g (fd_R x) = .ref (g.1 + x) from fd_rv_lt (by omega)]
    refine fd_raast hx hb hK hH.2.2.2.2 fd_ws_D hS a 3 x 5 hce rfl hcx (fd_clD_get (by decide)) hin hd (fun H1 l1 z hP1 hS1 => ?_)
    have k1 := kk (pc + 1) H1 l1 la (fd_nxt hnx (by decide)) (fd_hp_up hH hlt (fun _ => z) _ (by
      rw [fd_ce_ref hsh (by decide), hcl]
      congr 8
      funext k
      rw [fd_up_at]
      by_cases h : k = j.toNat
      · simp [va_up, h, fd_ro, show x < 1000 by omega]
      · simp [va_up, h]) hP1) hS1 hl
    rw [show fd_ap (fd_up M a j.toNat x) = fd_ap M from by show Int.toNat _ = _; rw [fd_up_ap h213]] at k1
    exact k1
  · obtain ⟨hsh, hal, hi0, hi1⟩ := fd_isA_inv hg
    obtain ⟨hsx, halx⟩ := fd_isO_inv hv
    obtain ⟨hlt, h213⟩ := fd_lt_ap hH hal (by omega)
    obtain ⟨hltx, hx213⟩ := fd_lt_ap hH halx (by omega)
    have hn3 := (fd_sh_at (c := a) (by omega)).2.2
    obtain ⟨hin, hcl⟩ := fd_vin ⟨hi0, hi1⟩ (by omega)
    have hce := fd_ws_get (g := g) (ph := ph) (M := M) hlt
    rw [fd_ce_ref hsh (by decide)] at hce
    have hcx := fd_ws_get (g := g) (ph := ph) (M := M) hltx
    rw [fd_ce_obj hsx (by decide)] at hcx
    rw [List.map_cons, List.map_cons, List.map_cons, show fd_cv g (fd_R a) = .ref (g.1 + a) from fd_rv_lt (by omega), show fd_cv g (fd_R x) = .ref (g.1 + x) from fd_rv_lt (by omega)]
    refine fd_raast hx hb hK hH.2.2.2.2 fd_ws_D hS a 4 x 2 hce rfl hcx (fd_clD_get (by decide)) hin hd (fun H1 l1 z hP1 hS1 => ?_)
    have k1 := kk (pc + 1) H1 l1 la (fd_nxt hnx (by decide)) (fd_hp_up hH hlt (fun _ => z) _ (by
      rw [fd_ce_ref hsh (by decide), hcl]
      congr 8
      funext k
      rw [fd_up_at]
      by_cases h : k = j.toNat
      · simp [va_up, h, fd_ro, show x < 1000 by omega]
      · simp [va_up, h]) hP1) hS1 hl
    rw [show fd_ap (fd_up M a j.toNat x) = fd_ap M from by show Int.toNat _ = _; rw [fd_up_ap h213]] at k1
    exact k1
theorem fd_k36 (cx : fd_cx g p R s m args meth c mm) (hok : fd_okI (fd_y mm).cls (fd_b mm) (fd_ini mm) (fd_pcs mm) pc ((fd_pcs mm).getD (i + 1) 0) 36 as = true) (hn : fd_nx ph 36 as L st M = some (true, L', st', M')) (kk : fd_Go g ph p l e R s m args below meth c mm a0 Q (i + 1) L' st' M') (hH : fd_hp g ph M H) (hS : va_S (fd_A g) s.heap H locs) (hl : fd_lr g la (fd_mL mm) L) : W p l e R s m args below meth c H locs (fd_ap M - a0) (fd_sl (fd_ap M) - fd_sl a0) Q (F0 m pc la (st.map (fd_cv g))) := by
  obtain ⟨hx, hb, hml, hr, hown, hts, hlk, hini, ⟨hK, hNw, hSt⟩, hbs, h177, hfr, hlo⟩ := cx
  obtain ⟨hd, hnx⟩ := fd_dc_inv (show fd_dc (fd_b mm) pc _ .arraylength 1 = true from hok)
  obtain ⟨a, r, rfl, hn1⟩ := fd_pR_inv hn
  obtain ⟨hg, rfl, rfl, rfl⟩ := fd_some4 hn1
  rw [Bool.and_eq_true, Bool.and_eq_true] at hg
  have h20 : 20 ≤ (fd_SH a).1 := by simpa using hg.1
  have h24 : (fd_SH a).1 ≤ 24 := by simpa using hg.2.1
  obtain ⟨hlt, h213⟩ := fd_lt_ap hH hg.2.2 h24
  have hce := fd_ws_get (g := g) (ph := ph) (M := M) hlt
  have k1 := kk (pc + 1) H locs la (fd_nxt hnx (by decide)) hH hS hl
  rw [List.map_cons, show fd_cv g (fd_R a) = .ref (g.1 + a) from fd_rv_lt (by omega)]
  have hcase : (fd_SH a).1 = 20 ∨ (fd_SH a).1 = 21 ∨ (fd_SH a).1 = 22 ∨ (fd_SH a).1 = 23 ∨ (fd_SH a).1 = 24 := by omega
  rcases hcase with h | h | h | h | h
  · rw [fd_ce_int h (by decide) (by decide)] at hce
    exact va_alen hx hb hK hH.2.2.2.2 a 0 hce rfl (fd_oi _).symm hd k1
  · rw [fd_ce_int h (by decide) (by decide)] at hce
    exact va_alen hx hb hK hH.2.2.2.2 a 1 hce rfl (fd_oi _).symm hd k1
  · rw [fd_ce_int h (by decide) (by decide)] at hce
    exact va_alen hx hb hK hH.2.2.2.2 a 2 hce rfl (fd_oi _).symm hd k1
  · rw [fd_ce_ref h (by decide)] at hce
    exact va_alen hx hb hK hH.2.2.2.2 a 3 hce rfl (fd_oi _).symm hd k1
  · rw [fd_ce_ref h (by decide)] at hce
    exact va_alen hx hb hK hH.2.2.2.2 a 4 hce rfl (fd_oi _).symm hd k1
theorem fd_k43 (cx : fd_cx g p R s m args meth c mm) (hok : fd_okI (fd_y mm).cls (fd_b mm) (fd_ini mm) (fd_pcs mm) pc ((fd_pcs mm).getD (i + 1) 0) 43 as = true) (hn : fd_nx ph 43 as L st M = some (true, L', st', M')) (kk : fd_Go g ph p l e R s m args below meth c mm a0 Q (i + 1) L' st' M') (hH : fd_hp g ph M H) (hS : va_S (fd_A g) s.heap H locs) (hl : fd_lr g la (fd_mL mm) L) : W p l e R s m args below meth c H locs (fd_ap M - a0) (fd_sl (fd_ap M) - fd_sl a0) Q (F0 m pc la (st.map (fd_cv g))) := by
  obtain ⟨hx, hb, hml, hr, hown, hts, hlk, hini, ⟨hK, hNw, hSt⟩, hbs, h177, hfr, hlo⟩ := cx
  obtain ⟨hd, hnx⟩ := fd_dc_inv (show fd_dc (fd_b mm) pc _ .iaload 1 = true from hok)
  obtain ⟨j, r, rfl, hn1⟩ := fd_pI_inv hn
  obtain ⟨a, r, rfl, hn2⟩ := fd_pR_inv hn1
  obtain ⟨hg, rfl, rfl, rfl⟩ := fd_some4 hn2
  rw [Bool.and_eq_true, Bool.or_eq_true, fd_inb_iff] at hg
  obtain ⟨hin, hcl⟩ := fd_vin (n := 4) hg.2 (by decide)
  have k1 := kk (pc + 1) H locs la (fd_nxt hnx (by decide)) hH hS hl
  have ej : ((j.toNat : Nat) : Int) = j := Int.toNat_of_nonneg hg.2.1
  rcases hg.1 with h | h
  · have h := Nat.eq_of_beq_eq_true h
    subst h
    exact va_ti hx hb hSt.2.1 hS hin (by rw [hcl, ej]; rfl) hd k1
  · have h := Nat.eq_of_beq_eq_true h
    subst h
    exact va_ti hx hb hSt.2.2.2 hS hin (by rw [hcl, ej]; rfl) hd k1
end fdK2
end
section
theorem fd_sl_mono {a b : Nat} (h : a ≤ b) : fd_sl a ≤ fd_sl b := by
  induction b with
  | zero => rw [Nat.le_zero.mp h]; exact Nat.le_refl _
  | succ b ih =>
    rcases Nat.lt_or_ge a (b + 1) with q | q
    · rw [fd_sl_succ]
      exact Nat.le_trans (ih (by omega)) (by omega)
    · rw [show a = b + 1 by omega]
      exact Nat.le_refl _
theorem fd_nw_old {M : fd_M} {f : Nat → Int} {c : Nat} (h : c ≠ fd_ap M) (h2 : c ≠ 5000) : fd_nw M f c = M c := by
  funext k
  simp [fd_nw, h, h2]
theorem fd_nw_new {M : fd_M} {f : Nat → Int} {k : Nat} : fd_nw M f (fd_ap M) k = f k := by simp [fd_nw]
theorem fd_nw_ap {M : fd_M} {f : Nat → Int} (h : fd_ap M < 213) (h0 : 0 ≤ M 5000 0) : fd_nw M f 5000 0 = M 5000 0 + 1 ∧ fd_ap (fd_nw M f) = fd_ap M + 1 := by
  have e : fd_nw M f 5000 0 = M 5000 0 + 1 := by
    have h1 : ¬ (5000 = (M 5000 0).toNat) := by
      intro q
      have : fd_ap M = 5000 := q.symm
      omega
    simp [fd_nw, h1]
  refine ⟨e, ?_⟩
  show Int.toNat (fd_nw M f 5000 0) = (M 5000 0).toNat + 1
  rw [e]
  omega
/-- the memory behind a making -/
theorem fd_hp_nw {g : fd_G} {M : fd_M} {f : Nat → Int} {H H1 : Heap} (hH : fd_hp g false M H) (hap : fd_ap M < 213) (z : H1.size = g.1 + fd_ap M + 1) (o1 : ∀ q, q < g.1 + fd_ap M → H1[q]? = H[q]?) (hnew : va_at g.2.2.2.1 fd_cl (g.1 + fd_ap M, fd_ce g false (fd_nw M f) (fd_ap M)) H1) : fd_hp g false (fd_nw M f) H1 := by
  obtain ⟨e1, e2⟩ := fd_nw_ap (f := f) hap hH.2.2.1
  refine ⟨fun _ => by rw [e2, z]; omega, by rw [e2]; exact hap, by rw [e1]; have := hH.2.2.1; omega, fun h => (by cases h), ?_⟩
  intro k q hq
  rw [e2] at hq
  have hk : k < fd_ap M + 1 := by
    have := (List.getElem?_eq_some_iff.mp hq).1
    simpa [fd_ws] using this
  rw [fd_ws_get hk] at hq
  cases hq
  rcases Nat.lt_or_ge k (fd_ap M) with h | h
  · rw [fd_ce_congr (fd_nw_old (by omega) (by omega))]
    exact (hH.2.2.2.2 k _ (fd_ws_get h)).kept (o1 _ (by show g.1 + k < _; omega))
  · rw [show k = fd_ap M by omega]
    exact hnew
theorem fd_hp_set {g : fd_G} {ph : Bool} {M M' : fd_M} {H H1 : Heap} {c : Nat} (hH : fd_hp g ph M H) (hc : c < fd_ap M) (ho : ∀ c', c' ≠ c → M' c' = M c') (hz : ph = false → H1.size = H.size) (x : Nat × va_E) (hx : x = (g.1 + c, fd_ce g ph M' c)) (hP : va_P g.2.2.2.1 fd_cl ((fd_ws g ph M (fd_ap M)).set c x) H1) : fd_hp g ph M' H1 := by
  have h213 : c < 213 := Nat.lt_of_lt_of_le hc hH.2.1
  have e0 : M' 5000 0 = M 5000 0 := by rw [ho 5000 (by omega)]
  have e : fd_ap M' = fd_ap M := by show Int.toNat _ = _; rw [e0]
  refine ⟨fun h => by rw [hz h, e]; exact hH.1 h, by rw [e]; exact hH.2.1, by rw [e0]; exact hH.2.2.1, fun h => by rw [e]; exact hH.2.2.2.1 h, ?_⟩
  rw [e, ← fd_ws_set (M := M) (c := c) hx (fun c' _ h => ho c' h)]
  exact hP
theorem fd_sum_le (g : fd_G) (r : List fd_V) : ((r.map (fd_cv g)).map fun v => v.category).sum ≤ 2 * r.length := by
  induction r with
  | nil => simp
  | cons a r ih =>
    have : (fd_cv g a).category ≤ 2 := by
      rw [fd_cat]
      unfold fd_cw
      split <;> omega
    simp only [List.map_cons, List.sum_cons, List.length_cons]
    omega
def fd_okX : Bool := decide (Jvm.Cond.arrayClass .int ∈ lw_tbl ∧ Jvm.Cond.arrayClass .byte ∈ lw_tbl ∧ Jvm.Cond.arrayClass .boolean ∈ lw_tbl ∧ Jvm.Cond.arrayOver (.object "FacingDoors$Scene") ∈ lw_tbl ∧ Jvm.Cond.arrayOver (.object "FacingDoors$Image") ∈ lw_tbl ∧ Jvm.Cond.native arraycopyName ∈ lw_tbl ∧ Jvm.Cond.static arraycopyName ∈ lw_tbl ∧ Jvm.Cond.initialized "java/lang/System" ∈ lw_tbl ∧ Jvm.Cond.instanceMethod objectInit ∈ lw_tbl ∧ Jvm.Cond.code objectInit ⟨#[0xb1]⟩ 1 none ∈ lw_tbl ∧ Jvm.Cond.static Lib.Math.min.name ∈ lw_tbl ∧ Jvm.Cond.initialized "java/lang/Math" ∈ lw_tbl ∧ Jvm.Cond.code Lib.Math.min.name Lib.Math.min.code 2 (some .int) ∈ lw_tbl ∧ Jvm.Cond.static fd_lb ∈ lw_tbl ∧ Jvm.Cond.initialized "java/lang/Long" ∈ lw_tbl ∧ Jvm.Cond.code fd_lb prog_14_method_50_code 2 (some .int) ∈ lw_tbl)
theorem fd_okX_ok : fd_okX = true := by decide +kernel
theorem fd_okXs : Jvm.Cond.arrayClass .int ∈ fd_tbl ∧ Jvm.Cond.arrayClass .byte ∈ fd_tbl ∧ Jvm.Cond.arrayClass .boolean ∈ fd_tbl ∧ Jvm.Cond.arrayOver (.object "FacingDoors$Scene") ∈ fd_tbl ∧ Jvm.Cond.arrayOver (.object "FacingDoors$Image") ∈ fd_tbl ∧ Jvm.Cond.native arraycopyName ∈ fd_tbl ∧ Jvm.Cond.static arraycopyName ∈ fd_tbl ∧ Jvm.Cond.initialized "java/lang/System" ∈ fd_tbl ∧ Jvm.Cond.instanceMethod objectInit ∈ fd_tbl ∧ Jvm.Cond.code objectInit ⟨#[0xb1]⟩ 1 none ∈ fd_tbl ∧ Jvm.Cond.static Lib.Math.min.name ∈ fd_tbl ∧ Jvm.Cond.initialized "java/lang/Math" ∈ fd_tbl ∧ Jvm.Cond.code Lib.Math.min.name Lib.Math.min.code 2 (some .int) ∈ fd_tbl ∧ Jvm.Cond.static fd_lb ∈ fd_tbl ∧ Jvm.Cond.initialized "java/lang/Long" ∈ fd_tbl ∧ Jvm.Cond.code fd_lb prog_14_method_50_code 2 (some .int) ∈ fd_tbl := by
  obtain ⟨w1, w2, w3, w4, w5, w6, w7, w8, w9, w10, w11, w12, w13, w14, w15, w16⟩ := of_decide_eq_true fd_okX_ok
  exact ⟨fd_mt w1, fd_mt w2, fd_mt w3, fd_mt w4, fd_mt w5, fd_mt w6, fd_mt w7, fd_mt w8, fd_mt w9, fd_mt w10, fd_mt w11, fd_mt w12, fd_mt w13, fd_mt w14, fd_mt w15, fd_mt w16⟩
section fdK3
variable {g : fd_G} {ph : Bool} {p : Program} {l : Launch} {e : Env} {R : Room} {s : State} {m : MethodId} {args : Array Value} {below : List Frame} {meth : Method} {c : Code} {mm a0 i pc : Nat} {Q : State → Prop} {as : List Int} {L L' st st' : List fd_V} {M M' : fd_M} {H : Heap} {locs : List Loc} {la : Array Slot}
theorem fd_k37 (cx : fd_cx g p R s m args meth c mm) (hok : fd_okI (fd_y mm).cls (fd_b mm) (fd_ini mm) (fd_pcs mm) pc ((fd_pcs mm).getD (i + 1) 0) 37 as = true) (hn : fd_nx ph 37 as L st M = some (true, L', st', M')) (kk : fd_Go g ph p l e R s m args below meth c mm a0 Q (i + 1) L' st' M') (hH : fd_hp g ph M H) (hS : va_S (fd_A g) s.heap H locs) (hl : fd_lr g la (fd_mL mm) L) (hrc : fd_ap M' - a0 ≤ R.cells) (hrs : fd_sl (fd_ap M') - fd_sl a0 ≤ R.slots) (ha0 : a0 ≤ fd_ap M) : W p l e R s m args below meth c H locs (fd_ap M - a0) (fd_sl (fd_ap M) - fd_sl a0) Q (F0 m pc la (st.map (fd_cv g))) := by
  obtain ⟨hx, hb, hml, hr, hown, hts, hlk, hini, ⟨hK, hNw, hSt⟩, hbs, h177, hfr, hlo⟩ := cx
  obtain ⟨w1, w2, w3, w4, w5, w6, w7, w8, w9, w10, w11, w12, w13, w14, w15, w16⟩ := fd_okXs
  rw [fd_okI, Bool.and_eq_true, Bool.and_eq_true] at hok
  obtain ⟨hd, hnx⟩ := fd_dc_inv hok.1
  have hci := of_decide_eq_true hok.2.1
  obtain ⟨r, hr0⟩ : ∃ r, r = st := ⟨_, rfl⟩
  subst hr0
  obtain ⟨hg, rfl, rfl, rfl⟩ := fd_some4 hn
  rw [Bool.and_eq_true, Bool.and_eq_true] at hg
  have hph : ph = false := by simpa using hg.1
  subst hph
  have hsh : (fd_SH (fd_ap M)).1 = fd_n as 0 := Nat.eq_of_beq_eq_true hg.2.1
  have hap : fd_ap M < 213 := (fd_sh_at (by omega)).1
  have hn3 := (fd_sh_at (c := fd_ap M) (by omega)).2.2
  obtain ⟨e1, e2⟩ := fd_nw_ap (f := fd_dfl (fd_n as 0)) hap hH.2.2.1
  have hslm := fd_sl_mono ha0
  rw [e2] at hrc hrs
  rw [fd_sl_succ] at hrs
  have hsS : ∀ {H1 : Heap}, H1.size = g.1 + fd_ap M + 1 → (∀ q, q < g.1 + fd_ap M → H1[q]? = H[q]?) → va_S (fd_A g) s.heap H1 locs := fun {H1} z o1 => ⟨Nat.le_trans hS.1 (by rw [z, hH.1 rfl]; omega), fun x h1 h2 => (o1 x (by have := hS.1; have := hH.1 rfl; omega)).trans (hS.2.1 x h1 h2), hS.2.2⟩
  have fin : ∀ {H1 : Heap}, H1.size = g.1 + fd_ap M + 1 → (∀ q, q < g.1 + fd_ap M → H1[q]? = H[q]?) → va_at g.2.2.2.1 fd_cl (g.1 + fd_ap M, fd_ce g false (fd_nw M (fd_dfl (fd_n as 0))) (fd_ap M)) H1 → W p l e R s m args below meth c H1 locs (fd_ap M - a0 + 1) (fd_sl (fd_ap M) - fd_sl a0 + (fd_SH (fd_ap M)).2) Q (F0 m (pc + 3) la (.ref (g.1 + fd_ap M) :: r.map (fd_cv g))) := fun {H1} z o1 hnew => by
    have k1 := kk (pc + 3) H1 locs la (fd_nxt hnx (by decide)) (fd_hp_nw hH hap z o1 hnew) (hsS z o1) hl
    rw [e2, fd_sl_succ, List.map_cons, show fd_cv g (fd_R (fd_ap M)) = .ref (g.1 + fd_ap M) from fd_rv_lt (by omega), show fd_ap M + 1 - a0 = fd_ap M - a0 + 1 by omega, show fd_sl (fd_ap M) + (fd_SH (fd_ap M)).2 - fd_sl a0 = fd_sl (fd_ap M) - fd_sl a0 + (fd_SH (fd_ap M)).2 by omega] at k1
    exact k1
  obtain ⟨hin, hinst, hini2, -, hty⟩ := fd_cl_at hci
  have hsz := ((fd_sh_at (c := fd_ap M) (by omega)).2.1 (by omega)).2
  rw [hsh] at hsz
  have hKn := hK.1 (fd_n as 0) _ (fd_clD_get hci)
  refine W.newcK hx hb hown (hts _ (fd_wd_mem hok.2.2)) (hts _ hinst) (hts _ hini2) rfl hd (by omega) (by omega) hKn.2.1 (hH.1 rfl) fun H1 kC hkC q1 z1 o1 => ?_
  rw [hsz]
  refine fin z1 o1 ?_
  rw [fd_ce_obj hsh (by omega)]
  refine ⟨_, fd_clD_get hci, (u_born (fd_ty (fd_n as 0)) hts hin hKn hkC q1 hty).to (fun j hj => ?_)⟩
  have hj2 : j < (fd_SH (fd_ap M)).2 := by omega
  have hR := (fd_cl2_at hci j hj).2
  have e3 : vp_V ((List.range (fd_SH (fd_ap M)).2).map (fun k => fd_fv g false (fd_nw M (fd_dfl (fd_n as 0))) (fd_n as 0) (fd_ap M) k)) j = fd_fv g false (fd_nw M (fd_dfl (fd_n as 0))) (fd_n as 0) (fd_ap M) j := by
    simp [vp_V, hj2]
  rw [e3]
  unfold fd_fv fd_gf fd_rf
  simp only [fd_nw_new]
  unfold fd_dfl
  cases ht : fd_ty (fd_n as 0) j <;> rw [ht] at hR <;> first | rfl | exact absurd (hR rfl) (by decide)
theorem fd_k38 (cx : fd_cx g p R s m args meth c mm) (hok : fd_okI (fd_y mm).cls (fd_b mm) (fd_ini mm) (fd_pcs mm) pc ((fd_pcs mm).getD (i + 1) 0) 38 as = true) (hn : fd_nx ph 38 as L st M = some (true, L', st', M')) (kk : fd_Go g ph p l e R s m args below meth c mm a0 Q (i + 1) L' st' M') (hH : fd_hp g ph M H) (hS : va_S (fd_A g) s.heap H locs) (hl : fd_lr g la (fd_mL mm) L) (hrc : fd_ap M' - a0 ≤ R.cells) (hrs : fd_sl (fd_ap M') - fd_sl a0 ≤ R.slots) (ha0 : a0 ≤ fd_ap M) : W p l e R s m args below meth c H locs (fd_ap M - a0) (fd_sl (fd_ap M) - fd_sl a0) Q (F0 m pc la (st.map (fd_cv g))) := by
  obtain ⟨hx, hb, hml, hr, hown, hts, hlk, hini, ⟨hK, hNw, hSt⟩, hbs, h177, hfr, hlo⟩ := cx
  obtain ⟨w1, w2, w3, w4, w5, w6, w7, w8, w9, w10, w11, w12, w13, w14, w15, w16⟩ := fd_okXs
  rw [fd_okI, Bool.and_eq_true] at hok
  obtain ⟨hd, hnx⟩ := fd_dc_inv hok.1
  have hci := of_decide_eq_true hok.2
  obtain ⟨n, r, rfl, hn1⟩ := fd_pI_inv hn
  obtain ⟨hg, rfl, rfl, rfl⟩ := fd_some4 hn1
  rw [Bool.and_eq_true, Bool.and_eq_true] at hg
  have hph : ph = false := by simpa using hg.1
  subst hph
  have hsh : (fd_SH (fd_ap M)).1 = fd_n as 0 := Nat.eq_of_beq_eq_true hg.2.1
  have hap : fd_ap M < 213 := (fd_sh_at (by omega)).1
  have hn3 := (fd_sh_at (c := fd_ap M) (by omega)).2.2
  obtain ⟨e1, e2⟩ := fd_nw_ap (f := fun _ => 0) hap hH.2.2.1
  have hslm := fd_sl_mono ha0
  rw [e2] at hrc hrs
  rw [fd_sl_succ] at hrs
  have hsS : ∀ {H1 : Heap}, H1.size = g.1 + fd_ap M + 1 → (∀ q, q < g.1 + fd_ap M → H1[q]? = H[q]?) → va_S (fd_A g) s.heap H1 locs := fun {H1} z o1 => ⟨Nat.le_trans hS.1 (by rw [z, hH.1 rfl]; omega), fun x h1 h2 => (o1 x (by have := hS.1; have := hH.1 rfl; omega)).trans (hS.2.1 x h1 h2), hS.2.2⟩
  have fin : ∀ {H1 : Heap}, H1.size = g.1 + fd_ap M + 1 → (∀ q, q < g.1 + fd_ap M → H1[q]? = H[q]?) → va_at g.2.2.2.1 fd_cl (g.1 + fd_ap M, fd_ce g false (fd_nw M (fun _ => 0)) (fd_ap M)) H1 → W p l e R s m args below meth c H1 locs (fd_ap M - a0 + 1) (fd_sl (fd_ap M) - fd_sl a0 + (fd_SH (fd_ap M)).2) Q (F0 m (pc + 2) la (.ref (g.1 + fd_ap M) :: r.map (fd_cv g))) := fun {H1} z o1 hnew => by
    have k1 := kk (pc + 2) H1 locs la (fd_nxt hnx (by decide)) (fd_hp_nw hH hap z o1 hnew) (hsS z o1) hl
    rw [e2, fd_sl_succ, List.map_cons, show fd_cv g (fd_R (fd_ap M)) = .ref (g.1 + fd_ap M) from fd_rv_lt (by omega), show fd_ap M + 1 - a0 = fd_ap M - a0 + 1 by omega, show fd_sl (fd_ap M) + (fd_SH (fd_ap M)).2 - fd_sl a0 = fd_sl (fd_ap M) - fd_sl a0 + (fd_SH (fd_ap M)).2 by omega] at k1
    exact k1
  have hnn : n = ((fd_SH (fd_ap M)).2 : Int) := of_decide_eq_true hg.2.2
  have hN : (Int32.ofInt n).toNatClampNeg = (fd_SH (fd_ap M)).2 := by rw [hnn, fd_oi]; exact nI_clamp (by omega)
  have hn0 : ¬ Int32.ofInt n < 0 := by rw [hnn, fd_oi]; exact nI_pos (by omega)
  have hcase : fd_n as 0 = 20 ∨ fd_n as 0 = 21 ∨ fd_n as 0 = 22 := by omega
  rcases hcase with h | h | h
  · rw [h] at hsh hd
    refine va_newaK hx hb (atype := .int) (hts _ w1) rfl hd rfl hn0 hN (by rw [show componentBytes (newarray.typeOf .int) = 4 from rfl]; omega) (by omega) (by omega) (hH.1 rfl) fun H1 cA q1 z1 o1 hAr hNm => ?_
    refine fin z1 o1 ?_
    rw [fd_ce_int hsh (by decide) (by decide)]
    have hcA : cA = g.2.2.2.2 20 := Option.some.inj (hNm.symm.trans (hK.2 0 _ rfl).2)
    subst hcA
    show H1[g.1 + fd_ap M]? = some (vp_cell _ _)
    rw [q1, vp_cell_i]
    simp only [fd_nw_new]
    rfl
  · rw [h] at hsh hd
    refine va_newaK hx hb (atype := .byte) (hts _ w2) rfl hd rfl hn0 hN (by rw [show componentBytes (newarray.typeOf .byte) = 1 from rfl]; omega) (by omega) (by omega) (hH.1 rfl) fun H1 cA q1 z1 o1 hAr hNm => ?_
    refine fin z1 o1 ?_
    rw [fd_ce_int hsh (by decide) (by decide)]
    have hcA : cA = g.2.2.2.2 21 := Option.some.inj (hNm.symm.trans (hK.2 1 _ rfl).2)
    subst hcA
    show H1[g.1 + fd_ap M]? = some (vp_cell _ _)
    rw [q1, vp_cell_i]
    simp only [fd_nw_new]
    rfl
  · rw [h] at hsh hd
    refine va_newaK hx hb (atype := .boolean) (hts _ w3) rfl hd rfl hn0 hN (by rw [show componentBytes (newarray.typeOf .boolean) = 1 from rfl]; omega) (by omega) (by omega) (hH.1 rfl) fun H1 cA q1 z1 o1 hAr hNm => ?_
    refine fin z1 o1 ?_
    rw [fd_ce_int hsh (by decide) (by decide)]
    have hcA : cA = g.2.2.2.2 22 := Option.some.inj (hNm.symm.trans (hK.2 2 _ rfl).2)
    subst hcA
    show H1[g.1 + fd_ap M]? = some (vp_cell _ _)
    rw [q1, vp_cell_i]
    simp only [fd_nw_new]
    rfl
theorem fd_k39 (cx : fd_cx g p R s m args meth c mm) (hok : fd_okI (fd_y mm).cls (fd_b mm) (fd_ini mm) (fd_pcs mm) pc ((fd_pcs mm).getD (i + 1) 0) 39 as = true) (hn : fd_nx ph 39 as L st M = some (true, L', st', M')) (kk : fd_Go g ph p l e R s m args below meth c mm a0 Q (i + 1) L' st' M') (hH : fd_hp g ph M H) (hS : va_S (fd_A g) s.heap H locs) (hl : fd_lr g la (fd_mL mm) L) (hrc : fd_ap M' - a0 ≤ R.cells) (hrs : fd_sl (fd_ap M') - fd_sl a0 ≤ R.slots) (ha0 : a0 ≤ fd_ap M) : W p l e R s m args below meth c H locs (fd_ap M - a0) (fd_sl (fd_ap M) - fd_sl a0) Q (F0 m pc la (st.map (fd_cv g))) := by
  obtain ⟨hx, hb, hml, hr, hown, hts, hlk, hini, ⟨hK, hNw, hSt⟩, hbs, h177, hfr, hlo⟩ := cx
  obtain ⟨w1, w2, w3, w4, w5, w6, w7, w8, w9, w10, w11, w12, w13, w14, w15, w16⟩ := fd_okXs
  rw [fd_okI, Bool.and_eq_true, Bool.and_eq_true] at hok
  obtain ⟨hd, hnx⟩ := fd_dc_inv hok.1
  have hci := of_decide_eq_true hok.2.1
  obtain ⟨n, r, rfl, hn1⟩ := fd_pI_inv hn
  obtain ⟨hg, rfl, rfl, rfl⟩ := fd_some4 hn1
  rw [Bool.and_eq_true, Bool.and_eq_true] at hg
  have hph : ph = false := by simpa using hg.1
  subst hph
  have hsh : (fd_SH (fd_ap M)).1 = fd_n as 0 := Nat.eq_of_beq_eq_true hg.2.1
  have hap : fd_ap M < 213 := (fd_sh_at (by omega)).1
  have hn3 := (fd_sh_at (c := fd_ap M) (by omega)).2.2
  obtain ⟨e1, e2⟩ := fd_nw_ap (f := fun _ => 1000) hap hH.2.2.1
  have hslm := fd_sl_mono ha0
  rw [e2] at hrc hrs
  rw [fd_sl_succ] at hrs
  have hsS : ∀ {H1 : Heap}, H1.size = g.1 + fd_ap M + 1 → (∀ q, q < g.1 + fd_ap M → H1[q]? = H[q]?) → va_S (fd_A g) s.heap H1 locs := fun {H1} z o1 => ⟨Nat.le_trans hS.1 (by rw [z, hH.1 rfl]; omega), fun x h1 h2 => (o1 x (by have := hS.1; have := hH.1 rfl; omega)).trans (hS.2.1 x h1 h2), hS.2.2⟩
  have fin : ∀ {H1 : Heap}, H1.size = g.1 + fd_ap M + 1 → (∀ q, q < g.1 + fd_ap M → H1[q]? = H[q]?) → va_at g.2.2.2.1 fd_cl (g.1 + fd_ap M, fd_ce g false (fd_nw M (fun _ => 1000)) (fd_ap M)) H1 → W p l e R s m args below meth c H1 locs (fd_ap M - a0 + 1) (fd_sl (fd_ap M) - fd_sl a0 + (fd_SH (fd_ap M)).2) Q (F0 m (pc + 3) la (.ref (g.1 + fd_ap M) :: r.map (fd_cv g))) := fun {H1} z o1 hnew => by
    have k1 := kk (pc + 3) H1 locs la (fd_nxt hnx (by decide)) (fd_hp_nw hH hap z o1 hnew) (hsS z o1) hl
    rw [e2, fd_sl_succ, List.map_cons, show fd_cv g (fd_R (fd_ap M)) = .ref (g.1 + fd_ap M) from fd_rv_lt (by omega), show fd_ap M + 1 - a0 = fd_ap M - a0 + 1 by omega, show fd_sl (fd_ap M) + (fd_SH (fd_ap M)).2 - fd_sl a0 = fd_sl (fd_ap M) - fd_sl a0 + (fd_SH (fd_ap M)).2 by omega] at k1
    exact k1
  have hnn : n = ((fd_SH (fd_ap M)).2 : Int) := of_decide_eq_true hg.2.2
  have hN : (Int32.ofInt n).toNatClampNeg = (fd_SH (fd_ap M)).2 := by rw [hnn, fd_oi]; exact nI_clamp (by omega)
  have hn0 : ¬ Int32.ofInt n < 0 := by rw [hnn, fd_oi]; exact nI_pos (by omega)
  have hcase : fd_n as 0 = 23 ∨ fd_n as 0 = 24 := by omega
  rcases hcase with h | h
  · rw [h] at hsh hok
    refine W.anew hx hb hown (hts _ (fd_wd_mem hok.2.2)) (hts _ w4) rfl hd rfl hn0 (by rw [hN]; omega) (by omega) (by rw [hN]; omega) fun cA kA comp f1 f2 f3 f4 => ?_
    rw [hN]
    generalize hH1 : H.push ({ cls := cA, slots := Array.replicate (fd_SH (fd_ap M)).2 .null, vm := .none } : Cell) = H1
    have z1 : H1.size = g.1 + fd_ap M + 1 := by rw [← hH1, Array.size_push, hH.1 rfl]
    have q1 : H1[g.1 + fd_ap M]? = some (arrV cA (fd_SH (fd_ap M)).2 (fun _ => .null)) := by rw [← hH1, ← hH.1 rfl, Array.getElem?_push_size, ← arrV_new]
    have o1 : ∀ q, q < g.1 + fd_ap M → H1[q]? = H[q]? := fun q hq => by
      rw [← hH1, Array.getElem?_push, if_neg (by rw [hH.1 rfl]; omega)]
    rw [hH.1 rfl]
    refine fin z1 o1 ?_
    rw [fd_ce_ref hsh (by decide)]
    obtain ⟨kA2, comp2, -, -, -, hNm⟩ := (hK.2 3 _ rfl).2
    have hcA : cA = g.2.2.2.2 23 := Option.some.inj (f1.symm.trans hNm)
    subst hcA
    show H1[g.1 + fd_ap M]? = some (vp_cell _ _)
    rw [q1, vp_cell_q]
    simp only [fd_nw_new]
    rfl
  · rw [h] at hsh hok
    refine W.anew hx hb hown (hts _ (fd_wd_mem hok.2.2)) (hts _ w5) rfl hd rfl hn0 (by rw [hN]; omega) (by omega) (by rw [hN]; omega) fun cA kA comp f1 f2 f3 f4 => ?_
    rw [hN]
    generalize hH1 : H.push ({ cls := cA, slots := Array.replicate (fd_SH (fd_ap M)).2 .null, vm := .none } : Cell) = H1
    have z1 : H1.size = g.1 + fd_ap M + 1 := by rw [← hH1, Array.size_push, hH.1 rfl]
    have q1 : H1[g.1 + fd_ap M]? = some (arrV cA (fd_SH (fd_ap M)).2 (fun _ => .null)) := by rw [← hH1, ← hH.1 rfl, Array.getElem?_push_size, ← arrV_new]
    have o1 : ∀ q, q < g.1 + fd_ap M → H1[q]? = H[q]? := fun q hq => by
      rw [← hH1, Array.getElem?_push, if_neg (by rw [hH.1 rfl]; omega)]
    rw [hH.1 rfl]
    refine fin z1 o1 ?_
    rw [fd_ce_ref hsh (by decide)]
    obtain ⟨kA2, comp2, -, -, -, hNm⟩ := (hK.2 4 _ rfl).2
    have hcA : cA = g.2.2.2.2 24 := Option.some.inj (f1.symm.trans hNm)
    subst hcA
    show H1[g.1 + fd_ap M]? = some (vp_cell _ _)
    rw [q1, vp_cell_q]
    simp only [fd_nw_new]
    rfl
theorem fd_k40 (cx : fd_cx g p R s m args meth c mm) (hok : fd_okI (fd_y mm).cls (fd_b mm) (fd_ini mm) (fd_pcs mm) pc ((fd_pcs mm).getD (i + 1) 0) 40 as = true) (hn : fd_nx ph 40 as L st M = some (true, L', st', M')) (kk : fd_Go g ph p l e R s m args below meth c mm a0 Q (i + 1) L' st' M') (hH : fd_hp g ph M H) (hS : va_S (fd_A g) s.heap H locs) (hl : fd_lr g la (fd_mL mm) L) (hrc : fd_ap M' - a0 ≤ R.cells) (hrs : fd_sl (fd_ap M') - fd_sl a0 ≤ R.slots) (ha0 : a0 ≤ fd_ap M) : W p l e R s m args below meth c H locs (fd_ap M - a0) (fd_sl (fd_ap M) - fd_sl a0) Q (F0 m pc la (st.map (fd_cv g))) := by
  obtain ⟨hx, hb, hml, hr, hown, hts, hlk, hini, ⟨hK, hNw, hSt⟩, hbs, h177, hfr, hlo⟩ := cx
  obtain ⟨w1, w2, w3, w4, w5, w6, w7, w8, w9, w10, w11, w12, w13, w14, w15, w16⟩ := fd_okXs
  rw [fd_okI, Bool.and_eq_true] at hok
  obtain ⟨hd, hnx⟩ := fd_dc_inv hok.1
  obtain ⟨n, r, rfl, hn1⟩ := fd_pI_inv hn
  obtain ⟨dp, r, rfl, hn2⟩ := fd_pI_inv hn1
  obtain ⟨c2, r, rfl, hn3⟩ := fd_pR_inv hn2
  obtain ⟨sp, r, rfl, hn4⟩ := fd_pI_inv hn3
  obtain ⟨c1, r, rfl, hn5⟩ := fd_pR_inv hn4
  obtain ⟨hg, rfl, rfl, rfl⟩ := fd_some4 hn5
  rw [Bool.and_eq_true, Bool.and_eq_true, Bool.and_eq_true, Bool.and_eq_true, Bool.and_eq_true] at hg
  obtain ⟨⟨⟨hph, hs1, ha1⟩, hs2, ha2⟩, hq⟩ := hg
  obtain ⟨h1, h2, h3, h4, h5, h6⟩ := of_decide_eq_true hq
  subst hph
  have hs1 := Nat.eq_of_beq_eq_true hs1
  have hs2 := Nat.eq_of_beq_eq_true hs2
  obtain ⟨hl1, b1⟩ := fd_lt_ap hH ha1 (by omega)
  obtain ⟨hl2, b2⟩ := fd_lt_ap hH ha2 (by omega)
  have m1 := (fd_sh_at (c := c1) (by omega)).2.2
  have m2 := (fd_sh_at (c := c2) (by omega)).2.2
  have hc1 := fd_ws_get (g := g) (ph := true) (M := M) hl1
  have hc2 := fd_ws_get (g := g) (ph := true) (M := M) hl2
  rw [fd_ce_int hs1 (by decide) (by decide)] at hc1
  rw [fd_ce_int hs2 (by decide) (by decide)] at hc2
  obtain ⟨n', rfl⟩ := Int.eq_ofNat_of_zero_le h3
  obtain ⟨dp', rfl⟩ := Int.eq_ofNat_of_zero_le h2
  obtain ⟨sp', rfl⟩ := Int.eq_ofNat_of_zero_le h1
  have en : (Int32.ofInt (n' : Int)).toNatClampNeg = n' := by rw [fd_oi]; exact nI_clamp (by omega)
  have ed : (Int32.ofInt (dp' : Int)).toNatClampNeg = dp' := by rw [fd_oi]; exact nI_clamp (by omega)
  have es : (Int32.ofInt (sp' : Int)).toNatClampNeg = sp' := by rw [fd_oi]; exact nI_clamp (by omega)
  have hsum := fd_sum_le g r
  have hnat : nativeFrameWords "java/lang/System" "arraycopy" 5 ≤ 100 := by decide +kernel
  simp only [List.map_cons]
  rw [show fd_cv g (fd_R c1) = .ref (g.1 + c1) from fd_rv_lt (by omega), show fd_cv g (fd_R c2) = .ref (g.1 + c2) from fd_rv_lt (by omega)]
  refine va_copyi hx hb (by rw [hml]; exact hl.2.2.1.symm) hown (hts _ (fd_wd_mem hok.2)) (hts _ w6) (hts _ w7) (hts _ w8) hK hH.2.2.2.2 fd_ws_D hS c1 c2 0 0 hc1 hc2 rfl rfl rfl (by rw [fd_oi]; exact nI_pos (by omega)) (by rw [fd_oi]; exact nI_pos (by omega)) (by rw [fd_oi]; exact nI_pos (by omega)) (by rw [es, en]; omega) (by rw [ed, en]; omega) (fun _ _ => rfl) (by omega) (by omega) hd (fun H1 l1 hP1 _ hS1 => ?_)
  rw [es, ed, en] at hP1
  have ho : ∀ c', c' ≠ c2 → fd_cp M c1 sp' c2 dp' n' c' = M c' := fun c' h => by funext k; simp [fd_cp, h]
  have k1 := kk (pc + 3) H1 l1 la (fd_nxt hnx (by decide)) (fd_hp_set hH hl2 ho (fun h => (by cases h)) _ (by
    rw [fd_ce_int hs2 (by decide) (by decide)]
    congr 5
    funext k
    simp only [va_cpy, fd_cp, Int.toNat_natCast, true_and]
    split <;> rfl) hP1) hS1 hl
  have e0 : fd_ap (fd_cp M c1 sp' c2 dp' n') = fd_ap M := by show Int.toNat _ = _; rw [ho 5000 (by omega)]
  rw [show ((sp' : Int)).toNat = sp' from rfl, show ((dp' : Int)).toNat = dp' from rfl, show ((n' : Int)).toNat = n' from rfl, e0] at k1
  exact k1
theorem fd_k42 (cx : fd_cx g p R s m args meth c mm) (hok : fd_okI (fd_y mm).cls (fd_b mm) (fd_ini mm) (fd_pcs mm) pc ((fd_pcs mm).getD (i + 1) 0) 42 as = true) (hn : fd_nx ph 42 as L st M = some (true, L', st', M')) (kk : fd_Go g ph p l e R s m args below meth c mm a0 Q (i + 1) L' st' M') (hH : fd_hp g ph M H) (hS : va_S (fd_A g) s.heap H locs) (hl : fd_lr g la (fd_mL mm) L) (hrc : fd_ap M' - a0 ≤ R.cells) (hrs : fd_sl (fd_ap M') - fd_sl a0 ≤ R.slots) (ha0 : a0 ≤ fd_ap M) : W p l e R s m args below meth c H locs (fd_ap M - a0) (fd_sl (fd_ap M) - fd_sl a0) Q (F0 m pc la (st.map (fd_cv g))) := by
  obtain ⟨hx, hb, hml, hr, hown, hts, hlk, hini, ⟨hK, hNw, hSt⟩, hbs, h177, hfr, hlo⟩ := cx
  obtain ⟨w1, w2, w3, w4, w5, w6, w7, w8, w9, w10, w11, w12, w13, w14, w15, w16⟩ := fd_okXs
  rw [fd_okI, Bool.and_eq_true] at hok
  obtain ⟨hd, hnx⟩ := fd_dc_inv hok.1
  obtain ⟨a, r, rfl, hn1⟩ := fd_pR_inv hn
  obtain ⟨hg, rfl, rfl, rfl⟩ := fd_some4 hn1
  rw [Bool.and_eq_true] at hg
  have ha3 : a < 1000 := by simpa using hg.1
  have hr4 : r.length ≤ 4 := by simpa using hg.2
  have hsum := fd_sum_le g r
  have hroom := lv_room (m := m) (pc := pc) (ls := la) (rest := .ref (g.1 + a) :: r.map (fd_cv g)) (st := r.map (fd_cv g)) (by omega)
  rw [List.map_cons, show fd_cv g (fd_R a) = .ref (g.1 + a) from fd_rv_lt ha3]
  exact W.objInit hx hb hown (hts _ (fd_wd_mem hok.2)) (hts _ w9) (hts _ w10) rfl (hl.2.2.1.trans hml.symm) rfl hd (by omega) (by omega) (kk (pc + 3) H locs la (fd_nxt hnx (by decide)) hH hS hl)
theorem fd_k44 (cx : fd_cx g p R s m args meth c mm) (hok : fd_okI (fd_y mm).cls (fd_b mm) (fd_ini mm) (fd_pcs mm) pc ((fd_pcs mm).getD (i + 1) 0) 44 as = true) (hn : fd_nx ph 44 as L st M = some (true, L', st', M')) (kk : fd_Go g ph p l e R s m args below meth c mm a0 Q (i + 1) L' st' M') (hH : fd_hp g ph M H) (hS : va_S (fd_A g) s.heap H locs) (hl : fd_lr g la (fd_mL mm) L) (hrc : fd_ap M' - a0 ≤ R.cells) (hrs : fd_sl (fd_ap M') - fd_sl a0 ≤ R.slots) (ha0 : a0 ≤ fd_ap M) : W p l e R s m args below meth c H locs (fd_ap M - a0) (fd_sl (fd_ap M) - fd_sl a0) Q (F0 m pc la (st.map (fd_cv g))) := by
  obtain ⟨hx, hb, hml, hr, hown, hts, hlk, hini, ⟨hK, hNw, hSt⟩, hbs, h177, hfr, hlo⟩ := cx
  obtain ⟨w1, w2, w3, w4, w5, w6, w7, w8, w9, w10, w11, w12, w13, w14, w15, w16⟩ := fd_okXs
  rw [fd_okI, Bool.and_eq_true] at hok
  obtain ⟨hd, hnx⟩ := fd_dc_inv hok.1
  obtain ⟨b, r, rfl, hn1⟩ := fd_pI_inv hn
  obtain ⟨a, r, rfl, hn2⟩ := fd_pI_inv hn1
  obtain ⟨hg, rfl, rfl, rfl⟩ := fd_some4 hn2
  rw [Bool.and_eq_true, Bool.and_eq_true, fd_rng_iff, fd_rng_iff] at hg
  have hr4 : r.length ≤ 4 := by simpa using hg.2.2
  have hsum := fd_sum_le g r
  have k1 := kk (pc + 3) H locs la (fd_nxt hnx (by decide)) hH hS hl
  refine va_mmin hx hb (by rw [hml]; exact hl.2.2.1.symm) hown (hts _ (fd_wd_mem hok.2)) (hts _ w11) (hts _ w12) (hts _ w13) (by omega) (by omega) hrc hrs hd ?_
  have e1 : (if Int32.ofInt b < Int32.ofInt a then Int32.ofInt b else Int32.ofInt a) = Int32.ofInt (if b < a then b else a) := by
    by_cases h : b < a
    · rw [if_pos h, if_pos ((fd_ltI hg.2.1 hg.1).mpr h)]
    · rw [if_neg h, if_neg (fun q => h ((fd_ltI hg.2.1 hg.1).mp q))]
  rw [e1]
  exact k1
end fdK3
end
section
theorem fd_gmem {w : Jvm.Cond} (h : w ∈ lw_tbl) (hg : goodWord w = true) : w ∈ fd_gtbl := List.mem_filter.mpr ⟨h, hg⟩
theorem fd_lb_words : Jvm.Cond.constantLong "java/lang/Long" 314 6148914691236517205 ∈ lw_tbl ∧ Jvm.Cond.constantLong "java/lang/Long" 316 3689348814741910323 ∈ lw_tbl ∧ Jvm.Cond.constantLong "java/lang/Long" 318 1085102592571150095 ∈ lw_tbl := by decide +kernel
set_option maxRecDepth 20000 in
/-- Long.bitCount, as its code counts -/
theorem fd_lbcM (l : Launch) (x : Int64) (H : Heap) : Met l fd_lb (.code fd_lb prog_14_method_50_code 2 (some .int) :: fd_gtbl) { frames := 1, cells := 0, slots := 0, locals := 40 } (va_Pc [.long x] (fun U => U.heap = H)) (va_Qi (fun r (_ : Unit) => r = fd_bc x) (fun _ t => t.heap = H) (fun _ => False)) 0 0 (fun _ => False) := by
  refine Met.ofW (cc := prog_14_method_50_code) (maxL := 2) (ret := some .int) (by decide) rfl ?_
  intro p e s m args below meth c s₁ B hml hv
  obtain ⟨rfl, hH⟩ := hv
  have hx := B.exec
  have hb := B.bytes
  have hr := B.returns
  have hts := atoms_spec (ws := .code fd_lb prog_14_method_50_code 2 (some .int) :: fd_gtbl) B.pre
  have hown : s.vm.findClass "java/lang/Long" = some m.cls := findClass_of_methodNamed B.named
  have hlocks := B.notSynchronized
  have c1 := hts _ (List.mem_cons_of_mem _ (fd_gmem fd_lb_words.1 rfl))
  have c2 := hts _ (List.mem_cons_of_mem _ (fd_gmem fd_lb_words.2.1 rfl))
  have c3 := hts _ (List.mem_cons_of_mem _ (fd_gmem fd_lb_words.2.2 rfl))
  have hS : va_S (fun _ => False) s.heap s.heap [] := va_S.rf
  have hl := lv_entry ([.long x]) (n := 2) (Nat.le_of_ble_eq_true rfl)
  rw [lg_entry_eq]
  generalize (lg_sl ([.long x]) ++ List.replicate (2 - (lg_sl ([.long x])).length) Slot.unset).toArray = ls at hl ⊢
  have hl : lv_has ls 2 [(0, .long x)] := hl
  refine lv_lload_n hx hb (by decide +kernel : decode prog_14_method_50_code 0 = .ok (.lload_n 0, 1)) rfl (lv_at hl 0 rfl) ?_
  refine lv_lload_n hx hb (by decide +kernel : decode prog_14_method_50_code 1 = .ok (.lload_n 0, 1)) rfl (lv_at hl 0 rfl) ?_
  refine lv_iconst (v := 1) hx hb (by decide +kernel : decode prog_14_method_50_code 2 = .ok (.iconst 1, 1)) (by decide) ?_
  refine lv_lushr hx hb (by decide +kernel : decode prog_14_method_50_code 3 = .ok (.lushr, 1)) rfl ?_
  refine lv_ldc2 hx hb hown c1 (by decide +kernel : decode prog_14_method_50_code 4 = .ok (.ldc2_w 314, 3)) ?_
  refine lv_land hx hb (by decide +kernel : decode prog_14_method_50_code 7 = .ok (.land, 1)) ?_
  refine lv_lsub hx hb (by decide +kernel : decode prog_14_method_50_code 8 = .ok (.lsub, 1)) ?_
  refine lv_topl (fun x1 e1 => ?_)
  refine lv_lstore_n (lv' := [(0, .long x1)]) hx hb (by decide +kernel : decode prog_14_method_50_code 9 = .ok (.lstore_n 0, 1)) rfl hl (by decide) rfl (fun ls hl => ?_)
  refine lv_lload_n hx hb (by decide +kernel : decode prog_14_method_50_code 10 = .ok (.lload_n 0, 1)) rfl (lv_at hl 0 rfl) ?_
  refine lv_ldc2 hx hb hown c2 (by decide +kernel : decode prog_14_method_50_code 11 = .ok (.ldc2_w 316, 3)) ?_
  refine lv_land hx hb (by decide +kernel : decode prog_14_method_50_code 14 = .ok (.land, 1)) ?_
  refine lv_lload_n hx hb (by decide +kernel : decode prog_14_method_50_code 15 = .ok (.lload_n 0, 1)) rfl (lv_at hl 0 rfl) ?_
  refine lv_iconst (v := 2) hx hb (by decide +kernel : decode prog_14_method_50_code 16 = .ok (.iconst 2, 1)) (by decide) ?_
  refine lv_lushr hx hb (by decide +kernel : decode prog_14_method_50_code 17 = .ok (.lushr, 1)) rfl ?_
  refine lv_ldc2 hx hb hown c2 (by decide +kernel : decode prog_14_method_50_code 18 = .ok (.ldc2_w 316, 3)) ?_
  refine lv_land hx hb (by decide +kernel : decode prog_14_method_50_code 21 = .ok (.land, 1)) ?_
  refine lv_ladd hx hb (by decide +kernel : decode prog_14_method_50_code 22 = .ok (.ladd, 1)) ?_
  refine lv_topl (fun x2 e2 => ?_)
  refine lv_lstore_n (lv' := [(0, .long x2)]) hx hb (by decide +kernel : decode prog_14_method_50_code 23 = .ok (.lstore_n 0, 1)) rfl hl (by decide) rfl (fun ls hl => ?_)
  refine lv_lload_n hx hb (by decide +kernel : decode prog_14_method_50_code 24 = .ok (.lload_n 0, 1)) rfl (lv_at hl 0 rfl) ?_
  refine lv_lload_n hx hb (by decide +kernel : decode prog_14_method_50_code 25 = .ok (.lload_n 0, 1)) rfl (lv_at hl 0 rfl) ?_
  refine lv_iconst (v := 4) hx hb (by decide +kernel : decode prog_14_method_50_code 26 = .ok (.iconst 4, 1)) (by decide) ?_
  refine lv_lushr hx hb (by decide +kernel : decode prog_14_method_50_code 27 = .ok (.lushr, 1)) rfl ?_
  refine lv_ladd hx hb (by decide +kernel : decode prog_14_method_50_code 28 = .ok (.ladd, 1)) ?_
  refine lv_ldc2 hx hb hown c3 (by decide +kernel : decode prog_14_method_50_code 29 = .ok (.ldc2_w 318, 3)) ?_
  refine lv_land hx hb (by decide +kernel : decode prog_14_method_50_code 32 = .ok (.land, 1)) ?_
  refine lv_topl (fun x3 e3 => ?_)
  refine lv_lstore_n (lv' := [(0, .long x3)]) hx hb (by decide +kernel : decode prog_14_method_50_code 33 = .ok (.lstore_n 0, 1)) rfl hl (by decide) rfl (fun ls hl => ?_)
  refine lv_lload_n hx hb (by decide +kernel : decode prog_14_method_50_code 34 = .ok (.lload_n 0, 1)) rfl (lv_at hl 0 rfl) ?_
  refine lv_lload_n hx hb (by decide +kernel : decode prog_14_method_50_code 35 = .ok (.lload_n 0, 1)) rfl (lv_at hl 0 rfl) ?_
  refine lv_bipush (v := 8) hx hb (by decide +kernel : decode prog_14_method_50_code 36 = .ok (.bipush 8, 2)) (by decide) ?_
  refine lv_lushr hx hb (by decide +kernel : decode prog_14_method_50_code 38 = .ok (.lushr, 1)) rfl ?_
  refine lv_ladd hx hb (by decide +kernel : decode prog_14_method_50_code 39 = .ok (.ladd, 1)) ?_
  refine lv_topl (fun x4 e4 => ?_)
  refine lv_lstore_n (lv' := [(0, .long x4)]) hx hb (by decide +kernel : decode prog_14_method_50_code 40 = .ok (.lstore_n 0, 1)) rfl hl (by decide) rfl (fun ls hl => ?_)
  refine lv_lload_n hx hb (by decide +kernel : decode prog_14_method_50_code 41 = .ok (.lload_n 0, 1)) rfl (lv_at hl 0 rfl) ?_
  refine lv_lload_n hx hb (by decide +kernel : decode prog_14_method_50_code 42 = .ok (.lload_n 0, 1)) rfl (lv_at hl 0 rfl) ?_
  refine lv_bipush (v := 16) hx hb (by decide +kernel : decode prog_14_method_50_code 43 = .ok (.bipush 16, 2)) (by decide) ?_
  refine lv_lushr hx hb (by decide +kernel : decode prog_14_method_50_code 45 = .ok (.lushr, 1)) rfl ?_
  refine lv_ladd hx hb (by decide +kernel : decode prog_14_method_50_code 46 = .ok (.ladd, 1)) ?_
  refine lv_topl (fun x5 e5 => ?_)
  refine lv_lstore_n (lv' := [(0, .long x5)]) hx hb (by decide +kernel : decode prog_14_method_50_code 47 = .ok (.lstore_n 0, 1)) rfl hl (by decide) rfl (fun ls hl => ?_)
  refine lv_lload_n hx hb (by decide +kernel : decode prog_14_method_50_code 48 = .ok (.lload_n 0, 1)) rfl (lv_at hl 0 rfl) ?_
  refine lv_lload_n hx hb (by decide +kernel : decode prog_14_method_50_code 49 = .ok (.lload_n 0, 1)) rfl (lv_at hl 0 rfl) ?_
  refine lv_bipush (v := 32) hx hb (by decide +kernel : decode prog_14_method_50_code 50 = .ok (.bipush 32, 2)) (by decide) ?_
  refine lv_lushr hx hb (by decide +kernel : decode prog_14_method_50_code 52 = .ok (.lushr, 1)) rfl ?_
  refine lv_ladd hx hb (by decide +kernel : decode prog_14_method_50_code 53 = .ok (.ladd, 1)) ?_
  refine lv_topl (fun x6 e6 => ?_)
  refine lv_lstore_n (lv' := [(0, .long x6)]) hx hb (by decide +kernel : decode prog_14_method_50_code 54 = .ok (.lstore_n 0, 1)) rfl hl (by decide) rfl (fun ls hl => ?_)
  refine lv_lload_n hx hb (by decide +kernel : decode prog_14_method_50_code 55 = .ok (.lload_n 0, 1)) rfl (lv_at hl 0 rfl) ?_
  refine lv_l2i hx hb (by decide +kernel : decode prog_14_method_50_code 56 = .ok (.l2i, 1)) rfl ?_
  refine lv_bipush (v := 127) hx hb (by decide +kernel : decode prog_14_method_50_code 57 = .ok (.bipush 127, 2)) (by decide) ?_
  refine lv_iand hx hb (by decide +kernel : decode prog_14_method_50_code 59 = .ok (.iand, 1)) ?_
  refine W.iret hx hb hr (fun t ht hW => ⟨⟨_, (), rfl, ?_, ht.trans hH⟩, hS.F ht⟩) hS.2.2 (by decide +kernel : decode prog_14_method_50_code 60 = .ok (.ireturn, 1))
  rw [e6, e5, e4, e3, e2, e1]
  rfl
end
section
section fdK4
variable {g : fd_G} {ph : Bool} {p : Program} {l : Launch} {e : Env} {R : Room} {s : State} {m : MethodId} {args : Array Value} {below : List Frame} {meth : Method} {c : Code} {mm a0 i pc : Nat} {Q : State → Prop} {as : List Int} {L L' st st' : List fd_V} {M M' : fd_M} {H : Heap} {locs : List Loc} {la : Array Slot}
theorem fd_good_in {w : Jvm.Cond} (h : w ∈ fd_gtbl) : w ∈ fd_tbl ∧ ((w.onTables && w.keeps) = true ∨ ∃ ty, w = .arrayClass ty) := ⟨fd_mt (List.mem_filter.mp h).1 (by rw [(List.mem_filter.mp h).2]; rfl), good_of_word (List.mem_filter.mp h).2⟩
theorem fd_goodIn {y : MethodName} {b : ByteArray} {n : Nat} {r : Option FieldType} (h : Jvm.Cond.code y b n r ∈ fd_tbl) : GoodIn fd_tbl (.code y b n r :: fd_gtbl) := by
  intro w hw
  rcases List.mem_cons.mp hw with rfl | hw
  · exact ⟨h, good_of_word rfl⟩
  · exact fd_good_in hw
theorem fd_k41 (cx : fd_cx g p R s m args meth c mm) (hok : fd_okI (fd_y mm).cls (fd_b mm) (fd_ini mm) (fd_pcs mm) pc ((fd_pcs mm).getD (i + 1) 0) 41 as = true) (hn : fd_nx ph 41 as L st M = some (true, L', st', M')) (kk : fd_Go g ph p l e R s m args below meth c mm a0 Q (i + 1) L' st' M') (hH : fd_hp g ph M H) (hS : va_S (fd_A g) s.heap H locs) (hl : fd_lr g la (fd_mL mm) L) (hrc : fd_ap M' - a0 ≤ R.cells) (hrs : fd_sl (fd_ap M') - fd_sl a0 ≤ R.slots) (ha0 : a0 ≤ fd_ap M) : W p l e R s m args below meth c H locs (fd_ap M - a0) (fd_sl (fd_ap M) - fd_sl a0) Q (F0 m pc la (st.map (fd_cv g))) := by
  obtain ⟨hx, hb, hml, hr, hown, hts, hlk, hini, ⟨hK, hNw, hSt⟩, hbs, h177, hfr, hlo⟩ := cx
  obtain ⟨w1, w2, w3, w4, w5, w6, w7, w8, w9, w10, w11, w12, w13, w14, w15, w16⟩ := fd_okXs
  rw [fd_okI, Bool.and_eq_true] at hok
  obtain ⟨hd, hnx⟩ := fd_dc_inv hok.1
  obtain ⟨a, r, rfl, hn1⟩ := fd_pJ_inv hn
  obtain ⟨hg, rfl, rfl, rfl⟩ := fd_some4 hn1
  have hr4 : r.length ≤ 4 := by simpa using hg
  have hsum := fd_sum_le g r
  refine va_calli (A1 := fun _ => False) (free := fun _ => False) (rest := r.map (fd_cv g)) (va_runS (As := [.long (Int64.ofInt a)]) ⟨hx, hb, hml, hown, hts⟩ (fd_lbcM l (Int64.ofInt a) H) ⟨callB_of 1 hts (fd_goodIn w16) rfl rfl rfl (hts _ w15) (hts _ (fd_wd_mem hok.2)) ⟨by decide, by decide, by decide +kernel⟩ ⟨by show 1 + 1 ≤ R.frames; omega, by show 8 + (2 + 11) + 40 ≤ R.locals; omega⟩, hts _ w14⟩ ⟨fun a' U g' mk q => q, fun U hU hW => ⟨rfl, hU⟩⟩ rfl rfl (hl.2.2.1) rfl (lv_room (by omega)) hd ⟨hrc, hrs⟩) hS (fun q _ h => h.elim) (fun q h => h.elim) (fun r1 u t H1 l1 ht hvm hp hB hz hk1 hS1 => ?_)
  subst hp
  have e1 : H1 = H := ht.symm.trans hB
  subst e1
  have k1 := kk (pc + 3) H1 l1 la (fd_nxt hnx (by decide)) hH hS1 hl
  have e2 : Int32.ofInt (fd_lbc a) = fd_bc (Int64.ofInt a) := Int32.ofInt_toInt _
  rw [List.map_cons, show fd_cv g (fd_I (fd_lbc a)) = .int (fd_bc (Int64.ofInt a)) from congrArg Value.int e2] at k1
  exact k1
theorem fd_step {op : Nat} (cx : fd_cx g p R s m args meth c mm) (hok : fd_okI (fd_y mm).cls (fd_b mm) (fd_ini mm) (fd_pcs mm) pc ((fd_pcs mm).getD (i + 1) 0) op as = true) (hn : fd_nx ph op as L st M = some (true, L', st', M')) (kk : fd_Go g ph p l e R s m args below meth c mm a0 Q (i + 1) L' st' M') (hH : fd_hp g ph M H) (hS : va_S (fd_A g) s.heap H locs) (hl : fd_lr g la (fd_mL mm) L) (hrc : fd_ap M' - a0 ≤ R.cells) (hrs : fd_sl (fd_ap M') - fd_sl a0 ≤ R.slots) (ha0 : a0 ≤ fd_ap M) : W p l e R s m args below meth c H locs (fd_ap M - a0) (fd_sl (fd_ap M) - fd_sl a0) Q (F0 m pc la (st.map (fd_cv g))) := by
  match op, hok, hn with
  | 0, hok, hn => exact fd_k0 cx hok hn kk hH hS hl
  | 1, hok, hn => exact fd_k1 cx hok hn kk hH hS hl
  | 2, hok, hn => exact fd_k2 cx hok hn kk hH hS hl
  | 3, hok, hn => exact fd_k3 cx hok hn kk hH hS hl
  | 4, hok, hn => exact fd_k4 cx hok hn kk hH hS hl
  | 5, hok, hn => exact fd_k5 cx hok hn kk hH hS hl
  | 6, hok, hn => exact fd_k6 cx hok hn kk hH hS hl
  | 7, hok, hn => exact fd_k7 cx hok hn kk hH hS hl
  | 8, hok, hn => exact fd_k8 cx hok hn kk hH hS hl
  | 9, hok, hn => exact fd_k9 cx hok hn kk hH hS hl
  | 10, hok, hn => exact fd_k10 cx hok hn kk hH hS hl
  | 11, hok, hn => exact fd_k11 cx hok hn kk hH hS hl
  | 12, hok, hn => exact fd_k12 cx hok hn kk hH hS hl
  | 13, hok, hn => exact fd_k13 cx hok hn kk hH hS hl
  | 14, hok, hn => exact fd_k14 cx hok hn kk hH hS hl
  | 15, hok, hn => exact fd_k15 cx hok hn kk hH hS hl
  | 16, hok, hn => exact fd_k16 cx hok hn kk hH hS hl
  | 17, hok, hn => exact fd_k17 cx hok hn kk hH hS hl
  | 18, hok, hn => exact fd_k18 cx hok hn kk hH hS hl
  | 19, hok, hn => exact fd_k19 cx hok hn kk hH hS hl
  | 20, hok, hn => exact fd_k20 cx hok hn kk hH hS hl
  | 21, hok, hn => exact fd_k21 cx hok hn kk hH hS hl
  | 22, hok, hn => exact fd_k22 cx hok hn kk hH hS hl
  | 23, hok, hn => exact fd_k23 cx hok hn kk hH hS hl
  | 24, hok, hn => exact fd_k24 cx hok hn kk hH hS hl
  | 25, hok, hn => exact fd_k25 cx hok hn kk hH hS hl
  | 26, hok, hn => exact fd_k26 cx hok hn kk hH hS hl
  | 27, hok, hn => exact fd_k27 cx hok hn kk hH hS hl
  | 28, hok, hn => exact fd_k28 cx hok hn kk hH hS hl
  | 29, hok, hn => exact fd_k29 cx hok hn kk hH hS hl
  | 30, hok, hn => exact fd_k30 cx hok hn kk hH hS hl
  | 31, hok, hn => exact fd_k31 cx hok hn kk hH hS hl
  | 32, hok, hn => exact fd_k32 cx hok hn kk hH hS hl
  | 33, hok, hn => exact fd_k33 cx hok hn kk hH hS hl
  | 34, hok, hn => exact fd_k34 cx hok hn kk hH hS hl
  | 35, hok, hn => exact fd_k35 cx hok hn kk hH hS hl
  | 36, hok, hn => exact fd_k36 cx hok hn kk hH hS hl
  | 37, hok, hn => exact fd_k37 cx hok hn kk hH hS hl hrc hrs ha0
  | 38, hok, hn => exact fd_k38 cx hok hn kk hH hS hl hrc hrs ha0
  | 39, hok, hn => exact fd_k39 cx hok hn kk hH hS hl hrc hrs ha0
  | 40, hok, hn => exact fd_k40 cx hok hn kk hH hS hl hrc hrs ha0
  | 41, hok, hn => exact fd_k41 cx hok hn kk hH hS hl hrc hrs ha0
  | 42, hok, hn => exact fd_k42 cx hok hn kk hH hS hl hrc hrs ha0
  | 43, hok, hn => exact fd_k43 cx hok hn kk hH hS hl
  | 44, hok, hn => exact fd_k44 cx hok hn kk hH hS hl hrc hrs ha0
  | 45, hok, hn => exact fd_k45 cx hok hn kk hH hS hl
  | n + 46, hok, hn => cases hn
theorem fd_up_mono {M : fd_M} {c k : Nat} {v : Int} (h : (fd_SH c).1 ≤ 24) : fd_ap M ≤ fd_ap (fd_up M c k v) := by
  have e : fd_up M c k v 5000 0 = M 5000 0 := fd_up_ap (fd_sh_at h).1
  show (M 5000 0).toNat ≤ Int.toNat _
  rw [e]
  exact Nat.le_refl _
theorem fd_nw_mono {M : fd_M} {f : Nat → Int} (h : (fd_SH (fd_ap M)).1 ≤ 24) : fd_ap M ≤ fd_ap (fd_nw M f) := by
  have h1 := (fd_sh_at h).1
  have e : fd_nw M f 5000 0 = M 5000 0 + 1 := by
    have h1 : ¬ (5000 = (M 5000 0).toNat) := by
      intro q
      have : fd_ap M = 5000 := q.symm
      omega
    simp [fd_nw, h1]
  show (M 5000 0).toNat ≤ Int.toNat _
  rw [e]
  omega
theorem fd_nx_mono {own : String} {b : ByteArray} {ini : Bool} {pcs : List Nat} {pc nx op : Nat} {as : List Int} {ph : Bool} {L L' st st' : List fd_V} {M M' : fd_M} (hok : fd_okI own b ini pcs pc nx op as = true) (hn : fd_nx ph op as L st M = some (true, L', st', M')) : fd_ap M ≤ fd_ap M' := by
  match op, hok, hn with
  | 0, hok, hn => obtain ⟨-, -, -, rfl⟩ := fd_some4 hn; exact Nat.le_refl _
  | 1, hok, hn => obtain ⟨_, _, hn⟩ := fd_lI_inv hn; obtain ⟨-, -, -, rfl⟩ := fd_some4 hn; exact Nat.le_refl _
  | 2, hok, hn => obtain ⟨_, _, hn⟩ := fd_lR_inv hn; obtain ⟨-, -, -, rfl⟩ := fd_some4 hn; exact Nat.le_refl _
  | 3, hok, hn => obtain ⟨v1, r1, rfl, hn1⟩ := fd_pI_inv hn; obtain ⟨-, -, -, rfl⟩ := fd_some4 hn1; exact Nat.le_refl _
  | 4, hok, hn => obtain ⟨v1, r1, rfl, hn1⟩ := fd_pR_inv hn; obtain ⟨-, -, -, rfl⟩ := fd_some4 hn1; exact Nat.le_refl _
  | 5, hok, hn => obtain ⟨_, _, hn⟩ := fd_lI_inv hn; obtain ⟨-, -, -, rfl⟩ := fd_some4 hn; exact Nat.le_refl _
  | 6, hok, hn => obtain ⟨v1, r1, rfl, hn1⟩ := fd_pI_inv hn; obtain ⟨v2, r2, rfl, hn2⟩ := fd_pI_inv hn1; obtain ⟨-, -, -, rfl⟩ := fd_some4 hn2; exact Nat.le_refl _
  | 7, hok, hn => obtain ⟨v1, r1, rfl, hn1⟩ := fd_pI_inv hn; obtain ⟨v2, r2, rfl, hn2⟩ := fd_pI_inv hn1; obtain ⟨-, -, -, rfl⟩ := fd_some4 hn2; exact Nat.le_refl _
  | 8, hok, hn => obtain ⟨v1, r1, rfl, hn1⟩ := fd_pI_inv hn; obtain ⟨v2, r2, rfl, hn2⟩ := fd_pI_inv hn1; obtain ⟨-, -, -, rfl⟩ := fd_some4 hn2; exact Nat.le_refl _
  | 9, hok, hn => obtain ⟨v1, r1, rfl, hn1⟩ := fd_pI_inv hn; obtain ⟨v2, r2, rfl, hn2⟩ := fd_pI_inv hn1; obtain ⟨-, -, -, rfl⟩ := fd_some4 hn2; exact Nat.le_refl _
  | 10, hok, hn => obtain ⟨v1, r1, rfl, hn1⟩ := fd_pI_inv hn; obtain ⟨v2, r2, rfl, hn2⟩ := fd_pI_inv hn1; obtain ⟨-, -, -, rfl⟩ := fd_some4 hn2; exact Nat.le_refl _
  | 11, hok, hn => obtain ⟨v1, r1, rfl, hn1⟩ := fd_pI_inv hn; obtain ⟨v2, r2, rfl, hn2⟩ := fd_pI_inv hn1; obtain ⟨-, -, -, rfl⟩ := fd_some4 hn2; exact Nat.le_refl _
  | 12, hok, hn => obtain ⟨v1, r1, rfl, hn1⟩ := fd_pI_inv hn; obtain ⟨v2, r2, rfl, hn2⟩ := fd_pI_inv hn1; obtain ⟨-, -, -, rfl⟩ := fd_some4 hn2; exact Nat.le_refl _
  | 13, hok, hn => obtain ⟨v1, r1, rfl, hn1⟩ := fd_pI_inv hn; obtain ⟨v2, r2, rfl, hn2⟩ := fd_pI_inv hn1; obtain ⟨-, -, -, rfl⟩ := fd_some4 hn2; exact Nat.le_refl _
  | 14, hok, hn => obtain ⟨v1, r1, rfl, hn1⟩ := fd_pI_inv hn; obtain ⟨v2, r2, rfl, hn2⟩ := fd_pI_inv hn1; obtain ⟨-, -, -, rfl⟩ := fd_some4 hn2; exact Nat.le_refl _
  | 15, hok, hn => obtain ⟨v1, r1, rfl, hn1⟩ := fd_pI_inv hn; obtain ⟨v2, r2, rfl, hn2⟩ := fd_pI_inv hn1; obtain ⟨-, -, -, rfl⟩ := fd_some4 hn2; exact Nat.le_refl _
  | 16, hok, hn => obtain ⟨v1, r1, rfl, hn1⟩ := fd_pI_inv hn; obtain ⟨v2, r2, rfl, hn2⟩ := fd_pI_inv hn1; obtain ⟨-, -, -, rfl⟩ := fd_some4 hn2; exact Nat.le_refl _
  | 17, hok, hn => obtain ⟨-, -, -, rfl⟩ := fd_some4 hn; exact Nat.le_refl _
  | 18, hok, hn => obtain ⟨v1, r1, rfl, hn1⟩ := fd_pJ_inv hn; obtain ⟨v2, r2, rfl, hn2⟩ := fd_pJ_inv hn1; obtain ⟨-, -, -, rfl⟩ := fd_some4 hn2; exact Nat.le_refl _
  | 19, hok, hn => obtain ⟨v1, r1, rfl, hn1⟩ := fd_pJ_inv hn; obtain ⟨v2, r2, rfl, hn2⟩ := fd_pJ_inv hn1; obtain ⟨-, -, -, rfl⟩ := fd_some4 hn2; exact Nat.le_refl _
  | 20, hok, hn => obtain ⟨v1, r1, rfl, hn1⟩ := fd_pJ_inv hn; obtain ⟨v2, r2, rfl, hn2⟩ := fd_pJ_inv hn1; obtain ⟨-, -, -, rfl⟩ := fd_some4 hn2; exact Nat.le_refl _
  | 21, hok, hn => obtain ⟨v1, r1, rfl, hn1⟩ := fd_pI_inv hn; obtain ⟨v2, r2, rfl, hn2⟩ := fd_pJ_inv hn1; obtain ⟨-, -, -, rfl⟩ := fd_some4 hn2; exact Nat.le_refl _
  | 22, hok, hn => obtain ⟨v1, r1, rfl, hn1⟩ := fd_pJ_inv hn; obtain ⟨v2, r2, rfl, hn2⟩ := fd_pJ_inv hn1; obtain ⟨-, -, -, rfl⟩ := fd_some4 hn2; exact Nat.le_refl _
  | 23, hok, hn => obtain ⟨v1, r1, rfl, hn1⟩ := fd_pI_inv hn; obtain ⟨-, -, -, rfl⟩ := fd_some4 hn1; exact Nat.le_refl _
  | 24, hok, hn =>
    rcases st with _ | ⟨⟨a⟩ | ⟨a⟩ | ⟨a⟩, r⟩
    · cases hn
    · obtain ⟨-, -, -, rfl⟩ := fd_some4 hn; exact Nat.le_refl _
    · cases hn
    · obtain ⟨-, -, -, rfl⟩ := fd_some4 hn; exact Nat.le_refl _
  | 25, hok, hn => obtain ⟨v1, r1, rfl, hn1⟩ := fd_pI_inv hn; obtain ⟨v2, r2, rfl, hn2⟩ := fd_pR_inv hn1; obtain ⟨-, -, -, rfl⟩ := fd_some4 hn2; exact Nat.le_refl _
  | 26, hok, hn => obtain ⟨v1, r1, rfl, hn1⟩ := fd_pI_inv hn; obtain ⟨-, -, -, rfl⟩ := fd_some4 hn1; exact Nat.le_refl _
  | 27, hok, hn => obtain ⟨v1, r1, rfl, hn1⟩ := fd_pR_inv hn; obtain ⟨-, -, -, rfl⟩ := fd_some4 hn1; exact Nat.le_refl _
  | 28, hok, hn =>
    rw [fd_okI, Bool.and_eq_true, Bool.and_eq_true] at hok
    obtain ⟨hci, -, -, -⟩ := fd_okF_inv hok.2.1
    have hn : fd_put ph (fd_n as 0) (fd_n as 1) (fd_n as 2) L st M = some (true, L', st', M') := hn
    unfold fd_put at hn
    split at hn
    · obtain ⟨_, _, rfl, hn1⟩ := fd_pI_inv hn; obtain ⟨_, _, rfl, hn2⟩ := fd_pR_inv hn1; obtain ⟨hg, -, -, rfl⟩ := fd_some4 hn2; exact fd_up_mono (by rw [(fd_isO_inv hg).1]; omega)
    · obtain ⟨_, _, rfl, hn1⟩ := fd_pJ_inv hn; obtain ⟨_, _, rfl, hn2⟩ := fd_pR_inv hn1; obtain ⟨hg, -, -, rfl⟩ := fd_some4 hn2; exact fd_up_mono (by rw [(fd_isO_inv hg).1]; omega)
    · obtain ⟨_, _, rfl, hn1⟩ := fd_pR_inv hn; obtain ⟨_, _, rfl, hn2⟩ := fd_pR_inv hn1; obtain ⟨hg, -, -, rfl⟩ := fd_some4 hn2
      rw [Bool.and_eq_true, Bool.and_eq_true] at hg
      exact fd_up_mono (by rw [(fd_isO_inv hg.2.1).1]; omega)
    · obtain ⟨_, _, rfl, hn1⟩ := fd_pI_inv hn; obtain ⟨_, _, rfl, hn2⟩ := fd_pR_inv hn1; obtain ⟨hg, -, -, rfl⟩ := fd_some4 hn2
      rw [Bool.and_eq_true] at hg
      exact fd_up_mono (by rw [(fd_isO_inv hg.1).1]; omega)
    · cases hn
  | 29, hok, hn => obtain ⟨-, -, -, rfl⟩ := fd_some4 hn; exact Nat.le_refl _
  | 30, hok, hn => obtain ⟨v1, r1, rfl, hn1⟩ := fd_pI_inv hn; obtain ⟨v2, r2, rfl, hn2⟩ := fd_pR_inv hn1; obtain ⟨-, -, -, rfl⟩ := fd_some4 hn2; exact Nat.le_refl _
  | 31, hok, hn => obtain ⟨v1, r1, rfl, hn1⟩ := fd_pI_inv hn; obtain ⟨v2, r2, rfl, hn2⟩ := fd_pI_inv hn1; obtain ⟨v3, r3, rfl, hn3⟩ := fd_pR_inv hn2; obtain ⟨hg, -, -, rfl⟩ := fd_some4 hn3; exact fd_up_mono (by rw [(fd_isA_inv hg).1]; decide)
  | 32, hok, hn => obtain ⟨v1, r1, rfl, hn1⟩ := fd_pI_inv hn; obtain ⟨v2, r2, rfl, hn2⟩ := fd_pR_inv hn1; obtain ⟨-, -, -, rfl⟩ := fd_some4 hn2; exact Nat.le_refl _
  | 33, hok, hn =>
    obtain ⟨v1, r1, rfl, hn1⟩ := fd_pI_inv hn; obtain ⟨v2, r2, rfl, hn2⟩ := fd_pI_inv hn1; obtain ⟨v3, r3, rfl, hn3⟩ := fd_pR_inv hn2; obtain ⟨hg, -, -, rfl⟩ := fd_some4 hn3
    rw [Bool.or_eq_true, Bool.and_eq_true, Bool.and_eq_true] at hg
    rcases hg with hg | hg <;> exact fd_up_mono (by rw [(fd_isA_inv hg.1).1]; decide)
  | 34, hok, hn => obtain ⟨v1, r1, rfl, hn1⟩ := fd_pI_inv hn; obtain ⟨v2, r2, rfl, hn2⟩ := fd_pR_inv hn1; obtain ⟨-, -, -, rfl⟩ := fd_some4 hn2; exact Nat.le_refl _
  | 35, hok, hn =>
    obtain ⟨v1, r1, rfl, hn1⟩ := fd_pR_inv hn; obtain ⟨v2, r2, rfl, hn2⟩ := fd_pI_inv hn1; obtain ⟨v3, r3, rfl, hn3⟩ := fd_pR_inv hn2; obtain ⟨hg, -, -, rfl⟩ := fd_some4 hn3
    rw [Bool.or_eq_true, Bool.and_eq_true, Bool.and_eq_true] at hg
    rcases hg with hg | hg <;> exact fd_up_mono (by rw [(fd_isA_inv hg.1).1]; decide)
  | 36, hok, hn => obtain ⟨v1, r1, rfl, hn1⟩ := fd_pR_inv hn; obtain ⟨-, -, -, rfl⟩ := fd_some4 hn1; exact Nat.le_refl _
  | 37, hok, hn =>
    have h24 : fd_n as 0 ≤ 24 := by
      rw [fd_okI, Bool.and_eq_true, Bool.and_eq_true] at hok
      have := of_decide_eq_true hok.2.1
      omega
    obtain ⟨hg, -, -, rfl⟩ := fd_some4 hn
    rw [Bool.and_eq_true, Bool.and_eq_true] at hg
    exact fd_nw_mono (by rw [Nat.eq_of_beq_eq_true hg.2.1]; exact h24)
  | 38, hok, hn =>
    have h24 : fd_n as 0 ≤ 24 := by
      rw [fd_okI, Bool.and_eq_true] at hok
      have := of_decide_eq_true hok.2
      omega
    obtain ⟨v1, r1, rfl, hn1⟩ := fd_pI_inv hn; obtain ⟨hg, -, -, rfl⟩ := fd_some4 hn1
    rw [Bool.and_eq_true, Bool.and_eq_true] at hg
    exact fd_nw_mono (by rw [Nat.eq_of_beq_eq_true hg.2.1]; exact h24)
  | 39, hok, hn =>
    have h24 : fd_n as 0 ≤ 24 := by
      rw [fd_okI, Bool.and_eq_true, Bool.and_eq_true] at hok
      have := of_decide_eq_true hok.2.1
      omega
    obtain ⟨v1, r1, rfl, hn1⟩ := fd_pI_inv hn; obtain ⟨hg, -, -, rfl⟩ := fd_some4 hn1
    rw [Bool.and_eq_true, Bool.and_eq_true] at hg
    exact fd_nw_mono (by rw [Nat.eq_of_beq_eq_true hg.2.1]; exact h24)
  | 40, hok, hn =>
    obtain ⟨v1, r1, rfl, hn1⟩ := fd_pI_inv hn; obtain ⟨v2, r2, rfl, hn2⟩ := fd_pI_inv hn1; obtain ⟨v3, r3, rfl, hn3⟩ := fd_pR_inv hn2; obtain ⟨v4, r4, rfl, hn4⟩ := fd_pI_inv hn3; obtain ⟨v5, r5, rfl, hn5⟩ := fd_pR_inv hn4; obtain ⟨hg, -, -, rfl⟩ := fd_some4 hn5
    rw [Bool.and_eq_true, Bool.and_eq_true, Bool.and_eq_true, Bool.and_eq_true, Bool.and_eq_true] at hg
    have hs2 := Nat.eq_of_beq_eq_true hg.1.2.1
    have h2 := (fd_sh_at (c := v3) (by omega)).1
    have e : fd_cp M v5 v4.toNat v3 v2.toNat v1.toNat 5000 0 = M 5000 0 := by simp [fd_cp, show ¬ 5000 = v3 by omega]
    show (M 5000 0).toNat ≤ Int.toNat _
    rw [e]
    exact Nat.le_refl _
  | 41, hok, hn => obtain ⟨v1, r1, rfl, hn1⟩ := fd_pJ_inv hn; obtain ⟨-, -, -, rfl⟩ := fd_some4 hn1; exact Nat.le_refl _
  | 42, hok, hn => obtain ⟨v1, r1, rfl, hn1⟩ := fd_pR_inv hn; obtain ⟨-, -, -, rfl⟩ := fd_some4 hn1; exact Nat.le_refl _
  | 43, hok, hn => obtain ⟨v1, r1, rfl, hn1⟩ := fd_pI_inv hn; obtain ⟨v2, r2, rfl, hn2⟩ := fd_pR_inv hn1; obtain ⟨-, -, -, rfl⟩ := fd_some4 hn2; exact Nat.le_refl _
  | 44, hok, hn => obtain ⟨v1, r1, rfl, hn1⟩ := fd_pI_inv hn; obtain ⟨v2, r2, rfl, hn2⟩ := fd_pI_inv hn1; obtain ⟨-, -, -, rfl⟩ := fd_some4 hn2; exact Nat.le_refl _
  | 45, hok, hn => obtain ⟨v1, r1, rfl, hn1⟩ := fd_pI_inv hn; obtain ⟨v2, r2, rfl, hn2⟩ := fd_pJ_inv hn1; obtain ⟨-, -, -, rfl⟩ := fd_some4 hn2; exact Nat.le_refl _
  | n + 46, hok, hn => cases hn
theorem fd_jp_inv {pcs : List Nat} {pc t : Nat} {off : Int} (h : fd_jp pcs pc t off = true) : pcs[t]? = some ((pc : Int) + off).toNat ∧ (pc : Int) + off = ((((pc : Int) + off).toNat : Nat) : Int) := by
  have h1 := of_decide_eq_true h
  exact ⟨h1.1, (Int.toNat_of_nonneg h1.2).symm⟩
theorem fd_icmp_inv {own : String} {b : ByteArray} {ini : Bool} {pcs : List Nat} {pc nx op : Nat} {as : List Int} (h1 : 101 ≤ op) (h2 : op ≤ 106) (h : fd_okI own b ini pcs pc nx op as = true) : ∃ off, decode b pc = .ok (.if_icmp (fd_icmp (op - 101)) off, 3) ∧ nx = pc + 3 ∧ fd_jp pcs pc (fd_n as 0) off = true := by
  unfold fd_okI at h
  split at h
  all_goals first | omega | skip
  rw [if_pos ⟨h1, h2⟩] at h
  split at h
  · rename_i cd off hde
    rw [Bool.and_eq_true] at h
    obtain ⟨e1, e2⟩ := of_decide_eq_true h.1
    subst e1
    exact ⟨off, hde, e2, h.2⟩
  · cases h
theorem fd_ifc_inv {own : String} {b : ByteArray} {ini : Bool} {pcs : List Nat} {pc nx op : Nat} {as : List Int} (h1 : 107 ≤ op) (h2 : op ≤ 112) (h : fd_okI own b ini pcs pc nx op as = true) : ∃ off, decode b pc = .ok (.ifCond (fd_icmp (op - 107)) off, 3) ∧ nx = pc + 3 ∧ fd_jp pcs pc (fd_n as 0) off = true := by
  unfold fd_okI at h
  split at h
  all_goals first | omega | skip
  rw [if_neg (by omega), if_pos ⟨h1, h2⟩] at h
  split at h
  · rename_i cd off hde
    rw [Bool.and_eq_true] at h
    obtain ⟨e1, e2⟩ := of_decide_eq_true h.1
    subst e1
    exact ⟨off, hde, e2, h.2⟩
  · cases h
theorem fd_j100 {j : Nat} (cx : fd_cx g p R s m args meth c mm) (hok : fd_okI (fd_y mm).cls (fd_b mm) (fd_ini mm) (fd_pcs mm) pc ((fd_pcs mm).getD (i + 1) 0) 100 as = true) (hn : fd_jmp 100 as i st = some (true, j, st')) (kk : fd_Go g ph p l e R s m args below meth c mm a0 Q j L st' M) (hH : fd_hp g ph M H) (hS : va_S (fd_A g) s.heap H locs) (hl : fd_lr g la (fd_mL mm) L) : W p l e R s m args below meth c H locs (fd_ap M - a0) (fd_sl (fd_ap M) - fd_sl a0) Q (F0 m pc la (st.map (fd_cv g))) := by
  rw [fd_okI] at hok
  split at hok
  · rename_i off hd
    obtain ⟨h1, h2⟩ := fd_jp_inv hok
    cases hn
    exact lv_goto cx.1 cx.2.1 hd h2 (kk _ H locs la h1 hH hS hl)
  · cases hok
theorem fd_j101 {j : Nat} (cx : fd_cx g p R s m args meth c mm) (hok : fd_okI (fd_y mm).cls (fd_b mm) (fd_ini mm) (fd_pcs mm) pc ((fd_pcs mm).getD (i + 1) 0) 101 as = true) (hn : fd_jmp 101 as i st = some (true, j, st')) (kk : fd_Go g ph p l e R s m args below meth c mm a0 Q j L st' M) (hH : fd_hp g ph M H) (hS : va_S (fd_A g) s.heap H locs) (hl : fd_lr g la (fd_mL mm) L) : W p l e R s m args below meth c H locs (fd_ap M - a0) (fd_sl (fd_ap M) - fd_sl a0) Q (F0 m pc la (st.map (fd_cv g))) := by
  obtain ⟨off, hd, hnx, hjp⟩ := fd_icmp_inv (by decide) (by decide) hok
  obtain ⟨h1, h2⟩ := fd_jp_inv hjp
  rcases st with _ | ⟨⟨b⟩ | ⟨b⟩ | ⟨b⟩, r⟩
  · cases hn
  rotate_left
  · cases hn
  · cases hn
  rcases r with _ | ⟨⟨a⟩ | ⟨a⟩ | ⟨a⟩, r⟩
  · cases hn
  rotate_left
  · cases hn
  · cases hn
  have hn : (some (fd_rng a && fd_rng b, (if a = b then fd_n as 0 else i + 1), r) : Option (Bool × Nat × List fd_V)) = some (true, j, st') := hn
  injection hn with hn
  injection hn with hr hn
  injection hn with hj hs
  subst hj
  subst hs
  rw [Bool.and_eq_true, fd_rng_iff, fd_rng_iff] at hr
  refine lv_icmp_eq cx.1 cx.2.1 hd h2 (fun q => ?_) (fun q => ?_)
  · rw [if_pos ((fd_eqI hr.1 hr.2).mp q)] at kk
    exact kk _ H locs la h1 hH hS hl
  · rw [if_neg (fun z => q ((fd_eqI hr.1 hr.2).mpr z))] at kk
    exact kk _ H locs la (fd_nxt hnx (by decide)) hH hS hl
theorem fd_j102 {j : Nat} (cx : fd_cx g p R s m args meth c mm) (hok : fd_okI (fd_y mm).cls (fd_b mm) (fd_ini mm) (fd_pcs mm) pc ((fd_pcs mm).getD (i + 1) 0) 102 as = true) (hn : fd_jmp 102 as i st = some (true, j, st')) (kk : fd_Go g ph p l e R s m args below meth c mm a0 Q j L st' M) (hH : fd_hp g ph M H) (hS : va_S (fd_A g) s.heap H locs) (hl : fd_lr g la (fd_mL mm) L) : W p l e R s m args below meth c H locs (fd_ap M - a0) (fd_sl (fd_ap M) - fd_sl a0) Q (F0 m pc la (st.map (fd_cv g))) := by
  obtain ⟨off, hd, hnx, hjp⟩ := fd_icmp_inv (by decide) (by decide) hok
  obtain ⟨h1, h2⟩ := fd_jp_inv hjp
  rcases st with _ | ⟨⟨b⟩ | ⟨b⟩ | ⟨b⟩, r⟩
  · cases hn
  rotate_left
  · cases hn
  · cases hn
  rcases r with _ | ⟨⟨a⟩ | ⟨a⟩ | ⟨a⟩, r⟩
  · cases hn
  rotate_left
  · cases hn
  · cases hn
  have hn : (some (fd_rng a && fd_rng b, (if ¬ a = b then fd_n as 0 else i + 1), r) : Option (Bool × Nat × List fd_V)) = some (true, j, st') := hn
  injection hn with hn
  injection hn with hr hn
  injection hn with hj hs
  subst hj
  subst hs
  rw [Bool.and_eq_true, fd_rng_iff, fd_rng_iff] at hr
  refine lv_icmp_ne cx.1 cx.2.1 hd h2 (fun q => ?_) (fun q => ?_)
  · rw [if_pos (fun z => q ((fd_eqI hr.1 hr.2).mpr z))] at kk
    exact kk _ H locs la h1 hH hS hl
  · rw [if_neg (fun z => z ((fd_eqI hr.1 hr.2).mp q))] at kk
    exact kk _ H locs la (fd_nxt hnx (by decide)) hH hS hl
theorem fd_j103 {j : Nat} (cx : fd_cx g p R s m args meth c mm) (hok : fd_okI (fd_y mm).cls (fd_b mm) (fd_ini mm) (fd_pcs mm) pc ((fd_pcs mm).getD (i + 1) 0) 103 as = true) (hn : fd_jmp 103 as i st = some (true, j, st')) (kk : fd_Go g ph p l e R s m args below meth c mm a0 Q j L st' M) (hH : fd_hp g ph M H) (hS : va_S (fd_A g) s.heap H locs) (hl : fd_lr g la (fd_mL mm) L) : W p l e R s m args below meth c H locs (fd_ap M - a0) (fd_sl (fd_ap M) - fd_sl a0) Q (F0 m pc la (st.map (fd_cv g))) := by
  obtain ⟨off, hd, hnx, hjp⟩ := fd_icmp_inv (by decide) (by decide) hok
  obtain ⟨h1, h2⟩ := fd_jp_inv hjp
  rcases st with _ | ⟨⟨b⟩ | ⟨b⟩ | ⟨b⟩, r⟩
  · cases hn
  rotate_left
  · cases hn
  · cases hn
  rcases r with _ | ⟨⟨a⟩ | ⟨a⟩ | ⟨a⟩, r⟩
  · cases hn
  rotate_left
  · cases hn
  · cases hn
  have hn : (some (fd_rng a && fd_rng b, (if a < b then fd_n as 0 else i + 1), r) : Option (Bool × Nat × List fd_V)) = some (true, j, st') := hn
  injection hn with hn
  injection hn with hr hn
  injection hn with hj hs
  subst hj
  subst hs
  rw [Bool.and_eq_true, fd_rng_iff, fd_rng_iff] at hr
  refine lv_icmp_lt cx.1 cx.2.1 hd h2 (fun q => ?_) (fun q => ?_)
  · rw [if_pos ((fd_ltI hr.1 hr.2).mp q)] at kk
    exact kk _ H locs la h1 hH hS hl
  · rw [if_neg (fun z => q ((fd_ltI hr.1 hr.2).mpr z))] at kk
    exact kk _ H locs la (fd_nxt hnx (by decide)) hH hS hl
theorem fd_j104 {j : Nat} (cx : fd_cx g p R s m args meth c mm) (hok : fd_okI (fd_y mm).cls (fd_b mm) (fd_ini mm) (fd_pcs mm) pc ((fd_pcs mm).getD (i + 1) 0) 104 as = true) (hn : fd_jmp 104 as i st = some (true, j, st')) (kk : fd_Go g ph p l e R s m args below meth c mm a0 Q j L st' M) (hH : fd_hp g ph M H) (hS : va_S (fd_A g) s.heap H locs) (hl : fd_lr g la (fd_mL mm) L) : W p l e R s m args below meth c H locs (fd_ap M - a0) (fd_sl (fd_ap M) - fd_sl a0) Q (F0 m pc la (st.map (fd_cv g))) := by
  obtain ⟨off, hd, hnx, hjp⟩ := fd_icmp_inv (by decide) (by decide) hok
  obtain ⟨h1, h2⟩ := fd_jp_inv hjp
  rcases st with _ | ⟨⟨b⟩ | ⟨b⟩ | ⟨b⟩, r⟩
  · cases hn
  rotate_left
  · cases hn
  · cases hn
  rcases r with _ | ⟨⟨a⟩ | ⟨a⟩ | ⟨a⟩, r⟩
  · cases hn
  rotate_left
  · cases hn
  · cases hn
  have hn : (some (fd_rng a && fd_rng b, (if b ≤ a then fd_n as 0 else i + 1), r) : Option (Bool × Nat × List fd_V)) = some (true, j, st') := hn
  injection hn with hn
  injection hn with hr hn
  injection hn with hj hs
  subst hj
  subst hs
  rw [Bool.and_eq_true, fd_rng_iff, fd_rng_iff] at hr
  refine lv_icmp_ge cx.1 cx.2.1 hd h2 (fun q => ?_) (fun q => ?_)
  · rw [if_pos ((fd_leI hr.2 hr.1).mp q)] at kk
    exact kk _ H locs la h1 hH hS hl
  · rw [if_neg (fun z => q ((fd_leI hr.2 hr.1).mpr z))] at kk
    exact kk _ H locs la (fd_nxt hnx (by decide)) hH hS hl
theorem fd_j105 {j : Nat} (cx : fd_cx g p R s m args meth c mm) (hok : fd_okI (fd_y mm).cls (fd_b mm) (fd_ini mm) (fd_pcs mm) pc ((fd_pcs mm).getD (i + 1) 0) 105 as = true) (hn : fd_jmp 105 as i st = some (true, j, st')) (kk : fd_Go g ph p l e R s m args below meth c mm a0 Q j L st' M) (hH : fd_hp g ph M H) (hS : va_S (fd_A g) s.heap H locs) (hl : fd_lr g la (fd_mL mm) L) : W p l e R s m args below meth c H locs (fd_ap M - a0) (fd_sl (fd_ap M) - fd_sl a0) Q (F0 m pc la (st.map (fd_cv g))) := by
  obtain ⟨off, hd, hnx, hjp⟩ := fd_icmp_inv (by decide) (by decide) hok
  obtain ⟨h1, h2⟩ := fd_jp_inv hjp
  rcases st with _ | ⟨⟨b⟩ | ⟨b⟩ | ⟨b⟩, r⟩
  · cases hn
  rotate_left
  · cases hn
  · cases hn
  rcases r with _ | ⟨⟨a⟩ | ⟨a⟩ | ⟨a⟩, r⟩
  · cases hn
  rotate_left
  · cases hn
  · cases hn
  have hn : (some (fd_rng a && fd_rng b, (if b < a then fd_n as 0 else i + 1), r) : Option (Bool × Nat × List fd_V)) = some (true, j, st') := hn
  injection hn with hn
  injection hn with hr hn
  injection hn with hj hs
  subst hj
  subst hs
  rw [Bool.and_eq_true, fd_rng_iff, fd_rng_iff] at hr
  refine lv_icmp_gt cx.1 cx.2.1 hd h2 (fun q => ?_) (fun q => ?_)
  · rw [if_pos ((fd_ltI hr.2 hr.1).mp q)] at kk
    exact kk _ H locs la h1 hH hS hl
  · rw [if_neg (fun z => q ((fd_ltI hr.2 hr.1).mpr z))] at kk
    exact kk _ H locs la (fd_nxt hnx (by decide)) hH hS hl
theorem fd_j106 {j : Nat} (cx : fd_cx g p R s m args meth c mm) (hok : fd_okI (fd_y mm).cls (fd_b mm) (fd_ini mm) (fd_pcs mm) pc ((fd_pcs mm).getD (i + 1) 0) 106 as = true) (hn : fd_jmp 106 as i st = some (true, j, st')) (kk : fd_Go g ph p l e R s m args below meth c mm a0 Q j L st' M) (hH : fd_hp g ph M H) (hS : va_S (fd_A g) s.heap H locs) (hl : fd_lr g la (fd_mL mm) L) : W p l e R s m args below meth c H locs (fd_ap M - a0) (fd_sl (fd_ap M) - fd_sl a0) Q (F0 m pc la (st.map (fd_cv g))) := by
  obtain ⟨off, hd, hnx, hjp⟩ := fd_icmp_inv (by decide) (by decide) hok
  obtain ⟨h1, h2⟩ := fd_jp_inv hjp
  rcases st with _ | ⟨⟨b⟩ | ⟨b⟩ | ⟨b⟩, r⟩
  · cases hn
  rotate_left
  · cases hn
  · cases hn
  rcases r with _ | ⟨⟨a⟩ | ⟨a⟩ | ⟨a⟩, r⟩
  · cases hn
  rotate_left
  · cases hn
  · cases hn
  have hn : (some (fd_rng a && fd_rng b, (if a ≤ b then fd_n as 0 else i + 1), r) : Option (Bool × Nat × List fd_V)) = some (true, j, st') := hn
  injection hn with hn
  injection hn with hr hn
  injection hn with hj hs
  subst hj
  subst hs
  rw [Bool.and_eq_true, fd_rng_iff, fd_rng_iff] at hr
  refine lv_icmp_le cx.1 cx.2.1 hd h2 (fun q => ?_) (fun q => ?_)
  · rw [if_pos ((fd_leI hr.1 hr.2).mp q)] at kk
    exact kk _ H locs la h1 hH hS hl
  · rw [if_neg (fun z => q ((fd_leI hr.1 hr.2).mpr z))] at kk
    exact kk _ H locs la (fd_nxt hnx (by decide)) hH hS hl
theorem fd_j107 {j : Nat} (cx : fd_cx g p R s m args meth c mm) (hok : fd_okI (fd_y mm).cls (fd_b mm) (fd_ini mm) (fd_pcs mm) pc ((fd_pcs mm).getD (i + 1) 0) 107 as = true) (hn : fd_jmp 107 as i st = some (true, j, st')) (kk : fd_Go g ph p l e R s m args below meth c mm a0 Q j L st' M) (hH : fd_hp g ph M H) (hS : va_S (fd_A g) s.heap H locs) (hl : fd_lr g la (fd_mL mm) L) : W p l e R s m args below meth c H locs (fd_ap M - a0) (fd_sl (fd_ap M) - fd_sl a0) Q (F0 m pc la (st.map (fd_cv g))) := by
  obtain ⟨off, hd, hnx, hjp⟩ := fd_ifc_inv (by decide) (by decide) hok
  obtain ⟨h1, h2⟩ := fd_jp_inv hjp
  rcases st with _ | ⟨⟨a⟩ | ⟨a⟩ | ⟨a⟩, r⟩
  · cases hn
  rotate_left
  · cases hn
  · cases hn
  have hn : (some (fd_rng a, (if a = 0 then fd_n as 0 else i + 1), r) : Option (Bool × Nat × List fd_V)) = some (true, j, st') := hn
  injection hn with hn
  injection hn with hr hn
  injection hn with hj hs
  subst hj
  subst hs
  rw [fd_rng_iff] at hr
  have z0 : (-2147483648 : Int) ≤ 0 ∧ (0 : Int) < 2147483648 := by decide
  refine lv_if_eq cx.1 cx.2.1 hd h2 (fun q => ?_) (fun q => ?_)
  · rw [if_pos ((fd_eqI hr z0).mp q)] at kk
    exact kk _ H locs la h1 hH hS hl
  · rw [if_neg (fun z => q ((fd_eqI hr z0).mpr z))] at kk
    exact kk _ H locs la (fd_nxt hnx (by decide)) hH hS hl
theorem fd_j108 {j : Nat} (cx : fd_cx g p R s m args meth c mm) (hok : fd_okI (fd_y mm).cls (fd_b mm) (fd_ini mm) (fd_pcs mm) pc ((fd_pcs mm).getD (i + 1) 0) 108 as = true) (hn : fd_jmp 108 as i st = some (true, j, st')) (kk : fd_Go g ph p l e R s m args below meth c mm a0 Q j L st' M) (hH : fd_hp g ph M H) (hS : va_S (fd_A g) s.heap H locs) (hl : fd_lr g la (fd_mL mm) L) : W p l e R s m args below meth c H locs (fd_ap M - a0) (fd_sl (fd_ap M) - fd_sl a0) Q (F0 m pc la (st.map (fd_cv g))) := by
  obtain ⟨off, hd, hnx, hjp⟩ := fd_ifc_inv (by decide) (by decide) hok
  obtain ⟨h1, h2⟩ := fd_jp_inv hjp
  rcases st with _ | ⟨⟨a⟩ | ⟨a⟩ | ⟨a⟩, r⟩
  · cases hn
  rotate_left
  · cases hn
  · cases hn
  have hn : (some (fd_rng a, (if ¬ a = 0 then fd_n as 0 else i + 1), r) : Option (Bool × Nat × List fd_V)) = some (true, j, st') := hn
  injection hn with hn
  injection hn with hr hn
  injection hn with hj hs
  subst hj
  subst hs
  rw [fd_rng_iff] at hr
  have z0 : (-2147483648 : Int) ≤ 0 ∧ (0 : Int) < 2147483648 := by decide
  refine lv_if_ne cx.1 cx.2.1 hd h2 (fun q => ?_) (fun q => ?_)
  · rw [if_pos (fun z => q ((fd_eqI hr z0).mpr z))] at kk
    exact kk _ H locs la h1 hH hS hl
  · rw [if_neg (fun z => z ((fd_eqI hr z0).mp q))] at kk
    exact kk _ H locs la (fd_nxt hnx (by decide)) hH hS hl
theorem fd_j109 {j : Nat} (cx : fd_cx g p R s m args meth c mm) (hok : fd_okI (fd_y mm).cls (fd_b mm) (fd_ini mm) (fd_pcs mm) pc ((fd_pcs mm).getD (i + 1) 0) 109 as = true) (hn : fd_jmp 109 as i st = some (true, j, st')) (kk : fd_Go g ph p l e R s m args below meth c mm a0 Q j L st' M) (hH : fd_hp g ph M H) (hS : va_S (fd_A g) s.heap H locs) (hl : fd_lr g la (fd_mL mm) L) : W p l e R s m args below meth c H locs (fd_ap M - a0) (fd_sl (fd_ap M) - fd_sl a0) Q (F0 m pc la (st.map (fd_cv g))) := by
  obtain ⟨off, hd, hnx, hjp⟩ := fd_ifc_inv (by decide) (by decide) hok
  obtain ⟨h1, h2⟩ := fd_jp_inv hjp
  rcases st with _ | ⟨⟨a⟩ | ⟨a⟩ | ⟨a⟩, r⟩
  · cases hn
  rotate_left
  · cases hn
  · cases hn
  have hn : (some (fd_rng a, (if a < 0 then fd_n as 0 else i + 1), r) : Option (Bool × Nat × List fd_V)) = some (true, j, st') := hn
  injection hn with hn
  injection hn with hr hn
  injection hn with hj hs
  subst hj
  subst hs
  rw [fd_rng_iff] at hr
  have z0 : (-2147483648 : Int) ≤ 0 ∧ (0 : Int) < 2147483648 := by decide
  refine lv_if_lt cx.1 cx.2.1 hd h2 (fun q => ?_) (fun q => ?_)
  · rw [if_pos ((fd_ltI hr z0).mp q)] at kk
    exact kk _ H locs la h1 hH hS hl
  · rw [if_neg (fun z => q ((fd_ltI hr z0).mpr z))] at kk
    exact kk _ H locs la (fd_nxt hnx (by decide)) hH hS hl
theorem fd_j110 {j : Nat} (cx : fd_cx g p R s m args meth c mm) (hok : fd_okI (fd_y mm).cls (fd_b mm) (fd_ini mm) (fd_pcs mm) pc ((fd_pcs mm).getD (i + 1) 0) 110 as = true) (hn : fd_jmp 110 as i st = some (true, j, st')) (kk : fd_Go g ph p l e R s m args below meth c mm a0 Q j L st' M) (hH : fd_hp g ph M H) (hS : va_S (fd_A g) s.heap H locs) (hl : fd_lr g la (fd_mL mm) L) : W p l e R s m args below meth c H locs (fd_ap M - a0) (fd_sl (fd_ap M) - fd_sl a0) Q (F0 m pc la (st.map (fd_cv g))) := by
  obtain ⟨off, hd, hnx, hjp⟩ := fd_ifc_inv (by decide) (by decide) hok
  obtain ⟨h1, h2⟩ := fd_jp_inv hjp
  rcases st with _ | ⟨⟨a⟩ | ⟨a⟩ | ⟨a⟩, r⟩
  · cases hn
  rotate_left
  · cases hn
  · cases hn
  have hn : (some (fd_rng a, (if 0 ≤ a then fd_n as 0 else i + 1), r) : Option (Bool × Nat × List fd_V)) = some (true, j, st') := hn
  injection hn with hn
  injection hn with hr hn
  injection hn with hj hs
  subst hj
  subst hs
  rw [fd_rng_iff] at hr
  have z0 : (-2147483648 : Int) ≤ 0 ∧ (0 : Int) < 2147483648 := by decide
  refine lv_if_ge cx.1 cx.2.1 hd h2 (fun q => ?_) (fun q => ?_)
  · rw [if_pos ((fd_leI z0 hr).mp q)] at kk
    exact kk _ H locs la h1 hH hS hl
  · rw [if_neg (fun z => q ((fd_leI z0 hr).mpr z))] at kk
    exact kk _ H locs la (fd_nxt hnx (by decide)) hH hS hl
theorem fd_j111 {j : Nat} (cx : fd_cx g p R s m args meth c mm) (hok : fd_okI (fd_y mm).cls (fd_b mm) (fd_ini mm) (fd_pcs mm) pc ((fd_pcs mm).getD (i + 1) 0) 111 as = true) (hn : fd_jmp 111 as i st = some (true, j, st')) (kk : fd_Go g ph p l e R s m args below meth c mm a0 Q j L st' M) (hH : fd_hp g ph M H) (hS : va_S (fd_A g) s.heap H locs) (hl : fd_lr g la (fd_mL mm) L) : W p l e R s m args below meth c H locs (fd_ap M - a0) (fd_sl (fd_ap M) - fd_sl a0) Q (F0 m pc la (st.map (fd_cv g))) := by
  obtain ⟨off, hd, hnx, hjp⟩ := fd_ifc_inv (by decide) (by decide) hok
  obtain ⟨h1, h2⟩ := fd_jp_inv hjp
  rcases st with _ | ⟨⟨a⟩ | ⟨a⟩ | ⟨a⟩, r⟩
  · cases hn
  rotate_left
  · cases hn
  · cases hn
  have hn : (some (fd_rng a, (if 0 < a then fd_n as 0 else i + 1), r) : Option (Bool × Nat × List fd_V)) = some (true, j, st') := hn
  injection hn with hn
  injection hn with hr hn
  injection hn with hj hs
  subst hj
  subst hs
  rw [fd_rng_iff] at hr
  have z0 : (-2147483648 : Int) ≤ 0 ∧ (0 : Int) < 2147483648 := by decide
  refine lv_if_gt cx.1 cx.2.1 hd h2 (fun q => ?_) (fun q => ?_)
  · rw [if_pos ((fd_ltI z0 hr).mp q)] at kk
    exact kk _ H locs la h1 hH hS hl
  · rw [if_neg (fun z => q ((fd_ltI z0 hr).mpr z))] at kk
    exact kk _ H locs la (fd_nxt hnx (by decide)) hH hS hl
theorem fd_j112 {j : Nat} (cx : fd_cx g p R s m args meth c mm) (hok : fd_okI (fd_y mm).cls (fd_b mm) (fd_ini mm) (fd_pcs mm) pc ((fd_pcs mm).getD (i + 1) 0) 112 as = true) (hn : fd_jmp 112 as i st = some (true, j, st')) (kk : fd_Go g ph p l e R s m args below meth c mm a0 Q j L st' M) (hH : fd_hp g ph M H) (hS : va_S (fd_A g) s.heap H locs) (hl : fd_lr g la (fd_mL mm) L) : W p l e R s m args below meth c H locs (fd_ap M - a0) (fd_sl (fd_ap M) - fd_sl a0) Q (F0 m pc la (st.map (fd_cv g))) := by
  obtain ⟨off, hd, hnx, hjp⟩ := fd_ifc_inv (by decide) (by decide) hok
  obtain ⟨h1, h2⟩ := fd_jp_inv hjp
  rcases st with _ | ⟨⟨a⟩ | ⟨a⟩ | ⟨a⟩, r⟩
  · cases hn
  rotate_left
  · cases hn
  · cases hn
  have hn : (some (fd_rng a, (if a ≤ 0 then fd_n as 0 else i + 1), r) : Option (Bool × Nat × List fd_V)) = some (true, j, st') := hn
  injection hn with hn
  injection hn with hr hn
  injection hn with hj hs
  subst hj
  subst hs
  rw [fd_rng_iff] at hr
  have z0 : (-2147483648 : Int) ≤ 0 ∧ (0 : Int) < 2147483648 := by decide
  refine lv_if_le cx.1 cx.2.1 hd h2 (fun q => ?_) (fun q => ?_)
  · rw [if_pos ((fd_leI hr z0).mp q)] at kk
    exact kk _ H locs la h1 hH hS hl
  · rw [if_neg (fun z => q ((fd_leI hr z0).mpr z))] at kk
    exact kk _ H locs la (fd_nxt hnx (by decide)) hH hS hl
theorem fd_j113 {j : Nat} (cx : fd_cx g p R s m args meth c mm) (hok : fd_okI (fd_y mm).cls (fd_b mm) (fd_ini mm) (fd_pcs mm) pc ((fd_pcs mm).getD (i + 1) 0) 113 as = true) (hn : fd_jmp 113 as i st = some (true, j, st')) (kk : fd_Go g ph p l e R s m args below meth c mm a0 Q j L st' M) (hH : fd_hp g ph M H) (hS : va_S (fd_A g) s.heap H locs) (hl : fd_lr g la (fd_mL mm) L) : W p l e R s m args below meth c H locs (fd_ap M - a0) (fd_sl (fd_ap M) - fd_sl a0) Q (F0 m pc la (st.map (fd_cv g))) := by
  rw [fd_okI] at hok
  split at hok
  · rename_i d lo hi offs len hd
    rw [Bool.and_eq_true, Bool.and_eq_true] at hok
    obtain ⟨h1, h2⟩ := fd_jp_inv hok.1
    obtain ⟨k1, k2, k3, k4⟩ := of_decide_eq_true hok.2.1
    have hall := List.all_eq_true.mp hok.2.2
    rcases st with _ | ⟨⟨a⟩ | ⟨a⟩ | ⟨a⟩, r⟩
    · cases hn
    rotate_left
    · cases hn
    · cases hn
    have hn : (some (fd_rng a, (if 0 ≤ a - fd_a as 1 ∧ a - fd_a as 1 < (as.length : Int) - 2 then fd_n as (2 + (a - fd_a as 1).toNat) else fd_n as 0), r) : Option (Bool × Nat × List fd_V)) = some (true, j, st') := hn
    injection hn with hn
    injection hn with hr hn
    injection hn with hj hs
    subst hj
    subst hs
    rw [fd_rng_iff] at hr
    have ea : (Int32.ofInt a).toInt = a := fd_toI hr
    by_cases hc : 0 ≤ a - fd_a as 1 ∧ a - fd_a as 1 < (as.length : Int) - 2
    · rw [if_pos hc] at kk
      have hj := hall (a - fd_a as 1).toNat (List.mem_range.mpr (by omega))
      obtain ⟨q1, q2⟩ := fd_jp_inv hj
      have ho : offs[((Int32.ofInt a).toInt - lo).toNat]? = some (offs.toList.getD (a - fd_a as 1).toNat 0) := by
        rw [ea, ← k1, ← Array.getElem?_toList, List.getD_eq_getElem?_getD]
        have hlt : (a - fd_a as 1).toNat < offs.toList.length := by omega
        rw [List.getElem?_eq_getElem hlt]
        rfl
      exact lv_tableIn cx.1 cx.2.1 hd (by rw [ea]; omega) (by rw [ea]; omega) ho q2 (kk _ H locs la q1 hH hS hl)
    · rw [if_neg hc] at kk
      exact lv_tableOut cx.1 cx.2.1 hd (by rw [ea]; omega) h2 (kk _ H locs la h1 hH hS hl)
  · cases hok
theorem fd_look_ok {pcs : List Nat} {pc : Nat} {x d : Int} {dd : Int} (hd : fd_jp pcs pc dd.toNat d = true) : ∀ (ps : List (Int × Int)) (as : List Int), as.length = 2 * ps.length → (∀ j, j < ps.length → (as.getD (2 * j) 0 = (ps.getD j (0, 0)).1 ∧ 0 ≤ as.getD (2 * j + 1) 0) ∧ fd_jp pcs pc (as.getD (2 * j + 1) 0).toNat (ps.getD j (0, 0)).2 = true) → fd_jp pcs pc (fd_look x dd as).toNat (Op.lookupswitch.offset ps d x) = true
  | [], as, h, _ => by
    have : as = [] := List.length_eq_zero_iff.mp (by simpa using h)
    subst this
    exact hd
  | (k, o) :: ps, as, h, hj => by
    match as, h with
    | [], h => simp at h
    | [_], h => simp at h; omega
    | k' :: t' :: r, h =>
      have h0 := hj 0 (by simp)
      simp only [List.getD_cons_zero, Nat.mul_zero, Nat.zero_add, List.getD_cons_succ] at h0
      rw [Op.lookupswitch.offset_cons, fd_look]
      have e1 : k' = k := h0.1.1
      subst e1
      by_cases hx : x = k'
      · rw [if_pos hx, if_pos hx.symm]
        exact h0.2
      · rw [if_neg hx, if_neg (fun q => hx q.symm)]
        refine fd_look_ok hd ps r (by simp at h; omega) (fun j hjl => ?_)
        have h1 := hj (j + 1) (by simp; omega)
        simpa [Nat.mul_add, Nat.mul_one, List.getD_cons_succ] using h1
theorem fd_j118 {j : Nat} (cx : fd_cx g p R s m args meth c mm) (hok : fd_okI (fd_y mm).cls (fd_b mm) (fd_ini mm) (fd_pcs mm) pc ((fd_pcs mm).getD (i + 1) 0) 118 as = true) (hn : fd_jmp 118 as i st = some (true, j, st')) (kk : fd_Go g ph p l e R s m args below meth c mm a0 Q j L st' M) (hH : fd_hp g ph M H) (hS : va_S (fd_A g) s.heap H locs) (hl : fd_lr g la (fd_mL mm) L) : W p l e R s m args below meth c H locs (fd_ap M - a0) (fd_sl (fd_ap M) - fd_sl a0) Q (F0 m pc la (st.map (fd_cv g))) := by
  rw [fd_okI] at hok
  split at hok
  · rename_i d ps len hd
    rw [Bool.and_eq_true, Bool.and_eq_true, Bool.and_eq_true] at hok
    obtain ⟨hdj, hso, hln, hal⟩ := hok
    have hln := of_decide_eq_true hln
    have hall := List.all_eq_true.mp hal
    rcases st with _ | ⟨⟨a⟩ | ⟨a⟩ | ⟨a⟩, r⟩
    · cases hn
    rotate_left
    · cases hn
    · cases hn
    have hn : (some (fd_rng a, (fd_look a (fd_a as 0) (as.drop 1)).toNat, r) : Option (Bool × Nat × List fd_V)) = some (true, j, st') := hn
    injection hn with hn
    injection hn with hr hn
    injection hn with hj hs
    subst hj
    subst hs
    rw [fd_rng_iff] at hr
    have ea : (Int32.ofInt a).toInt = a := fd_toI hr
    have key := fd_look_ok (pcs := fd_pcs mm) (pc := pc) (x := a) (d := d) (dd := fd_a as 0) hdj ps.toList (as.drop 1) (by rw [List.length_drop]; omega) (fun j hjl => by
      have h1 := hall j (List.mem_range.mpr hjl)
      rw [Bool.and_eq_true] at h1
      have h2 := of_decide_eq_true h1.1
      have e1 : ∀ k, (as.drop 1).getD k 0 = as.getD (1 + k) 0 := fun k => by
        rw [List.getD_eq_getElem?_getD, List.getD_eq_getElem?_getD, List.getElem?_drop]
      rw [e1, e1, show 1 + (2 * j + 1) = 2 + 2 * j by omega]
      exact ⟨h2, h1.2⟩)
    obtain ⟨q1, q2⟩ := fd_jp_inv key
    exact lv_lookup cx.1 cx.2.1 hd hso (by rw [ea]) q2 (kk _ H locs la q1 hH hS hl)
  · cases hok
theorem fd_jump {op j : Nat} (cx : fd_cx g p R s m args meth c mm) (hok : fd_okI (fd_y mm).cls (fd_b mm) (fd_ini mm) (fd_pcs mm) pc ((fd_pcs mm).getD (i + 1) 0) op as = true) (hn : fd_jmp op as i st = some (true, j, st')) (kk : fd_Go g ph p l e R s m args below meth c mm a0 Q j L st' M) (hH : fd_hp g ph M H) (hS : va_S (fd_A g) s.heap H locs) (hl : fd_lr g la (fd_mL mm) L) : W p l e R s m args below meth c H locs (fd_ap M - a0) (fd_sl (fd_ap M) - fd_sl a0) Q (F0 m pc la (st.map (fd_cv g))) := by
  have hop : op = 100 ∨ op = 101 ∨ op = 102 ∨ op = 103 ∨ op = 104 ∨ op = 105 ∨ op = 106 ∨ op = 107 ∨ op = 108 ∨ op = 109 ∨ op = 110 ∨ op = 111 ∨ op = 112 ∨ op = 113 ∨ op = 118 := by
    unfold fd_jmp at hn
    split at hn
    all_goals first | (cases hn; done) | omega
  rcases hop with rfl | rfl | rfl | rfl | rfl | rfl | rfl | rfl | rfl | rfl | rfl | rfl | rfl | rfl | rfl
  · exact fd_j100 cx hok hn kk hH hS hl
  · exact fd_j101 cx hok hn kk hH hS hl
  · exact fd_j102 cx hok hn kk hH hS hl
  · exact fd_j103 cx hok hn kk hH hS hl
  · exact fd_j104 cx hok hn kk hH hS hl
  · exact fd_j105 cx hok hn kk hH hS hl
  · exact fd_j106 cx hok hn kk hH hS hl
  · exact fd_j107 cx hok hn kk hH hS hl
  · exact fd_j108 cx hok hn kk hH hS hl
  · exact fd_j109 cx hok hn kk hH hS hl
  · exact fd_j110 cx hok hn kk hH hS hl
  · exact fd_j111 cx hok hn kk hH hS hl
  · exact fd_j112 cx hok hn kk hH hS hl
  · exact fd_j113 cx hok hn kk hH hS hl
  · exact fd_j118 cx hok hn kk hH hS hl
end fdK4
end
section
/-! THE SMALL MACHINE IS SOUND: a run of fd_ex gives a contract of the method -/
def fd_Qc (g : fd_G) (ph : Bool) (r : Option fd_V) (M' : fd_M) : Array Value → State → Outcome → State → Prop := match r with
  | none => va_Qv (fun _ : Unit => True) (fun _ t => fd_hp g ph M' t.heap) (fd_A g)
  | some (.inl a) => va_Qi (fun r (_ : Unit) => r = Int32.ofInt a) (fun _ t => fd_hp g ph M' t.heap) (fd_A g)
  | some (.inr (.inl a)) => va_Ql (fun r (_ : Unit) => r = Int64.ofInt a) (fun _ t => fd_hp g ph M' t.heap) (fd_A g)
  | some (.inr (.inr _)) => fun _ _ _ _ => False
def fd_Pc (g : fd_G) (ph : Bool) (as : List fd_V) (M : fd_M) : Array Value → State → Prop := va_Pc (as.map (fd_cv g)) (fun U => fd_hp g ph M U.heap ∧ fd_Kn g U U.heap ∧ g.1 ≤ U.heap.size)
def fd_rm (d mc ms : Nat) : Room := { frames := d + 5, cells := mc, slots := ms, locals := 60 * d + 300 }
def fd_wsm (m : Nat) : List Jvm.Cond := .code (fd_y m) (fd_b m) (fd_mL m) (fd_r m) :: fd_gtbl
theorem fd_okM_inv {m : Nat} (h : m < 177) : (Jvm.Cond.code (fd_y m) (fd_b m) (fd_mL m) (fd_r m) ∈ fd_tbl ∧ Jvm.Cond.initialized (fd_y m).cls ∈ fd_tbl) ∧ (fd_sk m = 0 → Jvm.Cond.static (fd_y m) ∈ fd_tbl) ∧ (fd_sk m = 1 → Jvm.Cond.instanceMethod (fd_y m) ∈ fd_tbl ∧ Jvm.Cond.selects (fd_y m).cls (fd_y m) (fd_y m) ∈ fd_tbl) ∧ (fd_sk m = 2 → Jvm.Cond.instanceMethod (fd_y m) ∈ fd_tbl) ∧ ((fd_y m).cls ≠ "java/lang/invoke/MethodHandle" ∧ (fd_y m).cls ≠ "java/lang/invoke/VarHandle" ∧ plainName (fd_y m).cls = true ∧ fd_r m = fd_rtyp (fd_rk m)) ∧ fd_mL m ≤ 20 := by
  have h1 := fd_okMM h
  rw [fd_okM, Bool.and_eq_true, Bool.and_eq_true, Bool.and_eq_true, Bool.and_eq_true] at h1
  obtain ⟨⟨a1, a2⟩, a3, a4, a5⟩ := h1
  refine ⟨⟨fd_wd_mem a1, fd_wd_mem a2⟩, fun q => ?_, fun q => ?_, fun q => ?_, of_decide_eq_true a4, of_decide_eq_true a5⟩
  · rw [q] at a3
    exact fd_wd_mem a3
  · rw [q] at a3
    have a3 := Bool.and_eq_true_iff.mp a3
    exact ⟨fd_wd_mem a3.1, fd_wd_mem a3.2⟩
  · rw [q] at a3
    exact fd_wd_mem a3
theorem fd_ex_succ {ph : Bool} {f d mm i : Nat} {L st : List fd_V} {M : fd_M} {y : Option fd_V × fd_M} (h : fd_ex ph (f + 1) d mm i L st M = some y) : ∃ op as, (fd_code mm)[i]? = some (op, as) ∧
    ((op < 100 ∧ ∃ L1 st1 M1, fd_nx ph op as L st M = some (true, L1, st1, M1) ∧ fd_ex ph f d mm (i + 1) L1 st1 M1 = some y) ∨
     (¬ op < 100 ∧ (op < 114 ∨ op = 118) ∧ ∃ j st1, fd_jmp op as i st = some (true, j, st1) ∧ fd_ex ph f d mm j L st1 M = some y) ∨
     (¬ op < 100 ∧ ¬ (op < 114 ∨ op = 118) ∧ op < 120 ∧ ∃ r, fd_ret (fd_rk mm) op st = some (true, r) ∧ y = (r, M)) ∨
     (120 ≤ op ∧ ∃ d', d = d' + 1 ∧ fd_inv ph op (fd_n as 0) (fd_n as 1) st M = true ∧ ∃ r1 M1, fd_ex ph f d' (fd_n as 0) 0 (fd_pad (fd_n as 0) (st.take (fd_n as 1)).reverse) [] M = some (r1, M1) ∧ fd_ex ph f (d' + 1) mm (i + 1) L (r1.toList ++ st.drop (fd_n as 1)) M1 = some y)) := by
  rw [fd_ex] at h
  cases hi : (fd_code mm)[i]? with
  | none => rw [hi] at h; cases h
  | some I =>
    obtain ⟨op, as⟩ := I
    rw [hi] at h
    refine ⟨op, as, rfl, ?_⟩
    dsimp only at h
    by_cases h1 : op < 100
    · rw [if_pos h1] at h
      refine Or.inl ⟨h1, ?_⟩
      split at h
      · exact ⟨_, _, _, by assumption, h⟩
      · cases h
    · rw [if_neg h1] at h
      refine Or.inr ?_
      by_cases h2 : op < 114 ∨ op = 118
      · rw [if_pos h2] at h
        refine Or.inl ⟨h1, h2, ?_⟩
        split at h
        · exact ⟨_, _, by assumption, h⟩
        · cases h
      · rw [if_neg h2] at h
        refine Or.inr ?_
        by_cases h3 : op < 120
        · rw [if_pos h3] at h
          refine Or.inl ⟨h1, h2, h3, ?_⟩
          split at h
          · cases h
            exact ⟨_, by assumption, rfl⟩
          · cases h
        · rw [if_neg h3] at h
          refine Or.inr ⟨by omega, ?_⟩
          cases d with
          | zero => cases h
          | succ d' =>
            refine ⟨d', rfl, ?_⟩
            dsimp only at h
            by_cases h4 : fd_inv ph op (fd_n as 0) (fd_n as 1) st M = true
            · rw [if_pos h4] at h
              refine ⟨h4, ?_⟩
              split at h
              · exact ⟨_, _, by assumption, h⟩
              · cases h
            · rw [if_neg h4] at h
              cases h
theorem fd_op_call {own : String} {b : ByteArray} {ini : Bool} {pcs : List Nat} {pc nx op : Nat} {as : List Int} (hok : fd_okI own b ini pcs pc nx op as = true) (h : 120 ≤ op) : op = 120 ∨ op = 121 ∨ op = 122 := by
  unfold fd_okI at hok
  split at hok
  all_goals first | omega | skip
  rw [if_neg (by omega), if_neg (by omega)] at hok
  cases hok
theorem fd_mid_lt {own : String} {b : ByteArray} {ini : Bool} {pcs : List Nat} {pc nx op : Nat} {as : List Int} (hok : fd_okI own b ini pcs pc nx op as = true) (h : 120 ≤ op) : fd_n as 0 < 177 := by
  rcases fd_op_call hok h with rfl | rfl | rfl
  all_goals
    rw [fd_okI, Bool.and_eq_true, Bool.and_eq_true] at hok
    exact (of_decide_eq_true hok.2.1).1
theorem fd_mono {ph : Bool} : ∀ (f d mm i : Nat) (L st : List fd_V) (M : fd_M) (r : Option fd_V) (M' : fd_M), mm < 177 → fd_ex ph f d mm i L st M = some (r, M') → fd_ap M ≤ fd_ap M'
  | 0, _, _, _, _, _, _, _, _, _, h => by rw [fd_ex] at h; cases h
  | f + 1, d, mm, i, L, st, M, r, M', hm, h => by
    obtain ⟨op, as, hi, h⟩ := fd_ex_succ h
    obtain ⟨pc, hpc, hok⟩ := fd_ok_at hm hi
    rcases h with ⟨h1, L1, st1, M1, h2, h3⟩ | ⟨h1, h2, j, st1, h3, h4⟩ | ⟨h1, h2, h3, r1, h4, h5⟩ | ⟨h1, d', rfl, h2, r1, M1, h3, h4⟩
    · exact Nat.le_trans (fd_nx_mono hok h2) (fd_mono f _ _ _ _ _ _ _ _ hm h3)
    · exact fd_mono f _ _ _ _ _ _ _ _ hm h4
    · cases h5
      exact Nat.le_refl _
    · exact Nat.le_trans (fd_mono f _ _ _ _ _ _ _ _ (fd_mid_lt hok h1) h3) (fd_mono f _ _ _ _ _ _ _ _ hm h4)
theorem fd_Kn_same {g : fd_G} {u U : State} {H : Heap} (h : u.vm = U.vm) (hk : fd_Kn g u H) : fd_Kn g U H := by
  have ha : u.vm.Alike U.vm := by rw [h]; exact Vm.Alike.refl _
  refine ⟨va_K.moved ha hk.1, fun w hw => ?_, va_Z.moved ha hk.2.2.1, va_T.moved ha hk.2.2.2.1, va_Z.moved ha hk.2.2.2.2.1, va_T.moved ha hk.2.2.2.2.2⟩
  have h1 : fd_nest w = true := (List.mem_filter.mp hw).2
  have h2 := hk.2.1 w hw
  clear hw
  cases w <;> first | exact va_Nw.same rfl h h2 | skip
  case arrayOver t =>
    cases t with
    | object C => exact va_AO.moved ha h2
    | _ => cases h1
  all_goals cases h1
theorem fd_Pc_blind {g : fd_G} {ph : Bool} {as : List fd_V} {M : fd_M} : FrameBlind (fd_Pc g ph as M) := by
  intro a U g' mk q
  obtain ⟨q0, q1, q2, q3⟩ := q
  exact ⟨q0, q1, fd_Kn_same (u := U) rfl q2, q3⟩
/-! entry -/
theorem fd_pcs0_all : (List.range 177).all (fun m => decide ((fd_pcs m)[0]? = some 0)) = true := by decide +kernel
theorem fd_pcs0 {m : Nat} (h : m < 177) : (fd_pcs m)[0]? = some 0 := of_decide_eq_true (List.all_eq_true.mp fd_pcs0_all m (List.mem_range.mpr h))
theorem fd_args_mem : ∀ (vs : List Value) (o k : Nat) (w : Value), (∀ v ∈ vs, v.category = 1) → vs[k]? = some w → (o + k, w) ∈ lv_args o vs
  | [], _, k, w, _, h => by simp at h
  | v :: vs, o, k, w, hc, h => by
    have h1 : ¬ v.category = 2 := by rw [hc v List.mem_cons_self]; decide
    rw [lv_args, if_neg h1]
    cases k with
    | zero =>
      cases h
      exact List.mem_cons_self
    | succ k =>
      have := fd_args_mem vs (o + 1) k w (fun v hv => hc v (List.mem_cons_of_mem _ hv)) h
      rw [show o + (k + 1) = o + 1 + k by omega]
      exact List.mem_cons_of_mem _ this
theorem fd_sl_len : ∀ (vs : List Value), (∀ v ∈ vs, v.category = 1) → (lg_sl vs).length = vs.length
  | [], _ => rfl
  | v :: vs, hc => by
    have h1 : ¬ v.category = 2 := by rw [hc v List.mem_cons_self]; decide
    have := fd_sl_len vs (fun v hv => hc v (List.mem_cons_of_mem _ hv))
    simp only [lg_sl, List.flatMap_cons, if_neg h1] at this ⊢
    simp [this]
theorem fd_n1_cw {v : fd_V} (h : fd_n1 v = true) : fd_cw v = 1 ∧ v ≠ fd_R 1003 := by
  rcases v with a | a | c
  · exact ⟨rfl, fun q => by cases q⟩
  · cases h
  · refine ⟨rfl, fun q => ?_⟩
    cases q
    cases h
theorem fd_entry {g : fd_G} {mid : Nat} {as : List fd_V} (hlen : as.length ≤ fd_mL mid) (hn1 : ∀ v ∈ as, fd_n1 v = true) : fd_lr g ((lg_sl (as.map (fd_cv g)) ++ List.replicate (fd_mL mid - (lg_sl (as.map (fd_cv g))).length) Slot.unset).toArray) (fd_mL mid) (fd_pad mid as) := by
  have hc : ∀ v ∈ as.map (fd_cv g), v.category = 1 := by
    intro v hv
    obtain ⟨x, hx, rfl⟩ := List.mem_map.mp hv
    rw [fd_cat]
    exact (fd_n1_cw (hn1 x hx)).1
  have hl := lv_entry (as.map (fd_cv g)) (n := fd_mL mid) (by rw [fd_sl_len _ hc, List.length_map]; exact hlen)
  refine ⟨by simp [fd_pad]; omega, fun v hv => ?_, hl.1, hl.2.1, fun q hq => ?_⟩
  · rcases List.mem_append.mp hv with h | h
    · exact (fd_n1_cw (hn1 v h)).1
    · rw [(List.mem_replicate.mp h).2]
      rfl
  · obtain ⟨k, w⟩ := q
    obtain ⟨v, hv, hne, rfl⟩ := fd_as_mem.mp hq
    have hk : as[k]? = some v := by
      rcases Nat.lt_or_ge k as.length with h | h
      · rw [fd_pad, List.getElem?_append_left h] at hv
        exact hv
      · rw [fd_pad, List.getElem?_append_right h] at hv
        exact absurd (List.mem_replicate.mp (List.mem_of_getElem? hv)).2 hne
    have := fd_args_mem (as.map (fd_cv g)) 0 k (fd_cv g v) hc (by rw [List.getElem?_map, hk]; rfl)
    rw [Nat.zero_add] at this
    exact hl.2.2 _ this
theorem fd_met_of {g : fd_G} {ph : Bool} {l : Launch} {mid d mc ms : Nat} {as : List fd_V} {M M' : fd_M} {r : Option fd_V} (h177 : mid < 177) (hlen : as.length ≤ fd_mL mid) (hn1 : ∀ v ∈ as, fd_n1 v = true)
    (hgo : ∀ (p : Program) (e : Env) (s : State) (m : MethodId) (args : Array Value) (below : List Frame) (meth : Method) (c : Code), fd_cx g p (fd_rm d mc ms) s m args meth c mid → fd_Go g ph p l e (fd_rm d mc ms) s m args below meth c mid (fd_ap M) (MQ below (fd_Qc g ph r M') args s mc ms (fd_A g)) 0 (fd_pad mid as) [] M) :
    Met l (fd_y mid) (fd_wsm mid) (fd_rm d mc ms) (fd_Pc g ph as M) (fd_Qc g ph r M') mc ms (fd_A g) := by
  obtain ⟨⟨hcode, hinit⟩, -, -, -, ⟨-, -, hplain, -⟩, -⟩ := fd_okM_inv h177
  refine Met.ofW (cc := fd_b mid) (maxL := fd_mL mid) (ret := fd_r mid) hplain rfl ?_
  intro p e s m args below meth c s₁ B hml hv
  obtain ⟨rfl, hH, hKn, hbs⟩ := hv
  have hts := atoms_spec (ws := fd_wsm mid) B.pre
  have hown := findClass_of_methodNamed B.named
  have cx : fd_cx g p (fd_rm d mc ms) s m (as.map (fd_cv g)).toArray meth c mid := ⟨B.exec, B.bytes, hml, B.returns, hown, fd_words (fun w hw => hts w (List.mem_cons_of_mem _ hw)) hKn.2.1, B.notSynchronized, fun hi => by rw [(name_of_methodNamed B.named B.method).1]; exact of_decide_eq_true hi, hKn, hbs, h177, by show 5 ≤ d + 5; omega, by show 200 ≤ 60 * d + 300; omega⟩
  have k := hgo p e s m _ below meth c cx 0 s.heap [] _ (fd_pcs0 h177) hH va_S.rf (fd_entry hlen hn1)
  rw [Nat.sub_self, Nat.sub_self] at k
  rw [lg_entry_eq]
  exact k
end
section
theorem fd_arith (K d : Nat) (h : K ≤ 20) : 8 + (K + 11) + (60 * d + 300) ≤ 60 * (d + 1) + 300 := by omega
section fdK5
variable {g : fd_G} {ph : Bool} {p : Program} {l : Launch} {e : Env} {R : Room} {s : State} {m : MethodId} {args : Array Value} {below : List Frame} {meth : Method} {c : Code} {mm a0 i pc : Nat} {Q : State → Prop} {as : List Int} {L st : List fd_V} {M M1 : fd_M} {H : Heap} {locs : List Loc} {la : Array Slot} {d op : Nat} {r1 : Option fd_V}
theorem fd_cwsum (g : fd_G) (r : List fd_V) : ((r.map (fd_cv g)).map fun v => v.category).sum = (r.map fd_cw).sum := by
  rw [List.map_map]
  congr 1
  apply List.map_congr_left
  intro v _
  exact fd_cat g v
/-- the call itself: from the callee's contract, by the way it is called -/
theorem fd_callR (cx : fd_cx g p R s m args meth c mm) (hok : fd_okI (fd_y mm).cls (fd_b mm) (fd_ini mm) (fd_pcs mm) pc ((fd_pcs mm).getD (i + 1) 0) op as = true) (hop : 120 ≤ op) (hinv : fd_inv ph op (fd_n as 0) (fd_n as 1) st M = true)
    (hM : Met l (fd_y (fd_n as 0)) (fd_wsm (fd_n as 0)) (fd_rm d (fd_ap M1 - fd_ap M) (fd_sl (fd_ap M1) - fd_sl (fd_ap M))) (fd_Pc g ph (st.take (fd_n as 1)).reverse M) (fd_Qc g ph r1 M1) (fd_ap M1 - fd_ap M) (fd_sl (fd_ap M1) - fd_sl (fd_ap M)) (fd_A g))
    (hF : d + 6 ≤ R.frames) (hLo : 60 * (d + 1) + 300 ≤ R.locals) (hrc : fd_ap M - a0 + (fd_ap M1 - fd_ap M) ≤ R.cells) (hrs : fd_sl (fd_ap M) - fd_sl a0 + (fd_sl (fd_ap M1) - fd_sl (fd_ap M)) ≤ R.slots)
    (hH : fd_hp g ph M H) (hS : va_S (fd_A g) s.heap H locs) (hl : fd_lr g la (fd_mL mm) L) :
    (fd_pcs mm)[i + 1]? = some (pc + 3) ∧ va_Run p l e R s m args below meth c H locs (fd_ap M - a0) (fd_sl (fd_ap M) - fd_sl a0) (fd_ap M1 - fd_ap M) (fd_sl (fd_ap M1) - fd_sl (fd_ap M)) (F0 m pc la (st.map (fd_cv g))) ((st.drop (fd_n as 1)).map (fd_cv g)) (fd_Qc g ph r1 M1 ((st.take (fd_n as 1)).reverse.map (fd_cv g)).toArray) (fd_A g) := by
  obtain ⟨hx, hb, hml, hr, hown, hts, hlk, hini, hKn, hbs, h177, hfr, hlo⟩ := cx
  have hmid := fd_mid_lt hok hop
  obtain ⟨⟨hcode, hinit⟩, hsk0, hsk1, hsk2, ⟨hy1, hy2, -, -⟩, hmL⟩ := fd_okM_inv hmid
  unfold fd_inv at hinv
  rw [Bool.and_eq_true, Bool.and_eq_true, Bool.and_eq_true] at hinv
  obtain ⟨⟨hnp, hall, hsum⟩, hrecv⟩ := hinv
  have hnp : fd_n as 1 ≤ st.length := by simpa using hnp
  have hsum : ((st.drop (fd_n as 1)).map fd_cw).sum ≤ 8 := by simpa using hsum
  have hroom : (((st.drop (fd_n as 1)).map (fd_cv g)).map fun v => v.category).sum ≤ 8 := by rw [fd_cwsum]; exact hsum
  have hst : st.map (fd_cv g) = ((st.take (fd_n as 1)).reverse.map (fd_cv g)).reverse ++ (st.drop (fd_n as 1)).map (fd_cv g) := by
    rw [List.map_reverse, List.reverse_reverse, ← List.map_append, List.take_append_drop]
  have hlen : (st.take (fd_n as 1)).reverse.length = fd_n as 1 := by
    rw [List.length_reverse, List.length_take]; omega
  have hpre : ∀ U : State, U.heap = H → s.WarmedH U.vm → fd_Pc g ph (st.take (fd_n as 1)).reverse M ((st.take (fd_n as 1)).reverse.map (fd_cv g)).toArray U := fun U hU hW =>
    ⟨rfl, by rw [hU]; exact hH, fd_Kn_moved hW (fun q h1 h2 => by rw [hU]; exact hS.2.1 q h1 h2) hKn, by rw [hU]; exact Nat.le_trans hbs hS.1⟩
  have hG := fd_goodIn hcode
  have hRR : (fd_rm d (fd_ap M1 - fd_ap M) (fd_sl (fd_ap M1) - fd_sl (fd_ap M))).frames + 1 ≤ R.frames ∧ 8 + (fd_mL (fd_n as 0) + 11) + (fd_rm d (fd_ap M1 - fd_ap M) (fd_sl (fd_ap M1) - fd_sl (fd_ap M))).locals ≤ R.locals := by
    constructor
    · show d + 5 + 1 ≤ _
      omega
    · exact Nat.le_trans (fd_arith _ d hmL) hLo
  generalize hargs : (st.take (fd_n as 1)).reverse = AL at *
  have hn1 : ∀ v ∈ AL, fd_n1 v = true := by
    intro v hv
    rw [← hargs] at hv
    exact List.all_eq_true.mp hall v (List.mem_reverse.mp hv)
  rcases fd_op_call hok hop with rfl | rfl | rfl
  · rw [fd_okI, Bool.and_eq_true, Bool.and_eq_true, Bool.and_eq_true] at hok
    obtain ⟨hd, hnx⟩ := fd_dc_inv hok.1
    obtain ⟨-, hmc, hcls, hpar, h1np, -⟩ := of_decide_eq_true hok.2.1
    have hsk := of_decide_eq_true hok.2.2.1
    have hlk2 := hok.2.2.2
    refine ⟨fd_nxt hnx (by decide), ?_⟩
    rcases AL with _ | ⟨⟨a⟩ | ⟨a⟩ | ⟨a⟩, tl⟩
    · cases hrecv
    · cases hrecv
    · cases hrecv
    dsimp only at hrecv
    obtain ⟨hsh, hal⟩ := fd_isO_inv hrecv
    obtain ⟨hlt, h213⟩ := fd_lt_ap hH hal (by omega)
    have hce := fd_ws_get (g := g) (ph := ph) (M := M) hlt
    rw [fd_ce_obj hsh (by omega)] at hce
    have hcell := va_recv hKn.1 hH.2.2.2.2 (fd_clD_get hmc) hce
    rw [hcls] at hcell
    have hst2 : st.map (fd_cv g) = (tl.map (fd_cv g)).reverse ++ .ref (g.1 + a) :: (st.drop (fd_n as 1)).map (fd_cv g) := by
      rw [hst]
      simp only [List.map_cons, List.reverse_cons, List.append_assoc, List.singleton_append]
      rw [show fd_cv g (Sum.inr (Sum.inr a)) = .ref (g.1 + a) from fd_rv_lt (by omega)]
    have hargv : (List.map (fd_cv g) (Sum.inr (Sum.inr a) :: tl)) = .ref (g.1 + a) :: tl.map (fd_cv g) := by
      rw [List.map_cons, show fd_cv g (Sum.inr (Sum.inr a)) = .ref (g.1 + a) from fd_rv_lt (by omega)]
    rw [hargv] at hpre ⊢
    have hlen2 : (tl.map (fd_cv g)).length = fd_n as 1 - 1 := by
      rw [List.length_map]
      simp only [List.length_cons] at hlen
      omega
    split at hlk2
    · exact va_runV ⟨hx, hb, hml, hown, hts⟩ hM ⟨callB_of (fd_n as 1 - 1) hts hG rfl rfl rfl (hts _ hinit) (hts _ (fd_wd_mem hlk2)) ⟨hy1, hy2, hpar⟩ hRR, hts _ (hsk1 hsk).1, hts _ (hsk1 hsk).2⟩ ⟨fd_Pc_blind, hcell, hpre⟩ rfl hlen2 hl.2.2.1 hst2 (lv_room hroom) hd ⟨hrc, hrs⟩
    · exact va_runVN ⟨hx, hb, hml, hown, hts⟩ hM ⟨va_cnB (fd_n as 1 - 1) hts hG rfl rfl rfl (va_Nw.of rfl (hts _ (fd_wd_mem hlk2))) (hts _ hinit) ⟨hy1, hy2, hpar⟩ hRR, hts _ (hsk1 hsk).1, hts _ (hsk1 hsk).2⟩ ⟨fd_Pc_blind, hcell, hpre⟩ rfl hlen2 hl.2.2.1 hst2 (lv_room hroom) hd ⟨hrc, hrs⟩
  · rw [fd_okI, Bool.and_eq_true, Bool.and_eq_true, Bool.and_eq_true] at hok
    obtain ⟨hd, hnx⟩ := fd_dc_inv hok.1
    obtain ⟨-, hpar, -⟩ := of_decide_eq_true hok.2.1
    have hsk := of_decide_eq_true hok.2.2.1
    have hlk2 := hok.2.2.2
    refine ⟨fd_nxt hnx (by decide), ?_⟩
    have hlen2 : (AL.map (fd_cv g)).length = fd_n as 1 := by rw [List.length_map]; exact hlen
    split at hlk2
    · exact va_runS ⟨hx, hb, hml, hown, hts⟩ hM ⟨callB_of (fd_n as 1) hts hG rfl rfl rfl (hts _ hinit) (hts _ (fd_wd_mem hlk2)) ⟨hy1, hy2, hpar⟩ hRR, hts _ (hsk0 hsk)⟩ ⟨fd_Pc_blind, hpre⟩ rfl hlen2 hl.2.2.1 hst (lv_room hroom) hd ⟨hrc, hrs⟩
    · exact va_runSN ⟨hx, hb, hml, hown, hts⟩ hM ⟨va_cnB (fd_n as 1) hts hG rfl rfl rfl (va_Nw.of rfl (hts _ (fd_wd_mem hlk2))) (hts _ hinit) ⟨hy1, hy2, hpar⟩ hRR, hts _ (hsk0 hsk), trivial⟩ ⟨fd_Pc_blind, hpre⟩ rfl hlen2 hl.2.2.1 hst (lv_room hroom) hd ⟨hrc, hrs⟩
  · rw [fd_okI, Bool.and_eq_true, Bool.and_eq_true, Bool.and_eq_true] at hok
    obtain ⟨hd, hnx⟩ := fd_dc_inv hok.1
    obtain ⟨-, hpar, h1np, -, hnm, hret⟩ := of_decide_eq_true hok.2.1
    have hsk := of_decide_eq_true hok.2.2.1
    have hlk2 := hok.2.2.2
    refine ⟨fd_nxt hnx (by decide), ?_⟩
    rcases AL with _ | ⟨⟨a⟩ | ⟨a⟩ | ⟨a⟩, tl⟩
    · cases hrecv
    · cases hrecv
    · cases hrecv
    have ha3 : a < 1000 := by
      have h9 : Nat.blt a 1000 = true := hn1 (Sum.inr (Sum.inr a)) List.mem_cons_self
      simpa using h9
    have hst2 : st.map (fd_cv g) = (tl.map (fd_cv g)).reverse ++ .ref (g.1 + a) :: (st.drop (fd_n as 1)).map (fd_cv g) := by
      rw [hst]
      simp only [List.map_cons, List.reverse_cons, List.append_assoc, List.singleton_append]
      rw [show fd_cv g (Sum.inr (Sum.inr a)) = .ref (g.1 + a) from fd_rv_lt ha3]
    have hargv : (List.map (fd_cv g) (Sum.inr (Sum.inr a) :: tl)) = .ref (g.1 + a) :: tl.map (fd_cv g) := by
      rw [List.map_cons, show fd_cv g (Sum.inr (Sum.inr a)) = .ref (g.1 + a) from fd_rv_lt ha3]
    rw [hargv] at hpre ⊢
    have hlen2 : (tl.map (fd_cv g)).length = fd_n as 1 - 1 := by
      rw [List.length_map]
      simp only [List.length_cons] at hlen
      omega
    rw [hret] at hG
    have hM2 := hM
    unfold fd_wsm at hM2
    rw [hret] at hM2
    split at hlk2
    · exact va_runI ⟨hx, hb, hml, hown, hts⟩ hM2 ⟨callB_of (fd_n as 1 - 1) hts hG rfl rfl rfl (hts _ hinit) (hts _ (fd_wd_mem hlk2)) ⟨hy1, hy2, hpar⟩ hRR, hnm, hts _ (hsk2 hsk)⟩ ⟨fd_Pc_blind, hpre⟩ rfl hlen2 hl.2.2.1 hst2 (lv_room hroom) hd ⟨hrc, hrs⟩
    · exact va_runIN ⟨hx, hb, hml, hown, hts⟩ hM2 ⟨va_cnB (fd_n as 1 - 1) hts hG rfl rfl rfl (va_Nw.of rfl (hts _ (fd_wd_mem hlk2))) (hts _ hinit) ⟨hy1, hy2, hpar⟩ hRR, hnm, hts _ (hsk2 hsk)⟩ ⟨fd_Pc_blind, hpre⟩ rfl hlen2 hl.2.2.1 hst2 (lv_room hroom) hd ⟨hrc, hrs⟩
theorem fd_callW (cx : fd_cx g p R s m args meth c mm) (hok : fd_okI (fd_y mm).cls (fd_b mm) (fd_ini mm) (fd_pcs mm) pc ((fd_pcs mm).getD (i + 1) 0) op as = true) (hop : 120 ≤ op) (hinv : fd_inv ph op (fd_n as 0) (fd_n as 1) st M = true)
    (hM : Met l (fd_y (fd_n as 0)) (fd_wsm (fd_n as 0)) (fd_rm d (fd_ap M1 - fd_ap M) (fd_sl (fd_ap M1) - fd_sl (fd_ap M))) (fd_Pc g ph (st.take (fd_n as 1)).reverse M) (fd_Qc g ph r1 M1) (fd_ap M1 - fd_ap M) (fd_sl (fd_ap M1) - fd_sl (fd_ap M)) (fd_A g))
    (hF : d + 6 ≤ R.frames) (hLo : 60 * (d + 1) + 300 ≤ R.locals) (ha0 : a0 ≤ fd_ap M) (hmn : fd_ap M ≤ fd_ap M1) (hrc : fd_ap M1 - a0 ≤ R.cells) (hrs : fd_sl (fd_ap M1) - fd_sl a0 ≤ R.slots)
    (kk : fd_Go g ph p l e R s m args below meth c mm a0 Q (i + 1) L (r1.toList ++ st.drop (fd_n as 1)) M1)
    (hH : fd_hp g ph M H) (hS : va_S (fd_A g) s.heap H locs) (hl : fd_lr g la (fd_mL mm) L) : W p l e R s m args below meth c H locs (fd_ap M - a0) (fd_sl (fd_ap M) - fd_sl a0) Q (F0 m pc la (st.map (fd_cv g))) := by
  have s1 := fd_sl_mono ha0
  have s2 := fd_sl_mono hmn
  have ec : fd_ap M - a0 + (fd_ap M1 - fd_ap M) = fd_ap M1 - a0 := Nat.add_comm .. ▸ Nat.sub_add_sub_cancel hmn ha0
  have es : fd_sl (fd_ap M) - fd_sl a0 + (fd_sl (fd_ap M1) - fd_sl (fd_ap M)) = fd_sl (fd_ap M1) - fd_sl a0 := Nat.add_comm .. ▸ Nat.sub_add_sub_cancel s2 s1
  obtain ⟨hpc, hrun⟩ := fd_callR (a0 := a0) (e := e) (below := below) cx hok hop hinv hM hF hLo (by rw [ec]; exact hrc) (by rw [es]; exact hrs) hH hS hl
  rcases r1 with _ | ⟨a⟩ | ⟨a⟩ | ⟨a⟩
  · refine va_callv (a := ((st.take (fd_n as 1)).reverse.map (fd_cv g)).toArray) hrun hS (fun q _ h => h) (fun q h => h) (fun u t H1 l1 ht hvm hp hB hz hk1 hS1 => ?_)
    have k1 := kk (pc + 3) H1 l1 la hpc (by rw [← ht]; exact hB) hS1 hl
    rw [ec, es]
    exact k1
  · refine va_calli (a := ((st.take (fd_n as 1)).reverse.map (fd_cv g)).toArray) hrun hS (fun q _ h => h) (fun q h => h) (fun r u t H1 l1 ht hvm hp hB hz hk1 hS1 => ?_)
    have k1 := kk (pc + 3) H1 l1 la hpc (by rw [← ht]; exact hB) hS1 hl
    rw [ec, es]
    subst hp
    exact k1
  · refine va_calll (a := ((st.take (fd_n as 1)).reverse.map (fd_cv g)).toArray) hrun hS (fun q _ h => h) (fun q h => h) (fun r u t H1 l1 ht hvm hp hB hz hk1 hS1 => ?_)
    have k1 := kk (pc + 3) H1 l1 la hpc (by rw [← ht]; exact hB) hS1 hl
    rw [ec, es]
    subst hp
    exact k1
  · intro T hT X
    obtain ⟨v, st0, t, T', L', -, -, -, -, -, hf, -⟩ := hrun T hT X
    exact hf.elim
theorem fd_retW {r : Option fd_V} (cx : fd_cx g p R s m args meth c mm) (hok : fd_okI (fd_y mm).cls (fd_b mm) (fd_ini mm) (fd_pcs mm) pc ((fd_pcs mm).getD (i + 1) 0) op as = true) (hn : fd_ret (fd_rk mm) op st = some (true, r)) (hH : fd_hp g ph M H) (hS : va_S (fd_A g) s.heap H locs) :
    W p l e R s m args below meth c H locs (fd_ap M - a0) (fd_sl (fd_ap M) - fd_sl a0) (MQ below (fd_Qc g ph r M) args s (fd_ap M - a0) (fd_sl (fd_ap M) - fd_sl a0) (fd_A g)) (F0 m pc la (st.map (fd_cv g))) := by
  obtain ⟨hx, hb, hml, hr, hown, hts, hlk, hini, hKn, hbs, h177, hfr, hlo⟩ := cx
  obtain ⟨-, -, -, -, ⟨-, -, -, hrt⟩, -⟩ := fd_okM_inv h177
  rw [hrt] at hr
  unfold fd_ret at hn
  split at hn
  · rename_i a
    injection hn with hn
    injection hn with h1 h2
    subst h2
    have hd : decode (fd_b mm) pc = .ok (.ireturn, 1) := of_decide_eq_true hok
    rw [Bool.or_eq_true, Bool.and_eq_true, fd_inb_iff] at h1
    rcases h1 with h1 | ⟨h1, h3⟩
    · rw [Nat.eq_of_beq_eq_true h1] at hr
      exact W.iret hx hb hr (fun t ht hW => ⟨⟨Int32.ofInt a, (), rfl, rfl, by show fd_hp g ph M t.heap; rw [ht]; exact hH⟩, hS.F ht⟩) hS.2.2 hd hlk
    · rw [Nat.eq_of_beq_eq_true h1] at hr
      exact W.zret hx hb hr (fd_bool h3).1 (fun t ht hW => ⟨⟨Int32.ofInt a, (), rfl, rfl, by show fd_hp g ph M t.heap; rw [ht]; exact hH⟩, hS.F ht⟩) hS.2.2 hd hlk
  · rename_i a
    injection hn with hn
    injection hn with h1 h2
    subst h2
    have hd : decode (fd_b mm) pc = .ok (.lreturn, 1) := of_decide_eq_true hok
    rw [Nat.eq_of_beq_eq_true h1] at hr
    exact W.lret hx hb hr (fun t ht hW => ⟨⟨Int64.ofInt a, (), rfl, rfl, by show fd_hp g ph M t.heap; rw [ht]; exact hH⟩, hS.F ht⟩) hS.2.2 hd hlk
  · injection hn with hn
    injection hn with h1 h2
    subst h2
    have hd : decode (fd_b mm) pc = .ok (.return_, 1) := of_decide_eq_true hok
    rw [Nat.eq_of_beq_eq_true h1] at hr
    exact W.vret hx hb hr (fun t ht hW => ⟨⟨(), rfl, trivial, by show fd_hp g ph M t.heap; rw [ht]; exact hH⟩, hS.F ht⟩) hS.2.2 hd hlk
  · cases hn
end fdK5
/-- every run of the small machine is one of the machine -/
theorem fd_main {g : fd_G} {ph : Bool} {l : Launch} : ∀ (f d mm i : Nat) (L st : List fd_V) (M : fd_M) (r : Option fd_V) (M' : fd_M), fd_ex ph f d mm i L st M = some (r, M') →
    ∀ (p : Program) (e : Env) (s : State) (m : MethodId) (args : Array Value) (below : List Frame) (meth : Method) (c : Code) (a0 : Nat), fd_cx g p (fd_rm d (fd_ap M' - a0) (fd_sl (fd_ap M') - fd_sl a0)) s m args meth c mm → a0 ≤ fd_ap M →
    fd_Go g ph p l e (fd_rm d (fd_ap M' - a0) (fd_sl (fd_ap M') - fd_sl a0)) s m args below meth c mm a0 (MQ below (fd_Qc g ph r M') args s (fd_ap M' - a0) (fd_sl (fd_ap M') - fd_sl a0) (fd_A g)) i L st M
  | 0, _, _, _, _, _, _, _, _, h => by rw [fd_ex] at h; cases h
  | f + 1, d, mm, i, L, st, M, r, M', h => by
    intro p e s m args below meth c a0 cx ha0 pc H locs la hpc hH hS hl
    have h177 : mm < 177 := cx.2.2.2.2.2.2.2.2.2.2.1
    obtain ⟨op, as, hi, h⟩ := fd_ex_succ h
    obtain ⟨pc', hpc', hok⟩ := fd_ok_at h177 hi
    cases hpc.symm.trans hpc'
    rcases h with ⟨h1, L1, st1, M1, h2, h3⟩ | ⟨h1, h2, j, st1, h3, h4⟩ | ⟨h1, h2, h3, r1, h4, h5⟩ | ⟨h1, d', rfl, h2, r1, M1, h3, h4⟩
    · have m0 := fd_nx_mono hok h2
      have m1 := fd_mono f _ _ _ _ _ _ _ _ h177 h3
      exact fd_step cx hok h2 (fd_main f d mm (i + 1) L1 st1 M1 r M' h3 p e s m args below meth c a0 cx (Nat.le_trans ha0 m0)) hH hS hl (Nat.sub_le_sub_right m1 a0) (Nat.sub_le_sub_right (fd_sl_mono m1) _) ha0
    · exact fd_jump cx hok h3 (fd_main f d mm j L st1 M r M' h4 p e s m args below meth c a0 cx ha0) hH hS hl
    · cases h5
      exact fd_retW cx hok h4 hH hS
    · have hmid := fd_mid_lt hok h1
      have m0 := fd_mono f _ _ _ _ _ _ _ _ hmid h3
      have m1 := fd_mono f _ _ _ _ _ _ _ _ h177 h4
      have hnp : (st.take (fd_n as 1)).reverse.length ≤ fd_mL (fd_n as 0) ∧ ∀ v ∈ (st.take (fd_n as 1)).reverse, fd_n1 v = true := by
        have q := h2
        unfold fd_inv at q
        rw [Bool.and_eq_true, Bool.and_eq_true, Bool.and_eq_true] at q
        refine ⟨?_, fun v hv => List.all_eq_true.mp q.1.2.1 v (List.mem_reverse.mp hv)⟩
        rw [List.length_reverse, List.length_take]
        refine Nat.le_trans (Nat.min_le_left _ _) ?_
        rcases fd_op_call hok h1 with rfl | rfl | rfl
        all_goals
          rw [fd_okI, Bool.and_eq_true, Bool.and_eq_true] at hok
          have z := of_decide_eq_true hok.2.1
        · exact z.2.2.2.2.2
        · exact z.2.2
        · exact z.2.2.2.1
      have hM := fd_met_of (g := g) (ph := ph) (l := l) (d := d') (mc := fd_ap M1 - fd_ap M) (ms := fd_sl (fd_ap M1) - fd_sl (fd_ap M)) (M := M) (M' := M1) (r := r1) hmid hnp.1 hnp.2 (fun p e s m args below meth c cx => fd_main f d' (fd_n as 0) 0 _ [] M r1 M1 h3 p e s m args below meth c (fd_ap M) cx (Nat.le_refl _))
      exact fd_callW cx hok h1 h2 hM (Nat.le_refl _) (Nat.le_refl _) ha0 m0 (Nat.sub_le_sub_right m1 a0) (Nat.sub_le_sub_right (fd_sl_mono m1) _) (fd_main f (d' + 1) mm (i + 1) L _ M1 r M' h4 p e s m args below meth c a0 cx (Nat.le_trans ha0 m0)) hH hS hl
/-- THE CONTRACT of a method out of its run -/
theorem fd_met {g : fd_G} {ph : Bool} {l : Launch} {f d mm : Nat} {as : List fd_V} {M M' : fd_M} {r : Option fd_V} (h177 : mm < 177) (hlen : as.length ≤ fd_mL mm) (hn1 : ∀ v ∈ as, fd_n1 v = true) (h : fd_ex ph f d mm 0 (fd_pad mm as) [] M = some (r, M')) :
    Met l (fd_y mm) (fd_wsm mm) (fd_rm d (fd_ap M' - fd_ap M) (fd_sl (fd_ap M') - fd_sl (fd_ap M))) (fd_Pc g ph as M) (fd_Qc g ph r M') (fd_ap M' - fd_ap M) (fd_sl (fd_ap M') - fd_sl (fd_ap M)) (fd_A g) :=
  fd_met_of h177 hlen hn1 (fun p e s m args below meth c cx => fd_main f d mm 0 _ [] M r M' h p e s m args below meth c (fd_ap M) cx (Nat.le_refl _))
end
section
/-! rules for runs of the small machine -/
theorem fd_nx_lt {ph : Bool} {op : Nat} {as : List Int} {L st : List fd_V} {M : fd_M} {y} (h : fd_nx ph op as L st M = some y) : op < 100 := by
  rcases Nat.lt_or_ge op 46 with q | q
  · omega
  · exfalso
    obtain ⟨n, rfl⟩ : ∃ n, op = n + 46 := ⟨op - 46, by omega⟩
    cases h
theorem fd_x_nx {ph : Bool} {f d m i op : Nat} {as : List Int} {L st L1 st1 : List fd_V} {M M1 : fd_M} {y} (hi : (fd_code m)[i]? = some (op, as)) (hn : fd_nx ph op as L st M = some (true, L1, st1, M1)) (k : fd_ex ph f d m (i + 1) L1 st1 M1 = some y) : fd_ex ph (f + 1) d m i L st M = some y := by
  rw [fd_ex, hi]
  dsimp only
  rw [if_pos (fd_nx_lt hn), hn]
  exact k
theorem fd_x_jmp {ph : Bool} {f d m i op j : Nat} {as : List Int} {L st st1 : List fd_V} {M : fd_M} {y} (hi : (fd_code m)[i]? = some (op, as)) (h1 : ¬ op < 100) (h2 : op < 114 ∨ op = 118) (hn : fd_jmp op as i st = some (true, j, st1)) (k : fd_ex ph f d m j L st1 M = some y) : fd_ex ph (f + 1) d m i L st M = some y := by
  rw [fd_ex, hi]
  dsimp only
  rw [if_neg h1, if_pos h2, hn]
  exact k
theorem fd_x_ret {ph : Bool} {f d m i op : Nat} {as : List Int} {L st : List fd_V} {M : fd_M} {r} (hi : (fd_code m)[i]? = some (op, as)) (h1 : ¬ op < 100) (h2 : ¬ (op < 114 ∨ op = 118)) (h3 : op < 120) (hn : fd_ret (fd_rk m) op st = some (true, r)) : fd_ex ph (f + 1) d m i L st M = some (r, M) := by
  rw [fd_ex, hi]
  dsimp only
  rw [if_neg h1, if_neg h2, if_pos h3, hn]
theorem fd_x_call {ph : Bool} {f d m i op : Nat} {as : List Int} {L st : List fd_V} {M M1 : fd_M} {r1 : Option fd_V} {y} (hi : (fd_code m)[i]? = some (op, as)) (h1 : 120 ≤ op) (hinv : fd_inv ph op (fd_n as 0) (fd_n as 1) st M = true) (hc : fd_ex ph f d (fd_n as 0) 0 (fd_pad (fd_n as 0) (st.take (fd_n as 1)).reverse) [] M = some (r1, M1)) (k : fd_ex ph f (d + 1) m (i + 1) L (r1.toList ++ st.drop (fd_n as 1)) M1 = some y) : fd_ex ph (f + 1) (d + 1) m i L st M = some y := by
  rw [fd_ex, hi]
  dsimp only
  rw [if_neg (by omega), if_neg (by omega), if_neg (by omega), if_pos hinv, hc]
  exact k
theorem fd_fuel {ph : Bool} : ∀ (f d m i : Nat) (L st : List fd_V) (M : fd_M) (y), fd_ex ph f d m i L st M = some y → fd_ex ph (f + 1) d m i L st M = some y
  | 0, _, _, _, _, _, _, _, h => by rw [fd_ex] at h; cases h
  | f + 1, d, m, i, L, st, M, y, h => by
    obtain ⟨op, as, hi, h⟩ := fd_ex_succ h
    rcases h with ⟨h1, L1, st1, M1, h2, h3⟩ | ⟨h1, h2, j, st1, h3, h4⟩ | ⟨h1, h2, h3, r1, h4, rfl⟩ | ⟨h1, d', rfl, h2, r1, M1, h3, h4⟩
    · exact fd_x_nx hi h2 (fd_fuel f _ _ _ _ _ _ _ h3)
    · exact fd_x_jmp hi h1 h2 h3 (fd_fuel f _ _ _ _ _ _ _ h4)
    · exact fd_x_ret hi h1 h2 h3 h4
    · exact fd_x_call hi h1 h2 (fd_fuel f _ _ _ _ _ _ _ h3) (fd_fuel f _ _ _ _ _ _ _ h4)
theorem fd_fuelN {ph : Bool} {f d m i : Nat} {L st : List fd_V} {M : fd_M} {y} (h : fd_ex ph f d m i L st M = some y) : ∀ n, fd_ex ph (f + n) d m i L st M = some y
  | 0 => h
  | n + 1 => fd_fuel _ _ _ _ _ _ _ _ (fd_fuelN h n)
theorem fd_fuelL {ph : Bool} {f g d m i : Nat} {L st : List fd_V} {M : fd_M} {y} (hfg : f ≤ g) (h : fd_ex ph f d m i L st M = some y) : fd_ex ph g d m i L st M = some y := by
  rw [show g = f + (g - f) by omega]
  exact fd_fuelN h _
theorem fd_deep {ph : Bool} : ∀ (f d m i : Nat) (L st : List fd_V) (M : fd_M) (y), fd_ex ph f d m i L st M = some y → fd_ex ph f (d + 1) m i L st M = some y
  | 0, _, _, _, _, _, _, _, h => by rw [fd_ex] at h; cases h
  | f + 1, d, m, i, L, st, M, y, h => by
    obtain ⟨op, as, hi, h⟩ := fd_ex_succ h
    rcases h with ⟨h1, L1, st1, M1, h2, h3⟩ | ⟨h1, h2, j, st1, h3, h4⟩ | ⟨h1, h2, h3, r1, h4, rfl⟩ | ⟨h1, d', rfl, h2, r1, M1, h3, h4⟩
    · exact fd_x_nx hi h2 (fd_deep f _ _ _ _ _ _ _ h3)
    · exact fd_x_jmp hi h1 h2 h3 (fd_deep f _ _ _ _ _ _ _ h4)
    · exact fd_x_ret hi h1 h2 h3 h4
    · exact fd_x_call hi h1 h2 (fd_deep f _ _ _ _ _ _ _ h3) (fd_deep f _ _ _ _ _ _ _ h4)
theorem fd_deepL {ph : Bool} {f d d' m i : Nat} {L st : List fd_V} {M : fd_M} {y} (hd : d ≤ d') (h : fd_ex ph f d m i L st M = some y) : fd_ex ph f d' m i L st M = some y := by
  have key : ∀ n, fd_ex ph f (d + n) m i L st M = some y := fun n => by
    induction n with
    | zero => exact h
    | succ n ih => exact fd_deep _ _ _ _ _ _ _ _ ih
  have := key (d' - d)
  rwa [show d + (d' - d) = d' by omega] at this
/-- runs behind the constructors -/
def fd_run (d m i : Nat) (L st : List fd_V) (M : fd_M) (r : Option fd_V) (M' : fd_M) : Prop := ∃ f, fd_ex true f d m i L st M = some (r, M')
def fd_call (d m : Nat) (as : List fd_V) (M : fd_M) (r : Option fd_V) (M' : fd_M) : Prop := fd_run d m 0 (fd_pad m as) [] M r M'
theorem fd_callD {d d' m : Nat} {as : List fd_V} {M M' : fd_M} {r : Option fd_V} (h : fd_call d m as M r M') (hd : d ≤ d') : fd_call d' m as M r M' := ⟨h.choose, fd_deepL hd h.choose_spec⟩
/-- a row of instructions -/
def fd_bl : Nat → List fd_Ins → List fd_V → List fd_V → fd_M → fd_Rs
  | 0, _, ls, st, M => some (true, ls, st, M)
  | _ + 1, [], _, _, _ => none
  | n + 1, (op, as) :: is, ls, st, M => match fd_nx true op as ls st M with
    | some (b, ls', st', M') => match fd_bl n is ls' st' M' with
      | some (b2, r) => some (b && b2, r)
      | none => none
    | none => none
theorem fd_bl_ok {d m : Nat} {r : Option fd_V} {R : fd_M} : ∀ (n i : Nat) (L st L' st' : List fd_V) (M M' : fd_M), fd_bl n ((fd_code m).drop i) L st M = some (true, L', st', M') → fd_run d m (i + n) L' st' M' r R → fd_run d m i L st M r R
  | 0, i, L, st, L', st', M, M', h, k => by
    rw [fd_bl] at h
    cases h
    exact k
  | n + 1, i, L, st, L', st', M, M', h, k => by
    cases hd : (fd_code m).drop i with
    | nil => rw [hd, fd_bl] at h; cases h
    | cons I is =>
      obtain ⟨op, as⟩ := I
      have hi : (fd_code m)[i]? = some (op, as) := by
        have : ((fd_code m).drop i)[0]? = some (op, as) := by rw [hd]; rfl
        rw [List.getElem?_drop] at this
        simpa using this
      have hd2 : (fd_code m).drop (i + 1) = is := by
        rw [← List.drop_drop, hd]
        rfl
      rw [hd, fd_bl] at h
      cases hn : fd_nx true op as L st M with
      | none => rw [hn] at h; cases h
      | some y =>
        obtain ⟨b, L1, st1, M1⟩ := y
        rw [hn] at h
        dsimp only at h
        cases hb : fd_bl n is L1 st1 M1 with
        | none => rw [hb] at h; cases h
        | some z =>
          obtain ⟨b2, L2, st2, M2⟩ := z
          rw [hb] at h
          dsimp only at h
          injection h with h
          injection h with h1 h2
          rw [Bool.and_eq_true] at h1
          obtain ⟨rfl, rfl⟩ := h1
          injection h2 with h3 h4
          injection h4 with h5 h6
          subst h3
          subst h5
          subst h6
          obtain ⟨f, hf⟩ := fd_bl_ok n (i + 1) L1 st1 L2 st2 M1 M2 (by rw [hd2]; exact hb) (by rw [show i + 1 + n = i + (n + 1) by omega]; exact k)
          exact ⟨f + 1, fd_x_nx hi hn hf⟩
theorem fd_u_blk {d m i j : Nat} {C : List fd_Ins} {b : Bool} {L st L' st' : List fd_V} {M M' : fd_M} {r : Option fd_V} {R : fd_M} (n : Nat) (hC : fd_code m = C) (h : fd_bl n (C.drop i) L st M = some (b, L', st', M')) (hj : i + n = j) (hb : b = true) (k : fd_run d m j L' st' M' r R) : fd_run d m i L st M r R := by
  subst hb
  subst hC
  subst hj
  exact fd_bl_ok n i L st L' st' M M' h k
theorem fd_u_br {d m i t e op : Nat} {C : List fd_Ins} {as : List Int} {c : Prop} {dc : Decidable c} {b : Bool} {L st st' : List fd_V} {M : fd_M} {r : Option fd_V} {R : fd_M} (hC : fd_code m = C) (hi : C[i]? = some (op, as)) (hj : fd_jmp op as i st = some (b, @ite Nat c dc t e, st')) (hb : b = true) (kt : c → fd_run d m t L st' M r R) (kf : ¬ c → fd_run d m e L st' M r R) : fd_run d m i L st M r R := by
  subst hb
  subst hC
  have h1 : ¬ op < 100 ∧ (op < 114 ∨ op = 118) := by
    unfold fd_jmp at hj
    split at hj
    all_goals first | (cases hj; done) | omega
  by_cases hc : c
  · rw [if_pos hc] at hj
    obtain ⟨f, hf⟩ := kt hc
    exact ⟨f + 1, fd_x_jmp hi h1.1 h1.2 hj hf⟩
  · rw [if_neg hc] at hj
    obtain ⟨f, hf⟩ := kf hc
    exact ⟨f + 1, fd_x_jmp hi h1.1 h1.2 hj hf⟩
theorem fd_u_jmp {d m i j op : Nat} {C : List fd_Ins} {as : List Int} {b : Bool} {L st st' : List fd_V} {M : fd_M} {r : Option fd_V} {R : fd_M} (hC : fd_code m = C) (hi : C[i]? = some (op, as)) (hj : fd_jmp op as i st = some (b, j, st')) (hb : b = true) (k : fd_run d m j L st' M r R) : fd_run d m i L st M r R :=
  fd_u_br (c := True) (dc := instDecidableTrue) (t := j) (e := j) hC hi (by rw [hj, if_pos trivial]) hb (fun _ => k) (fun _ => k)
theorem fd_u_ret {d m i op : Nat} {C : List fd_Ins} {as : List Int} {b : Bool} {L st : List fd_V} {M : fd_M} {r r' : Option fd_V} {R : fd_M} (hC : fd_code m = C) (hi : C[i]? = some (op, as)) (h : fd_ret (fd_rk m) op st = some (b, r')) (hb : b = true) (hr : r' = r) (hM : M = R) : fd_run d m i L st M r R := by
  subst hb
  subst hC
  subst hr
  subst hM
  have h1 : ¬ op < 100 ∧ ¬ (op < 114 ∨ op = 118) ∧ op < 120 := by
    unfold fd_ret at h
    split at h
    all_goals first | (cases h; done) | omega
  exact ⟨1, fd_x_ret hi h1.1 h1.2.1 h1.2.2 h⟩
theorem fd_u_call {d d0 m i op mid np : Nat} {C : List fd_Ins} {as : List Int} {args L st st' : List fd_V} {M M1 : fd_M} {r r1 : Option fd_V} {R : fd_M} (hC : fd_code m = C) (hi : C[i]? = some (op, as)) (hop : Nat.ble 120 op = true) (hm : fd_n as 0 = mid) (hp : fd_n as 1 = np) (ha : (st.take np).reverse = args) (hinv : fd_inv true op mid np st M = true) (hc : fd_call d0 mid args M r1 M1) (hs : r1.toList ++ st.drop np = st') (hd : d0 < d) (k : fd_run d m (i + 1) L st' M1 r R) : fd_run d m i L st M r R := by
  subst hC
  subst hm
  subst hp
  subst ha
  subst hs
  obtain ⟨f, hf⟩ := hc
  obtain ⟨f2, hf2⟩ := k
  obtain ⟨d', rfl⟩ : ∃ d', d = d' + 1 := ⟨d - 1, by omega⟩
  exact ⟨max f f2 + 1, fd_x_call hi (by simpa using hop) hinv (fd_fuelL (Nat.le_max_left _ _) (fd_deepL (by omega) hf)) (fd_fuelL (Nat.le_max_right _ _) hf2)⟩
theorem fd_u_in {d m : Nat} {as L : List fd_V} {M : fd_M} {r : Option fd_V} {R : fd_M} (hL : fd_pad m as = L) (k : fd_run d m 0 L [] M r R) : fd_call d m as M r R := by
  subst hL
  exact k
theorem fd_bI {i n : Int} (h1 : 0 ≤ i) (h2 : i < n) : fd_inb i n = true := fd_inb_iff.mpr ⟨h1, h2⟩
theorem fd_bR {a : Int} (h1 : -2147483648 ≤ a) (h2 : a < 2147483648) : fd_rng a = true := fd_rng_iff.mpr ⟨h1, h2⟩
theorem fd_bA {a b : Bool} (h1 : a = true) (h2 : b = true) : (a && b) = true := by rw [h1, h2]; rfl
end
section
/-! the two constructors, run by the kernel -/
def fd_M0 : fd_M := fun _ _ => 0
def fd_Ma : fd_M := fd_nw fd_M0 (fd_dfl 0)
def fd_isN (x : Option (Option fd_V × fd_M)) : Bool := match x with
  | some (none, _) => true
  | _ => false
def fd_getM (x : Option (Option fd_V × fd_M)) : fd_M := match x with
  | some (_, M) => M
  | none => fd_M0
theorem fd_isN_eq {x : Option (Option fd_V × fd_M)} (h : fd_isN x = true) : x = some (none, fd_getM x) := by
  unfold fd_isN at h
  split at h
  · rfl
  · cases h
def fd_run1 : Option (Option fd_V × fd_M) := fd_ex false 400 20 0 0 (fd_pad 0 [fd_R 0]) [] fd_Ma
def fd_Mb : fd_M := fd_getM fd_run1
def fd_Mb' : fd_M := fd_nw fd_Mb (fd_dfl 10)
def fd_run2 : Option (Option fd_V × fd_M) := fd_ex false 3000 20 51 0 (fd_pad 51 [fd_R 199]) [] fd_Mb'
def fd_Mc : fd_M := fd_getM fd_run2
theorem fd_ctor1 : fd_isN fd_run1 = true ∧ fd_Mb 5000 0 = 199 := by decide +kernel
theorem fd_ctor2 : fd_isN fd_run2 = true ∧ fd_Mc 5000 0 = 213 := by decide +kernel
def fd_rfOk (M : fd_M) (c : Nat) : Bool := (List.range (fd_SH c).2).all (fun k => match fd_RF c k with
  | some r => decide (M c k = r)
  | none => true)
theorem fd_ctor_rf : (List.range 213).all (fd_rfOk fd_Mc) = true := by decide +kernel
theorem fd_ce_ph {g : fd_G} {M : fd_M} {c : Nat} (h : fd_rfOk M c = true) : fd_ce g false M c = fd_ce g true M c := by
  unfold fd_ce
  split
  · congr 2
    apply List.map_congr_left
    intro k hk
    have h1 := List.all_eq_true.mp h k hk
    unfold fd_fv fd_gf
    split
    · rfl
    · have : fd_rf false M c k = fd_rf true M c k := by
        unfold fd_rf
        simp only [cond_true, cond_false]
        cases hr : fd_RF c k with
        | none => rfl
        | some r =>
          rw [hr] at h1
          have h2 : M c k = r := of_decide_eq_true h1
          dsimp only
          rw [h2]
          rfl
      rw [this]
    · rfl
  · rfl
theorem fd_hp_ph {g : fd_G} {M : fd_M} {H : Heap} (hH : fd_hp g false M H) (hap : M 5000 0 = 213) (hrf : (List.range 213).all (fd_rfOk M) = true) : fd_hp g true M H := by
  have e : fd_ap M = 213 := by show Int.toNat _ = _; rw [hap]; rfl
  refine ⟨fun h => (by cases h), hH.2.1, hH.2.2.1, fun _ => e, ?_⟩
  have hP := hH.2.2.2.2
  rw [e] at hP ⊢
  have : fd_ws g true M 213 = fd_ws g false M 213 := by
    unfold fd_ws
    apply List.map_congr_left
    intro c hc
    rw [fd_ce_ph (List.all_eq_true.mp hrf c hc)]
  rw [this]
  exact hP
end
section
/-! THE CLAIM OUT OF ONE WALK OF THE LAW'S BODY. Your part is whole_start (and what it stands on); all else here is the same for every law, but numbers. -/
def R_law : String := "FacingDoorsLaw"
def lw_P (b : Addr) (xs : List Int32) (args : Array Value) (s : State) : Prop := args = #[.ref b] ∧ s.IntsAt b xs ∧ xs.length ≤ 256 ∧ (Jvm.Cond.and given_1 narrow_1).before args s = true
def lw_Q (_ : Array Value) (s : State) (o : Outcome) (t : State) : Prop := o = .returned (some (.int 1)) ∧ Framed s o t [] 600000 7302250
def lw_Z (below : List Frame) (a : Array Value) (s : State) : State → Prop := fun t => ∃ o, t.status = .running ∧ Ended t below o ∧ lw_Q a s o t
/-- the law's own end, with 1 on the stack, nothing written that was there before, its room as the claim has it -/
theorem lw_ret {p : Program} {l : Launch} {e : Env} {s : State} {m : MethodId} {below : List Frame} {meth : Method} {c : Code} {b : Nat} (hx : p.tables.exec = Jvm.exec) (hb : c.code = code) (hr : meth.sig.returnType = ret) (hlocks : meth.locks = false) {pc : Nat} {H : Heap} {ls : Array Slot} (hdg : decode code pc = .ok (.ireturn, 1)) : W p l e room_1 s m #[Value.ref b] below meth c H [] 600000 7302250 (lw_Z below #[Value.ref b] s) (F0 m pc ls [.int 1]) := by
  intro T hT X
  obtain ⟨fs, hret, hrun, hended, hW, hframe⟩ := X.leave (v := some (.int 1)) (hlocks := hlocks) (fun h => by rw [hr] at h; cases h)
  have hmeth' : T.vm.method? m = some meth := X.method'
  refine ⟨T.setFrames fs, ?_, .returned (some (.int 1)), hrun, hended, rfl, ⟨_, rfl⟩, hW, hframe⟩
  jvm_step X.here [X.here.top, hx, hb, hdg, hmeth', hr, ret, narrow_b1]
  (try refine ⟨rfl, ?_⟩); (try refine ⟨rfl, ?_⟩)
  first | (intro acts; rw [hret _ acts rfl rfl rfl]) | rw [hret _ _ rfl rfl rfl]
  exact Steps.refl _
/-- what holds at the law's entry: the machine, the code, the tables' words (any of lw_tbl by 'hts w (by decide +kernel)'), the script of L ints xs at the cell b, what the Statement gives of the start (any of its parts by flat_of_before) -/
def lw_At (p : Program) (s : State) (m : MethodId) (meth : Method) (c : Code) (b L : Nat) (xs : Nat → Int32) : Prop :=
  p.tables.exec = Jvm.exec ∧ c.code = code ∧ meth.sig.returnType = ret ∧ c.maxLocals = 4 ∧ s.vm.findClass R_law = some m.cls ∧ (∀ w ∈ lw_tbl, w.before #[Value.ref b] s = true) ∧ va_X b L xs s s.heap ∧ b < s.heap.size ∧ meth.locks = false ∧ (Jvm.Cond.and given_1 narrow_1).before #[Value.ref b] s = true
/-! behind the constructors nothing is made -/
theorem fd_nx_same {own : String} {b : ByteArray} {ini : Bool} {pcs : List Nat} {pc nx op : Nat} {as : List Int} {L L' st st' : List fd_V} {M M' : fd_M} (hok : fd_okI own b ini pcs pc nx op as = true) (hn : fd_nx true op as L st M = some (true, L', st', M')) : M' 5000 0 = M 5000 0 := by
  match op, hok, hn with
  | 0, hok, hn => obtain ⟨-, -, -, rfl⟩ := fd_some4 hn; rfl
  | 1, hok, hn => obtain ⟨_, _, hn⟩ := fd_lI_inv hn; obtain ⟨-, -, -, rfl⟩ := fd_some4 hn; rfl
  | 2, hok, hn => obtain ⟨_, _, hn⟩ := fd_lR_inv hn; obtain ⟨-, -, -, rfl⟩ := fd_some4 hn; rfl
  | 3, hok, hn => obtain ⟨v1, r1, rfl, hn1⟩ := fd_pI_inv hn; obtain ⟨-, -, -, rfl⟩ := fd_some4 hn1; rfl
  | 4, hok, hn => obtain ⟨v1, r1, rfl, hn1⟩ := fd_pR_inv hn; obtain ⟨-, -, -, rfl⟩ := fd_some4 hn1; rfl
  | 5, hok, hn => obtain ⟨_, _, hn⟩ := fd_lI_inv hn; obtain ⟨-, -, -, rfl⟩ := fd_some4 hn; rfl
  | 6, hok, hn => obtain ⟨v1, r1, rfl, hn1⟩ := fd_pI_inv hn; obtain ⟨v2, r2, rfl, hn2⟩ := fd_pI_inv hn1; obtain ⟨-, -, -, rfl⟩ := fd_some4 hn2; rfl
  | 7, hok, hn => obtain ⟨v1, r1, rfl, hn1⟩ := fd_pI_inv hn; obtain ⟨v2, r2, rfl, hn2⟩ := fd_pI_inv hn1; obtain ⟨-, -, -, rfl⟩ := fd_some4 hn2; rfl
  | 8, hok, hn => obtain ⟨v1, r1, rfl, hn1⟩ := fd_pI_inv hn; obtain ⟨v2, r2, rfl, hn2⟩ := fd_pI_inv hn1; obtain ⟨-, -, -, rfl⟩ := fd_some4 hn2; rfl
  | 9, hok, hn => obtain ⟨v1, r1, rfl, hn1⟩ := fd_pI_inv hn; obtain ⟨v2, r2, rfl, hn2⟩ := fd_pI_inv hn1; obtain ⟨-, -, -, rfl⟩ := fd_some4 hn2; rfl
  | 10, hok, hn => obtain ⟨v1, r1, rfl, hn1⟩ := fd_pI_inv hn; obtain ⟨v2, r2, rfl, hn2⟩ := fd_pI_inv hn1; obtain ⟨-, -, -, rfl⟩ := fd_some4 hn2; rfl
  | 11, hok, hn => obtain ⟨v1, r1, rfl, hn1⟩ := fd_pI_inv hn; obtain ⟨v2, r2, rfl, hn2⟩ := fd_pI_inv hn1; obtain ⟨-, -, -, rfl⟩ := fd_some4 hn2; rfl
  | 12, hok, hn => obtain ⟨v1, r1, rfl, hn1⟩ := fd_pI_inv hn; obtain ⟨v2, r2, rfl, hn2⟩ := fd_pI_inv hn1; obtain ⟨-, -, -, rfl⟩ := fd_some4 hn2; rfl
  | 13, hok, hn => obtain ⟨v1, r1, rfl, hn1⟩ := fd_pI_inv hn; obtain ⟨v2, r2, rfl, hn2⟩ := fd_pI_inv hn1; obtain ⟨-, -, -, rfl⟩ := fd_some4 hn2; rfl
  | 14, hok, hn => obtain ⟨v1, r1, rfl, hn1⟩ := fd_pI_inv hn; obtain ⟨v2, r2, rfl, hn2⟩ := fd_pI_inv hn1; obtain ⟨-, -, -, rfl⟩ := fd_some4 hn2; rfl
  | 15, hok, hn => obtain ⟨v1, r1, rfl, hn1⟩ := fd_pI_inv hn; obtain ⟨v2, r2, rfl, hn2⟩ := fd_pI_inv hn1; obtain ⟨-, -, -, rfl⟩ := fd_some4 hn2; rfl
  | 16, hok, hn => obtain ⟨v1, r1, rfl, hn1⟩ := fd_pI_inv hn; obtain ⟨v2, r2, rfl, hn2⟩ := fd_pI_inv hn1; obtain ⟨-, -, -, rfl⟩ := fd_some4 hn2; rfl
  | 17, hok, hn => obtain ⟨-, -, -, rfl⟩ := fd_some4 hn; rfl
  | 18, hok, hn => obtain ⟨v1, r1, rfl, hn1⟩ := fd_pJ_inv hn; obtain ⟨v2, r2, rfl, hn2⟩ := fd_pJ_inv hn1; obtain ⟨-, -, -, rfl⟩ := fd_some4 hn2; rfl
  | 19, hok, hn => obtain ⟨v1, r1, rfl, hn1⟩ := fd_pJ_inv hn; obtain ⟨v2, r2, rfl, hn2⟩ := fd_pJ_inv hn1; obtain ⟨-, -, -, rfl⟩ := fd_some4 hn2; rfl
  | 20, hok, hn => obtain ⟨v1, r1, rfl, hn1⟩ := fd_pJ_inv hn; obtain ⟨v2, r2, rfl, hn2⟩ := fd_pJ_inv hn1; obtain ⟨-, -, -, rfl⟩ := fd_some4 hn2; rfl
  | 21, hok, hn => obtain ⟨v1, r1, rfl, hn1⟩ := fd_pI_inv hn; obtain ⟨v2, r2, rfl, hn2⟩ := fd_pJ_inv hn1; obtain ⟨-, -, -, rfl⟩ := fd_some4 hn2; rfl
  | 22, hok, hn => obtain ⟨v1, r1, rfl, hn1⟩ := fd_pJ_inv hn; obtain ⟨v2, r2, rfl, hn2⟩ := fd_pJ_inv hn1; obtain ⟨-, -, -, rfl⟩ := fd_some4 hn2; rfl
  | 23, hok, hn => obtain ⟨v1, r1, rfl, hn1⟩ := fd_pI_inv hn; obtain ⟨-, -, -, rfl⟩ := fd_some4 hn1; rfl
  | 24, hok, hn =>
    rcases st with _ | ⟨⟨a⟩ | ⟨a⟩ | ⟨a⟩, r⟩
    · cases hn
    · obtain ⟨-, -, -, rfl⟩ := fd_some4 hn; rfl
    · cases hn
    · obtain ⟨-, -, -, rfl⟩ := fd_some4 hn; rfl
  | 25, hok, hn => obtain ⟨v1, r1, rfl, hn1⟩ := fd_pI_inv hn; obtain ⟨v2, r2, rfl, hn2⟩ := fd_pR_inv hn1; obtain ⟨-, -, -, rfl⟩ := fd_some4 hn2; rfl
  | 26, hok, hn => obtain ⟨v1, r1, rfl, hn1⟩ := fd_pI_inv hn; obtain ⟨-, -, -, rfl⟩ := fd_some4 hn1; rfl
  | 27, hok, hn => obtain ⟨v1, r1, rfl, hn1⟩ := fd_pR_inv hn; obtain ⟨-, -, -, rfl⟩ := fd_some4 hn1; rfl
  | 28, hok, hn =>
    rw [fd_okI, Bool.and_eq_true, Bool.and_eq_true] at hok
    obtain ⟨hci, -, -, -⟩ := fd_okF_inv hok.2.1
    have hn : fd_put true (fd_n as 0) (fd_n as 1) (fd_n as 2) L st M = some (true, L', st', M') := hn
    unfold fd_put at hn
    split at hn
    · obtain ⟨_, _, rfl, hn1⟩ := fd_pI_inv hn; obtain ⟨_, _, rfl, hn2⟩ := fd_pR_inv hn1; obtain ⟨hg, -, -, rfl⟩ := fd_some4 hn2; exact fd_up_ap (fd_sh_at (by rw [(fd_isO_inv hg).1]; omega)).1
    · obtain ⟨_, _, rfl, hn1⟩ := fd_pJ_inv hn; obtain ⟨_, _, rfl, hn2⟩ := fd_pR_inv hn1; obtain ⟨hg, -, -, rfl⟩ := fd_some4 hn2; exact fd_up_ap (fd_sh_at (by rw [(fd_isO_inv hg).1]; omega)).1
    · obtain ⟨_, _, rfl, hn1⟩ := fd_pR_inv hn; obtain ⟨_, _, rfl, hn2⟩ := fd_pR_inv hn1; obtain ⟨hg, -, -, rfl⟩ := fd_some4 hn2
      cases hg
    · obtain ⟨_, _, rfl, hn1⟩ := fd_pI_inv hn; obtain ⟨_, _, rfl, hn2⟩ := fd_pR_inv hn1; obtain ⟨hg, -, -, rfl⟩ := fd_some4 hn2
      rw [Bool.and_eq_true] at hg
      exact fd_up_ap (fd_sh_at (by rw [(fd_isO_inv hg.1).1]; omega)).1
    · cases hn
  | 29, hok, hn => obtain ⟨-, -, -, rfl⟩ := fd_some4 hn; rfl
  | 30, hok, hn => obtain ⟨v1, r1, rfl, hn1⟩ := fd_pI_inv hn; obtain ⟨v2, r2, rfl, hn2⟩ := fd_pR_inv hn1; obtain ⟨-, -, -, rfl⟩ := fd_some4 hn2; rfl
  | 31, hok, hn => obtain ⟨v1, r1, rfl, hn1⟩ := fd_pI_inv hn; obtain ⟨v2, r2, rfl, hn2⟩ := fd_pI_inv hn1; obtain ⟨v3, r3, rfl, hn3⟩ := fd_pR_inv hn2; obtain ⟨hg, -, -, rfl⟩ := fd_some4 hn3; exact fd_up_ap (fd_sh_at (by rw [(fd_isA_inv hg).1]; decide)).1
  | 32, hok, hn => obtain ⟨v1, r1, rfl, hn1⟩ := fd_pI_inv hn; obtain ⟨v2, r2, rfl, hn2⟩ := fd_pR_inv hn1; obtain ⟨-, -, -, rfl⟩ := fd_some4 hn2; rfl
  | 33, hok, hn =>
    obtain ⟨v1, r1, rfl, hn1⟩ := fd_pI_inv hn; obtain ⟨v2, r2, rfl, hn2⟩ := fd_pI_inv hn1; obtain ⟨v3, r3, rfl, hn3⟩ := fd_pR_inv hn2; obtain ⟨hg, -, -, rfl⟩ := fd_some4 hn3
    rw [Bool.or_eq_true, Bool.and_eq_true, Bool.and_eq_true] at hg
    rcases hg with hg | hg <;> exact fd_up_ap (fd_sh_at (by rw [(fd_isA_inv hg.1).1]; decide)).1
  | 34, hok, hn => obtain ⟨v1, r1, rfl, hn1⟩ := fd_pI_inv hn; obtain ⟨v2, r2, rfl, hn2⟩ := fd_pR_inv hn1; obtain ⟨-, -, -, rfl⟩ := fd_some4 hn2; rfl
  | 35, hok, hn =>
    obtain ⟨v1, r1, rfl, hn1⟩ := fd_pR_inv hn; obtain ⟨v2, r2, rfl, hn2⟩ := fd_pI_inv hn1; obtain ⟨v3, r3, rfl, hn3⟩ := fd_pR_inv hn2; obtain ⟨hg, -, -, rfl⟩ := fd_some4 hn3
    rw [Bool.or_eq_true, Bool.and_eq_true, Bool.and_eq_true] at hg
    rcases hg with hg | hg <;> exact fd_up_ap (fd_sh_at (by rw [(fd_isA_inv hg.1).1]; decide)).1
  | 36, hok, hn => obtain ⟨v1, r1, rfl, hn1⟩ := fd_pR_inv hn; obtain ⟨-, -, -, rfl⟩ := fd_some4 hn1; rfl
  | 37, hok, hn =>
    obtain ⟨hg, -, -, rfl⟩ := fd_some4 hn
    cases hg
  | 38, hok, hn =>
    obtain ⟨v1, r1, rfl, hn1⟩ := fd_pI_inv hn; obtain ⟨hg, -, -, rfl⟩ := fd_some4 hn1
    cases hg
  | 39, hok, hn =>
    obtain ⟨v1, r1, rfl, hn1⟩ := fd_pI_inv hn; obtain ⟨hg, -, -, rfl⟩ := fd_some4 hn1
    cases hg
  | 40, hok, hn =>
    obtain ⟨v1, r1, rfl, hn1⟩ := fd_pI_inv hn; obtain ⟨v2, r2, rfl, hn2⟩ := fd_pI_inv hn1; obtain ⟨v3, r3, rfl, hn3⟩ := fd_pR_inv hn2; obtain ⟨v4, r4, rfl, hn4⟩ := fd_pI_inv hn3; obtain ⟨v5, r5, rfl, hn5⟩ := fd_pR_inv hn4; obtain ⟨hg, -, -, rfl⟩ := fd_some4 hn5
    rw [Bool.and_eq_true, Bool.and_eq_true, Bool.and_eq_true, Bool.and_eq_true, Bool.and_eq_true] at hg
    have hs2 := Nat.eq_of_beq_eq_true hg.1.2.1
    have h2 := (fd_sh_at (c := v3) (by omega)).1
    simp [fd_cp, show ¬ 5000 = v3 by omega]
  | 41, hok, hn => obtain ⟨v1, r1, rfl, hn1⟩ := fd_pJ_inv hn; obtain ⟨-, -, -, rfl⟩ := fd_some4 hn1; rfl
  | 42, hok, hn => obtain ⟨v1, r1, rfl, hn1⟩ := fd_pR_inv hn; obtain ⟨-, -, -, rfl⟩ := fd_some4 hn1; rfl
  | 43, hok, hn => obtain ⟨v1, r1, rfl, hn1⟩ := fd_pI_inv hn; obtain ⟨v2, r2, rfl, hn2⟩ := fd_pR_inv hn1; obtain ⟨-, -, -, rfl⟩ := fd_some4 hn2; rfl
  | 44, hok, hn => obtain ⟨v1, r1, rfl, hn1⟩ := fd_pI_inv hn; obtain ⟨v2, r2, rfl, hn2⟩ := fd_pI_inv hn1; obtain ⟨-, -, -, rfl⟩ := fd_some4 hn2; rfl
  | 45, hok, hn => obtain ⟨v1, r1, rfl, hn1⟩ := fd_pI_inv hn; obtain ⟨v2, r2, rfl, hn2⟩ := fd_pJ_inv hn1; obtain ⟨-, -, -, rfl⟩ := fd_some4 hn2; rfl
  | n + 46, hok, hn => cases hn
theorem fd_stay : ∀ (f d mm i : Nat) (L st : List fd_V) (M : fd_M) (r : Option fd_V) (M' : fd_M), mm < 177 → fd_ex true f d mm i L st M = some (r, M') → M' 5000 0 = M 5000 0
  | 0, _, _, _, _, _, _, _, _, _, h => by rw [fd_ex] at h; cases h
  | f + 1, d, mm, i, L, st, M, r, M', hm, h => by
    obtain ⟨op, as, hi, h⟩ := fd_ex_succ h
    obtain ⟨pc, hpc, hok⟩ := fd_ok_at hm hi
    rcases h with ⟨h1, L1, st1, M1, h2, h3⟩ | ⟨h1, h2, j, st1, h3, h4⟩ | ⟨h1, h2, h3, r1, h4, h5⟩ | ⟨h1, d', rfl, h2, r1, M1, h3, h4⟩
    · rw [fd_stay f _ _ _ _ _ _ _ _ hm h3, fd_nx_same hok h2]
    · exact fd_stay f _ _ _ _ _ _ _ _ hm h4
    · cases h5
      rfl
    · rw [fd_stay f _ _ _ _ _ _ _ _ hm h4, fd_stay f _ _ _ _ _ _ _ _ (fd_mid_lt hok h1) h3]
/-! what the law's start knows -/
theorem fd_known {s : State} {b : Nat} (hts : ∀ w ∈ lw_tbl, w.before #[Value.ref b] s = true) (hgv : (Jvm.Cond.and given_1 narrow_1).before #[Value.ref b] s = true) : ∃ g : fd_G, g.1 = s.heap.size ∧ fd_Kn g s s.heap := by
  have hk : ∀ ci : Nat, ∃ q : ClassId × (Nat → Nat), ci < 11 → u_Kn s (fd_clD ci).1 (fd_clD ci).2.1 (fd_clD ci).2.2 q.1 q.2 := by
    intro ci
    by_cases h : ci < 11
    · obtain ⟨h1, h2, -, -, -⟩ := fd_cl_at h
      obtain ⟨cC, iS, hq⟩ := u_known (ws := lw_tbl) hts (fun w hw => (List.mem_filter.mp (h1 w hw)).1) (hts _ (List.mem_filter.mp h2).1)
      exact ⟨(cC, iS), fun _ => hq⟩
    · exact ⟨(0, fun _ => 0), fun q => absurd q h⟩
  obtain ⟨F, hF⟩ := Classical.axiomOfChoice hk
  obtain ⟨w1, w2, w3, w4, w5, -⟩ := of_decide_eq_true fd_okX_ok
  obtain ⟨a0, k0, p0, x0, y0, z0⟩ := Cond.arrayClass_spec (hts _ w1)
  obtain ⟨a1, k1, p1, x1, y1, z1⟩ := Cond.arrayClass_spec (hts _ w2)
  obtain ⟨a2, k2, p2, x2, y2, z2⟩ := Cond.arrayClass_spec (hts _ w3)
  obtain ⟨p3, a3, k3, n3, -, y3, z3, x3⟩ := Cond.arrayOver_spec (hts _ w4)
  obtain ⟨p4, a4, k4, n4, -, y4, z4, x4⟩ := Cond.arrayOver_spec (hts _ w5)
  have hs := flat_of_before _ hgv
  have hA : ∀ a : Nat, a < s.heap.size → ¬ s.heap.size ≤ a := fun a h => Nat.not_le.mpr h
  obtain ⟨tX, eX, TX⟩ := va_Tof (A := fun q => s.heap.size ≤ q) (args := #[Value.ref b]) (s := s) (tm := .static "FacingDoors" "STEP_X" "[I") (ty := .int) (N := 4) (f := fun j => .int (Int32.ofInt (fd_sx j))) (by decide) (hs _ (by decide +kernel)) (va_eqt (hs _ (by decide +kernel))) (fun j hj => by
    have h4 : j = 0 ∨ j = 1 ∨ j = 2 ∨ j = 3 := by omega
    rcases h4 with rfl | rfl | rfl | rfl
    · exact va_eqt (z := 0) (hs (.eq (.elem (.static "FacingDoors" "STEP_X" "[I") (.int 0)) (.int 0)) (by decide +kernel))
    · exact va_eqt (z := 1) (hs (.eq (.elem (.static "FacingDoors" "STEP_X" "[I") (.int 1)) (.int 1)) (by decide +kernel))
    · exact va_eqt (z := 0) (hs (.eq (.elem (.static "FacingDoors" "STEP_X" "[I") (.int 2)) (.int 0)) (by decide +kernel))
    · exact va_eqt (z := -1) (hs (.eq (.elem (.static "FacingDoors" "STEP_X" "[I") (.int 3)) (.int (-1))) (by decide +kernel))) hA
  obtain ⟨tY, eY, TY⟩ := va_Tof (A := fun q => s.heap.size ≤ q) (args := #[Value.ref b]) (s := s) (tm := .static "FacingDoors" "STEP_Y" "[I") (ty := .int) (N := 4) (f := fun j => .int (Int32.ofInt (fd_sy j))) (by decide) (hs _ (by decide +kernel)) (va_eqt (hs _ (by decide +kernel))) (fun j hj => by
    have h4 : j = 0 ∨ j = 1 ∨ j = 2 ∨ j = 3 := by omega
    rcases h4 with rfl | rfl | rfl | rfl
    · exact va_eqt (z := -1) (hs (.eq (.elem (.static "FacingDoors" "STEP_Y" "[I") (.int 0)) (.int (-1))) (by decide +kernel))
    · exact va_eqt (z := 0) (hs (.eq (.elem (.static "FacingDoors" "STEP_Y" "[I") (.int 1)) (.int 0)) (by decide +kernel))
    · exact va_eqt (z := 1) (hs (.eq (.elem (.static "FacingDoors" "STEP_Y" "[I") (.int 2)) (.int 1)) (by decide +kernel))
    · exact va_eqt (z := 0) (hs (.eq (.elem (.static "FacingDoors" "STEP_Y" "[I") (.int 3)) (.int 0)) (by decide +kernel))) hA
  have hini := hts (.initialized "FacingDoors") (List.mem_of_getElem? (i := 92) (by decide +kernel))
  have ZX := va_Zof (A := fun q => s.heap.size ≤ q) (hts (.laysStatic "FacingDoors" "STEP_X" "[I") (by decide +kernel)) hini eX hA
  have ZY := va_Zof (A := fun q => s.heap.size ≤ q) (hts (.laysStatic "FacingDoors" "STEP_Y" "[I") (by decide +kernel)) hini eY hA
  refine ⟨(s.heap.size, tX, tY, (fun ci => (F ci).1, fun ci => (F ci).2), fun k => match k with | 20 => a0 | 21 => a1 | 22 => a2 | 23 => a3 | _ => a4), rfl, ⟨fun ci q hq => ?_, fun k q hq => ?_⟩, fun w hw => ?_, ZX, TX, ZY, TY⟩
  · have hc : ci < 11 := (List.getElem?_eq_some_iff.mp hq).1
    rw [fd_clD_get hc] at hq
    cases hq
    exact hF ci hc
  · have hc : k < 5 := (List.getElem?_eq_some_iff.mp hq).1
    have h5 : k = 0 ∨ k = 1 ∨ k = 2 ∨ k = 3 ∨ k = 4 := by omega
    rcases h5 with rfl | rfl | rfl | rfl | rfl
    · cases hq
      exact ⟨fun n z => ⟨fun k h => (by cases h), k0, y0, p0, z0⟩, x0⟩
    · cases hq
      exact ⟨fun n z => ⟨fun k h => (by cases h), k1, y1, p1, z1⟩, x1⟩
    · cases hq
      exact ⟨fun n z => ⟨fun k h => (by cases h), k2, y2, p2, z2⟩, x2⟩
    · cases hq
      exact ⟨fun n z => ⟨fun k h => (by cases h), k3, y3, p3, z3⟩, k3, p3, y3, z3, n3, x3⟩
    · cases hq
      exact ⟨fun n z => ⟨fun k h => (by cases h), k4, y4, p4, z4⟩, k4, p4, y4, z4, n4, x4⟩
  · obtain ⟨h1, h2⟩ := List.mem_filter.mp hw
    have h3 := hts w h1
    clear hw
    cases w <;> first | exact va_Nw.of rfl h3 | skip
    case arrayOver t =>
      cases t with
      | object C => exact va_AO.of h3
      | _ => cases h2
    all_goals cases h2
end
section
/-- one call of both: the answers are the same -/
def fd_op (Rel : fd_M → Prop) (mx mr n : Nat) : Prop := ∀ M, Rel M → ∀ as : List Int, as.length = n → (∀ a ∈ as, -2147483648 ≤ a ∧ a < 2147483648) → ∃ r M1 M2, fd_call 40 mx (fd_R 0 :: as.map fd_I) M (some (fd_I r)) M1 ∧ fd_call 40 mr (fd_R 199 :: as.map fd_I) M1 (some (fd_I r)) M2 ∧ Rel M2
def fd_opJ (Rel : fd_M → Prop) (mx mr : Nat) : Prop := ∀ M, Rel M → ∃ r M1 M2, fd_call 40 mx [fd_R 0] M (some (fd_J r)) M1 ∧ fd_call 40 mr [fd_R 199] M1 (some (fd_J r)) M2 ∧ Rel M2
def fd_OpsOk (Rel : fd_M → Prop) : Prop :=
  fd_op Rel 1 53 1 ∧ fd_op Rel 2 54 0 ∧ fd_op Rel 3 65 0 ∧ fd_op Rel 4 70 2 ∧ fd_op Rel 5 80 2 ∧ fd_op Rel 6 83 2 ∧ fd_op Rel 7 84 2 ∧ fd_op Rel 8 85 2 ∧ fd_op Rel 9 87 3 ∧ fd_op Rel 10 89 1 ∧ fd_op Rel 11 90 1 ∧ fd_op Rel 12 91 0 ∧ fd_op Rel 13 92 0 ∧ fd_op Rel 14 94 1 ∧ fd_op Rel 15 97 1 ∧ fd_op Rel 16 98 0 ∧ fd_op Rel 17 99 1 ∧ fd_op Rel 18 100 2 ∧ fd_op Rel 19 101 0 ∧ fd_op Rel 20 102 1 ∧ fd_op Rel 21 105 3 ∧ fd_op Rel 22 106 2 ∧ fd_op Rel 23 107 2 ∧ fd_op Rel 24 108 1 ∧ fd_op Rel 25 109 1 ∧ fd_op Rel 26 110 1 ∧ fd_opJ Rel 27 111
section fdLaw
variable {g : fd_G} {p : Program} {l : Launch} {e : Env} {s : State} {m : MethodId} {below : List Frame} {meth : Method} {c : Code} {b L : Nat} {xs : Nat → Int32} {H : Heap} {locs : List Loc} {cells slots : Nat} {Q : State → Prop} {la : Array Slot} {M M1 : fd_M} {mid a idx pc i : Nat} {tl : List fd_V} {r1 : fd_V} {rest : List Value} {Rel : fd_M → Prop}
abbrev fd_lq (mid a n idx : Nat) : Prop := mid < 177 ∧ fd_sk mid = 1 ∧ fd_mc mid < 11 ∧ (fd_clD (fd_mc mid)).1 = (fd_y mid).cls ∧ fd_np mid = some n ∧ (fd_SH a).1 = fd_mc mid ∧ n + 1 ≤ fd_mL mid ∧ a < 213 ∧ Jvm.Cond.methodLink R_law idx (fd_y mid) ∈ lw_tbl
theorem fd_lawCall (C0 : lw_At p s m meth c b L xs) (hKn : fd_Kn g s s.heap) (hbs : g.1 ≤ s.heap.size) (hq : fd_lq mid a tl.length idx) (hn1 : ∀ v ∈ tl, fd_n1 v = true) (hc : fd_call 40 mid (fd_R a :: tl) M (some r1) M1) (hd : decode code pc = .ok (.invokevirtual idx, 3)) (hH : fd_hp g true M H) (hS : va_S (fd_A g) s.heap H locs) (hls : la.size = 4) (hrest : (rest.map fun v => v.category).sum ≤ 8) (hcs : cells ≤ 1000 ∧ slots ≤ 11000)
    (kk : ∀ (H1 : Heap) (l1 : List Loc), fd_hp g true M1 H1 → va_S (fd_A g) s.heap H1 l1 → W p l e room_1 s m #[Value.ref b] below meth c H1 l1 cells slots Q (F0 m (pc + 3) la (fd_cv g r1 :: rest))) :
    W p l e room_1 s m #[Value.ref b] below meth c H locs cells slots Q (F0 m pc la ((tl.map (fd_cv g)).reverse ++ .ref (g.1 + a) :: rest)) := by
  obtain ⟨hx, hb, hr, hml, hown, hts, hX, hbl, hlocks, hgv⟩ := C0
  obtain ⟨hmid, hsk, hmc, hcls, hnp, hsh, hlen, ha, hlink⟩ := hq
  obtain ⟨f, hf⟩ := hc
  have hst := fd_stay f 40 mid 0 _ _ M _ M1 hmid hf
  have e1 : fd_ap M1 = fd_ap M := by show Int.toNat _ = _; rw [hst]
  have hM := fd_met (g := g) (l := l) hmid (by rw [List.length_cons]; exact hlen) (fun v hv => by
    rcases List.mem_cons.mp hv with rfl | hv
    · show Nat.blt a 1000 = true
      simp; omega
    · exact hn1 v hv) hf
  rw [e1, Nat.sub_self, Nat.sub_self] at hM
  obtain ⟨⟨hcode, hinit⟩, -, hsk1, -, ⟨hy1, hy2, -, -⟩, hmL⟩ := fd_okM_inv hmid
  have hts2 : ∀ w ∈ fd_tbl, w.before #[Value.ref b] s = true := fun w hw => hts w (List.mem_filter.mp hw).1
  have hG : GoodIn lw_tbl (.code (fd_y mid) (fd_b mid) (fd_mL mid) (fd_r mid) :: fd_gtbl) := fun w hw => by
    obtain ⟨q1, q2⟩ := fd_goodIn hcode w hw
    exact ⟨(List.mem_filter.mp q1).1, q2⟩
  have hap := hH.2.2.2.1 rfl
  have hce := fd_ws_get (g := g) (ph := true) (M := M) (n := fd_ap M) (c := a) (by rw [hap]; exact ha)
  rw [fd_ce_obj hsh (by omega)] at hce
  have hcell := va_recv hKn.1 hH.2.2.2.2 (fd_clD_get hmc) hce
  rw [hcls] at hcell
  have hargv : (List.map (fd_cv g) (fd_R a :: tl)) = .ref (g.1 + a) :: tl.map (fd_cv g) := by
    rw [List.map_cons, show fd_cv g (fd_R a) = .ref (g.1 + a) from fd_rv_lt (by omega)]
  have hpre : ∀ U : State, U.heap = H → s.WarmedH U.vm → fd_Pc g true (fd_R a :: tl) M (Value.ref (g.1 + a) :: tl.map (fd_cv g)).toArray U := fun U hU hW =>
    ⟨by rw [hargv], by rw [hU]; exact hH, fd_Kn_moved hW (fun q h1 h2 => by rw [hU]; exact hS.2.1 q h1 h2) hKn, by rw [hU]; exact Nat.le_trans hbs hS.1⟩
  have hrun : va_Run p l e room_1 s m #[Value.ref b] below meth c H locs cells slots 0 0 (F0 m pc la ((tl.map (fd_cv g)).reverse ++ .ref (g.1 + a) :: rest)) rest (fd_Qc g true (some r1) M1 (Value.ref (g.1 + a) :: tl.map (fd_cv g)).toArray) (fd_A g) :=
    va_runV ⟨hx, hb, hml, hown, hts⟩ hM ⟨callB_of tl.length hts hG rfl rfl rfl (hts2 _ hinit) (hts _ hlink) ⟨hy1, hy2, hnp⟩ ⟨by decide, Nat.le_trans (fd_arith _ 40 hmL) (by decide)⟩, hts2 _ (hsk1 hsk).1, hts2 _ (hsk1 hsk).2⟩ ⟨fd_Pc_blind, hcell, hpre⟩ rfl (List.length_map ..) hls rfl (lv_room hrest) hd ⟨by show cells + 0 ≤ 600000; omega, by show slots + 0 ≤ 7302250; omega⟩
  rcases r1 with ⟨r⟩ | ⟨r⟩ | ⟨r⟩
  · refine va_calli (a := (Value.ref (g.1 + a) :: tl.map (fd_cv g)).toArray) hrun hS (fun q _ h => h) (fun q h => h) (fun r u t H1 l1 ht hvm hp hB hz hk1 hS1 => ?_)
    subst hp
    exact kk H1 l1 (by rw [← ht]; exact hB) hS1
  · refine va_calll (a := (Value.ref (g.1 + a) :: tl.map (fd_cv g)).toArray) hrun hS (fun q _ h => h) (fun q h => h) (fun r u t H1 l1 ht hvm hp hB hz hk1 hS1 => ?_)
    subst hp
    exact kk H1 l1 (by rw [← ht]; exact hB) hS1
  · intro T hT X
    obtain ⟨v, st0, t, T', L', -, -, -, -, -, hf, -⟩ := hrun T hT X
    exact hf.elim
/-- an argument out of the script -/
theorem fd_lawArg (C0 : lw_At p s m meth c b L xs) (hbs : g.1 = s.heap.size) {k : Nat} {kI : Int} (hk : (k : Int) = kI) (h0 : decode code pc = .ok (.aload_n 0, 1)) (h1 : decode code (pc + 1) = .ok (.iload_n 3, 1)) (h2 : decode code (pc + 2) = .ok (.iconst kI, 1)) (h3 : decode code (pc + 3) = .ok (.iadd, 1)) (h4 : decode code (pc + 4) = .ok (.iaload, 1)) {y2 : Nat} (hl : lv_has la 4 [(0, .ref b), (1, .ref g.1), (2, .ref y2), (3, .int (nI i))]) (hS : va_S (fd_A g) s.heap H locs) (hi : i + k < L) (hL : L ≤ 256)
    (kk : W p l e room_1 s m #[Value.ref b] below meth c H locs cells slots Q (F0 m (pc + 5) la (fd_cv g (fd_I (xs (i + k)).toInt) :: rest))) : W p l e room_1 s m #[Value.ref b] below meth c H locs cells slots Q (F0 m pc la rest) := by
  obtain ⟨hx, hb, hr, hml, hown, hts, hX, hbl, hlocks, hgv⟩ := C0
  refine lv_aload_n hx hb h0 rfl (lv_at hl 0 rfl) ?_
  refine lv_iload_n hx hb h1 rfl (lv_at hl 3 rfl) ?_
  refine lv_iconst (v := nI k) hx hb h2 (by rw [← hk]; exact fd_oi k) ?_
  refine lv_iadd hx hb h3 ?_
  rw [nI_add]
  refine va_sld hx hb hX hbl (show ¬ g.1 ≤ b by omega) hS (vp_in_nI hi (by omega)) h4 ?_
  rw [nI_clamp (show i + k < 2 ^ 31 by omega)]
  rw [show fd_cv g (fd_I (xs (i + k)).toInt) = .int (xs (i + k)) from congrArg Value.int (Int32.ofInt_toInt _)] at kk
  exact kk
theorem fd_xrng (x : Int32) : -2147483648 ≤ x.toInt ∧ x.toInt < 2147483648 := ⟨Int32.le_toInt x, Int32.toInt_lt x⟩
theorem fd_lq_0a : fd_lq 1 0 1 13 := by decide +kernel
theorem fd_lq_0b : fd_lq 53 199 1 17 := by decide +kernel
theorem fd_lc_0 (C0 : lw_At p s m meth c b L xs) (hKn : fd_Kn g s s.heap) (hbs : g.1 = s.heap.size) (hop : fd_op Rel 1 53 1) (hR : Rel M) (hl : lv_has la 4 [(0, .ref b), (1, .ref g.1), (2, .ref (g.1 + 199)), (3, .int (nI i))]) (hH : fd_hp g true M H) (hS : va_S (fd_A g) s.heap H locs) (hi : i + 4 ≤ L) (hL : L ≤ 256) (hcs : cells ≤ 1000 ∧ slots ≤ 11000) (kk : ∀ (M2 : fd_M) (H2 : Heap) (l2 : List Loc), Rel M2 → fd_hp g true M2 H2 → va_S (fd_A g) s.heap H2 l2 → W p l e room_1 s m #[Value.ref b] below meth c H2 l2 cells slots Q (F0 m 828 la [])) : W p l e room_1 s m #[Value.ref b] below meth c H locs cells slots Q (F0 m 156 la []) := by
  obtain ⟨r, M1, M2, q1, q2, q3⟩ := hop M hR [(xs (i + 1)).toInt] rfl (fun a ha => by simp only [List.mem_cons, List.not_mem_nil, or_false] at ha; rcases ha with rfl <;> exact fd_xrng _)
  refine lv_aload_n C0.1 C0.2.1 (by decide +kernel : decode code 156 = .ok (.aload_n 1, 1)) rfl (lv_at hl 1 rfl) ?_
  refine fd_lawArg (k := 1) C0 hbs rfl (by decide +kernel : decode code 157 = .ok (.aload_n 0, 1)) (by decide +kernel : decode code 158 = .ok (.iload_n 3, 1)) (by decide +kernel : decode code 159 = .ok (.iconst 1, 1)) (by decide +kernel : decode code 160 = .ok (.iadd, 1)) (by decide +kernel : decode code 161 = .ok (.iaload, 1)) hl hS (by omega) hL ?_
  refine fd_lawCall (a := 0) (tl := [fd_I (xs (i + 1)).toInt]) (rest := []) C0 hKn (by omega) fd_lq_0a (fun v hv => by simp only [List.mem_cons, List.not_mem_nil, or_false] at hv; rcases hv with rfl <;> rfl) q1 (by decide +kernel : decode code 162 = .ok (.invokevirtual 13, 3)) hH hS hl.1 (by decide) hcs (fun H1 l1 hH1 hS1 => ?_)
  refine lv_aload_n C0.1 C0.2.1 (by decide +kernel : decode code 165 = .ok (.aload_n 2, 1)) rfl (lv_at hl 2 rfl) ?_
  refine fd_lawArg (k := 1) C0 hbs rfl (by decide +kernel : decode code 166 = .ok (.aload_n 0, 1)) (by decide +kernel : decode code 167 = .ok (.iload_n 3, 1)) (by decide +kernel : decode code 168 = .ok (.iconst 1, 1)) (by decide +kernel : decode code 169 = .ok (.iadd, 1)) (by decide +kernel : decode code 170 = .ok (.iaload, 1)) hl hS1 (by omega) hL ?_
  refine fd_lawCall (a := 199) (tl := [fd_I (xs (i + 1)).toInt]) (rest := [fd_cv g (fd_I r)]) C0 hKn (by omega) fd_lq_0b (fun v hv => by simp only [List.mem_cons, List.not_mem_nil, or_false] at hv; rcases hv with rfl <;> rfl) q2 (by decide +kernel : decode code 171 = .ok (.invokevirtual 17, 3)) hH1 hS1 hl.1 (Nat.le_of_ble_eq_true rfl) hcs (fun H2 l2 hH2 hS2 => ?_)
  exact lv_icmp_eq (tgt := 828) C0.1 C0.2.1 (by decide +kernel : decode code 174 = .ok (.if_icmp .eq 654, 3)) (by decide) (fun _ => kk M2 H2 l2 q3 hH2 hS2) (fun q => absurd rfl q)
theorem fd_lq_1a : fd_lq 2 0 0 18 := by decide +kernel
theorem fd_lq_1b : fd_lq 54 199 0 22 := by decide +kernel
theorem fd_lc_1 (C0 : lw_At p s m meth c b L xs) (hKn : fd_Kn g s s.heap) (hbs : g.1 = s.heap.size) (hop : fd_op Rel 2 54 0) (hR : Rel M) (hl : lv_has la 4 [(0, .ref b), (1, .ref g.1), (2, .ref (g.1 + 199)), (3, .int (nI i))]) (hH : fd_hp g true M H) (hS : va_S (fd_A g) s.heap H locs) (hi : i + 4 ≤ L) (hL : L ≤ 256) (hcs : cells ≤ 1000 ∧ slots ≤ 11000) (kk : ∀ (M2 : fd_M) (H2 : Heap) (l2 : List Loc), Rel M2 → fd_hp g true M2 H2 → va_S (fd_A g) s.heap H2 l2 → W p l e room_1 s m #[Value.ref b] below meth c H2 l2 cells slots Q (F0 m 828 la [])) : W p l e room_1 s m #[Value.ref b] below meth c H locs cells slots Q (F0 m 179 la []) := by
  obtain ⟨r, M1, M2, q1, q2, q3⟩ := hop M hR [] rfl (fun a ha => by cases ha)
  refine lv_aload_n C0.1 C0.2.1 (by decide +kernel : decode code 179 = .ok (.aload_n 1, 1)) rfl (lv_at hl 1 rfl) ?_
  refine fd_lawCall (a := 0) (tl := []) (rest := []) C0 hKn (by omega) fd_lq_1a (fun v hv => by cases hv) q1 (by decide +kernel : decode code 180 = .ok (.invokevirtual 18, 3)) hH hS hl.1 (by decide) hcs (fun H1 l1 hH1 hS1 => ?_)
  refine lv_aload_n C0.1 C0.2.1 (by decide +kernel : decode code 183 = .ok (.aload_n 2, 1)) rfl (lv_at hl 2 rfl) ?_
  refine fd_lawCall (a := 199) (tl := []) (rest := [fd_cv g (fd_I r)]) C0 hKn (by omega) fd_lq_1b (fun v hv => by cases hv) q2 (by decide +kernel : decode code 184 = .ok (.invokevirtual 22, 3)) hH1 hS1 hl.1 (Nat.le_of_ble_eq_true rfl) hcs (fun H2 l2 hH2 hS2 => ?_)
  exact lv_icmp_eq (tgt := 828) C0.1 C0.2.1 (by decide +kernel : decode code 187 = .ok (.if_icmp .eq 641, 3)) (by decide) (fun _ => kk M2 H2 l2 q3 hH2 hS2) (fun q => absurd rfl q)
theorem fd_lq_2a : fd_lq 3 0 0 23 := by decide +kernel
theorem fd_lq_2b : fd_lq 65 199 0 26 := by decide +kernel
theorem fd_lc_2 (C0 : lw_At p s m meth c b L xs) (hKn : fd_Kn g s s.heap) (hbs : g.1 = s.heap.size) (hop : fd_op Rel 3 65 0) (hR : Rel M) (hl : lv_has la 4 [(0, .ref b), (1, .ref g.1), (2, .ref (g.1 + 199)), (3, .int (nI i))]) (hH : fd_hp g true M H) (hS : va_S (fd_A g) s.heap H locs) (hi : i + 4 ≤ L) (hL : L ≤ 256) (hcs : cells ≤ 1000 ∧ slots ≤ 11000) (kk : ∀ (M2 : fd_M) (H2 : Heap) (l2 : List Loc), Rel M2 → fd_hp g true M2 H2 → va_S (fd_A g) s.heap H2 l2 → W p l e room_1 s m #[Value.ref b] below meth c H2 l2 cells slots Q (F0 m 828 la [])) : W p l e room_1 s m #[Value.ref b] below meth c H locs cells slots Q (F0 m 192 la []) := by
  obtain ⟨r, M1, M2, q1, q2, q3⟩ := hop M hR [] rfl (fun a ha => by cases ha)
  refine lv_aload_n C0.1 C0.2.1 (by decide +kernel : decode code 192 = .ok (.aload_n 1, 1)) rfl (lv_at hl 1 rfl) ?_
  refine fd_lawCall (a := 0) (tl := []) (rest := []) C0 hKn (by omega) fd_lq_2a (fun v hv => by cases hv) q1 (by decide +kernel : decode code 193 = .ok (.invokevirtual 23, 3)) hH hS hl.1 (by decide) hcs (fun H1 l1 hH1 hS1 => ?_)
  refine lv_aload_n C0.1 C0.2.1 (by decide +kernel : decode code 196 = .ok (.aload_n 2, 1)) rfl (lv_at hl 2 rfl) ?_
  refine fd_lawCall (a := 199) (tl := []) (rest := [fd_cv g (fd_I r)]) C0 hKn (by omega) fd_lq_2b (fun v hv => by cases hv) q2 (by decide +kernel : decode code 197 = .ok (.invokevirtual 26, 3)) hH1 hS1 hl.1 (Nat.le_of_ble_eq_true rfl) hcs (fun H2 l2 hH2 hS2 => ?_)
  exact lv_icmp_eq (tgt := 828) C0.1 C0.2.1 (by decide +kernel : decode code 200 = .ok (.if_icmp .eq 628, 3)) (by decide) (fun _ => kk M2 H2 l2 q3 hH2 hS2) (fun q => absurd rfl q)
theorem fd_lq_3a : fd_lq 4 0 2 27 := by decide +kernel
theorem fd_lq_3b : fd_lq 70 199 2 31 := by decide +kernel
theorem fd_lc_3 (C0 : lw_At p s m meth c b L xs) (hKn : fd_Kn g s s.heap) (hbs : g.1 = s.heap.size) (hop : fd_op Rel 4 70 2) (hR : Rel M) (hl : lv_has la 4 [(0, .ref b), (1, .ref g.1), (2, .ref (g.1 + 199)), (3, .int (nI i))]) (hH : fd_hp g true M H) (hS : va_S (fd_A g) s.heap H locs) (hi : i + 4 ≤ L) (hL : L ≤ 256) (hcs : cells ≤ 1000 ∧ slots ≤ 11000) (kk : ∀ (M2 : fd_M) (H2 : Heap) (l2 : List Loc), Rel M2 → fd_hp g true M2 H2 → va_S (fd_A g) s.heap H2 l2 → W p l e room_1 s m #[Value.ref b] below meth c H2 l2 cells slots Q (F0 m 828 la [])) : W p l e room_1 s m #[Value.ref b] below meth c H locs cells slots Q (F0 m 205 la []) := by
  obtain ⟨r, M1, M2, q1, q2, q3⟩ := hop M hR [(xs (i + 1)).toInt, (xs (i + 2)).toInt] rfl (fun a ha => by simp only [List.mem_cons, List.not_mem_nil, or_false] at ha; rcases ha with rfl | rfl <;> exact fd_xrng _)
  refine lv_aload_n C0.1 C0.2.1 (by decide +kernel : decode code 205 = .ok (.aload_n 1, 1)) rfl (lv_at hl 1 rfl) ?_
  refine fd_lawArg (k := 1) C0 hbs rfl (by decide +kernel : decode code 206 = .ok (.aload_n 0, 1)) (by decide +kernel : decode code 207 = .ok (.iload_n 3, 1)) (by decide +kernel : decode code 208 = .ok (.iconst 1, 1)) (by decide +kernel : decode code 209 = .ok (.iadd, 1)) (by decide +kernel : decode code 210 = .ok (.iaload, 1)) hl hS (by omega) hL ?_
  refine fd_lawArg (k := 2) C0 hbs rfl (by decide +kernel : decode code 211 = .ok (.aload_n 0, 1)) (by decide +kernel : decode code 212 = .ok (.iload_n 3, 1)) (by decide +kernel : decode code 213 = .ok (.iconst 2, 1)) (by decide +kernel : decode code 214 = .ok (.iadd, 1)) (by decide +kernel : decode code 215 = .ok (.iaload, 1)) hl hS (by omega) hL ?_
  refine fd_lawCall (a := 0) (tl := [fd_I (xs (i + 1)).toInt, fd_I (xs (i + 2)).toInt]) (rest := []) C0 hKn (by omega) fd_lq_3a (fun v hv => by simp only [List.mem_cons, List.not_mem_nil, or_false] at hv; rcases hv with rfl | rfl <;> rfl) q1 (by decide +kernel : decode code 216 = .ok (.invokevirtual 27, 3)) hH hS hl.1 (by decide) hcs (fun H1 l1 hH1 hS1 => ?_)
  refine lv_aload_n C0.1 C0.2.1 (by decide +kernel : decode code 219 = .ok (.aload_n 2, 1)) rfl (lv_at hl 2 rfl) ?_
  refine fd_lawArg (k := 1) C0 hbs rfl (by decide +kernel : decode code 220 = .ok (.aload_n 0, 1)) (by decide +kernel : decode code 221 = .ok (.iload_n 3, 1)) (by decide +kernel : decode code 222 = .ok (.iconst 1, 1)) (by decide +kernel : decode code 223 = .ok (.iadd, 1)) (by decide +kernel : decode code 224 = .ok (.iaload, 1)) hl hS1 (by omega) hL ?_
  refine fd_lawArg (k := 2) C0 hbs rfl (by decide +kernel : decode code 225 = .ok (.aload_n 0, 1)) (by decide +kernel : decode code 226 = .ok (.iload_n 3, 1)) (by decide +kernel : decode code 227 = .ok (.iconst 2, 1)) (by decide +kernel : decode code 228 = .ok (.iadd, 1)) (by decide +kernel : decode code 229 = .ok (.iaload, 1)) hl hS1 (by omega) hL ?_
  refine fd_lawCall (a := 199) (tl := [fd_I (xs (i + 1)).toInt, fd_I (xs (i + 2)).toInt]) (rest := [fd_cv g (fd_I r)]) C0 hKn (by omega) fd_lq_3b (fun v hv => by simp only [List.mem_cons, List.not_mem_nil, or_false] at hv; rcases hv with rfl | rfl <;> rfl) q2 (by decide +kernel : decode code 230 = .ok (.invokevirtual 31, 3)) hH1 hS1 hl.1 (Nat.le_of_ble_eq_true rfl) hcs (fun H2 l2 hH2 hS2 => ?_)
  exact lv_icmp_eq (tgt := 828) C0.1 C0.2.1 (by decide +kernel : decode code 233 = .ok (.if_icmp .eq 595, 3)) (by decide) (fun _ => kk M2 H2 l2 q3 hH2 hS2) (fun q => absurd rfl q)
theorem fd_lq_4a : fd_lq 5 0 2 32 := by decide +kernel
theorem fd_lq_4b : fd_lq 80 199 2 35 := by decide +kernel
theorem fd_lc_4 (C0 : lw_At p s m meth c b L xs) (hKn : fd_Kn g s s.heap) (hbs : g.1 = s.heap.size) (hop : fd_op Rel 5 80 2) (hR : Rel M) (hl : lv_has la 4 [(0, .ref b), (1, .ref g.1), (2, .ref (g.1 + 199)), (3, .int (nI i))]) (hH : fd_hp g true M H) (hS : va_S (fd_A g) s.heap H locs) (hi : i + 4 ≤ L) (hL : L ≤ 256) (hcs : cells ≤ 1000 ∧ slots ≤ 11000) (kk : ∀ (M2 : fd_M) (H2 : Heap) (l2 : List Loc), Rel M2 → fd_hp g true M2 H2 → va_S (fd_A g) s.heap H2 l2 → W p l e room_1 s m #[Value.ref b] below meth c H2 l2 cells slots Q (F0 m 828 la [])) : W p l e room_1 s m #[Value.ref b] below meth c H locs cells slots Q (F0 m 238 la []) := by
  obtain ⟨r, M1, M2, q1, q2, q3⟩ := hop M hR [(xs (i + 1)).toInt, (xs (i + 2)).toInt] rfl (fun a ha => by simp only [List.mem_cons, List.not_mem_nil, or_false] at ha; rcases ha with rfl | rfl <;> exact fd_xrng _)
  refine lv_aload_n C0.1 C0.2.1 (by decide +kernel : decode code 238 = .ok (.aload_n 1, 1)) rfl (lv_at hl 1 rfl) ?_
  refine fd_lawArg (k := 1) C0 hbs rfl (by decide +kernel : decode code 239 = .ok (.aload_n 0, 1)) (by decide +kernel : decode code 240 = .ok (.iload_n 3, 1)) (by decide +kernel : decode code 241 = .ok (.iconst 1, 1)) (by decide +kernel : decode code 242 = .ok (.iadd, 1)) (by decide +kernel : decode code 243 = .ok (.iaload, 1)) hl hS (by omega) hL ?_
  refine fd_lawArg (k := 2) C0 hbs rfl (by decide +kernel : decode code 244 = .ok (.aload_n 0, 1)) (by decide +kernel : decode code 245 = .ok (.iload_n 3, 1)) (by decide +kernel : decode code 246 = .ok (.iconst 2, 1)) (by decide +kernel : decode code 247 = .ok (.iadd, 1)) (by decide +kernel : decode code 248 = .ok (.iaload, 1)) hl hS (by omega) hL ?_
  refine fd_lawCall (a := 0) (tl := [fd_I (xs (i + 1)).toInt, fd_I (xs (i + 2)).toInt]) (rest := []) C0 hKn (by omega) fd_lq_4a (fun v hv => by simp only [List.mem_cons, List.not_mem_nil, or_false] at hv; rcases hv with rfl | rfl <;> rfl) q1 (by decide +kernel : decode code 249 = .ok (.invokevirtual 32, 3)) hH hS hl.1 (by decide) hcs (fun H1 l1 hH1 hS1 => ?_)
  refine lv_aload_n C0.1 C0.2.1 (by decide +kernel : decode code 252 = .ok (.aload_n 2, 1)) rfl (lv_at hl 2 rfl) ?_
  refine fd_lawArg (k := 1) C0 hbs rfl (by decide +kernel : decode code 253 = .ok (.aload_n 0, 1)) (by decide +kernel : decode code 254 = .ok (.iload_n 3, 1)) (by decide +kernel : decode code 255 = .ok (.iconst 1, 1)) (by decide +kernel : decode code 256 = .ok (.iadd, 1)) (by decide +kernel : decode code 257 = .ok (.iaload, 1)) hl hS1 (by omega) hL ?_
  refine fd_lawArg (k := 2) C0 hbs rfl (by decide +kernel : decode code 258 = .ok (.aload_n 0, 1)) (by decide +kernel : decode code 259 = .ok (.iload_n 3, 1)) (by decide +kernel : decode code 260 = .ok (.iconst 2, 1)) (by decide +kernel : decode code 261 = .ok (.iadd, 1)) (by decide +kernel : decode code 262 = .ok (.iaload, 1)) hl hS1 (by omega) hL ?_
  refine fd_lawCall (a := 199) (tl := [fd_I (xs (i + 1)).toInt, fd_I (xs (i + 2)).toInt]) (rest := [fd_cv g (fd_I r)]) C0 hKn (by omega) fd_lq_4b (fun v hv => by simp only [List.mem_cons, List.not_mem_nil, or_false] at hv; rcases hv with rfl | rfl <;> rfl) q2 (by decide +kernel : decode code 263 = .ok (.invokevirtual 35, 3)) hH1 hS1 hl.1 (Nat.le_of_ble_eq_true rfl) hcs (fun H2 l2 hH2 hS2 => ?_)
  exact lv_icmp_eq (tgt := 828) C0.1 C0.2.1 (by decide +kernel : decode code 266 = .ok (.if_icmp .eq 562, 3)) (by decide) (fun _ => kk M2 H2 l2 q3 hH2 hS2) (fun q => absurd rfl q)
theorem fd_lq_5a : fd_lq 6 0 2 36 := by decide +kernel
theorem fd_lq_5b : fd_lq 83 199 2 39 := by decide +kernel
theorem fd_lc_5 (C0 : lw_At p s m meth c b L xs) (hKn : fd_Kn g s s.heap) (hbs : g.1 = s.heap.size) (hop : fd_op Rel 6 83 2) (hR : Rel M) (hl : lv_has la 4 [(0, .ref b), (1, .ref g.1), (2, .ref (g.1 + 199)), (3, .int (nI i))]) (hH : fd_hp g true M H) (hS : va_S (fd_A g) s.heap H locs) (hi : i + 4 ≤ L) (hL : L ≤ 256) (hcs : cells ≤ 1000 ∧ slots ≤ 11000) (kk : ∀ (M2 : fd_M) (H2 : Heap) (l2 : List Loc), Rel M2 → fd_hp g true M2 H2 → va_S (fd_A g) s.heap H2 l2 → W p l e room_1 s m #[Value.ref b] below meth c H2 l2 cells slots Q (F0 m 828 la [])) : W p l e room_1 s m #[Value.ref b] below meth c H locs cells slots Q (F0 m 271 la []) := by
  obtain ⟨r, M1, M2, q1, q2, q3⟩ := hop M hR [(xs (i + 1)).toInt, (xs (i + 2)).toInt] rfl (fun a ha => by simp only [List.mem_cons, List.not_mem_nil, or_false] at ha; rcases ha with rfl | rfl <;> exact fd_xrng _)
  refine lv_aload_n C0.1 C0.2.1 (by decide +kernel : decode code 271 = .ok (.aload_n 1, 1)) rfl (lv_at hl 1 rfl) ?_
  refine fd_lawArg (k := 1) C0 hbs rfl (by decide +kernel : decode code 272 = .ok (.aload_n 0, 1)) (by decide +kernel : decode code 273 = .ok (.iload_n 3, 1)) (by decide +kernel : decode code 274 = .ok (.iconst 1, 1)) (by decide +kernel : decode code 275 = .ok (.iadd, 1)) (by decide +kernel : decode code 276 = .ok (.iaload, 1)) hl hS (by omega) hL ?_
  refine fd_lawArg (k := 2) C0 hbs rfl (by decide +kernel : decode code 277 = .ok (.aload_n 0, 1)) (by decide +kernel : decode code 278 = .ok (.iload_n 3, 1)) (by decide +kernel : decode code 279 = .ok (.iconst 2, 1)) (by decide +kernel : decode code 280 = .ok (.iadd, 1)) (by decide +kernel : decode code 281 = .ok (.iaload, 1)) hl hS (by omega) hL ?_
  refine fd_lawCall (a := 0) (tl := [fd_I (xs (i + 1)).toInt, fd_I (xs (i + 2)).toInt]) (rest := []) C0 hKn (by omega) fd_lq_5a (fun v hv => by simp only [List.mem_cons, List.not_mem_nil, or_false] at hv; rcases hv with rfl | rfl <;> rfl) q1 (by decide +kernel : decode code 282 = .ok (.invokevirtual 36, 3)) hH hS hl.1 (by decide) hcs (fun H1 l1 hH1 hS1 => ?_)
  refine lv_aload_n C0.1 C0.2.1 (by decide +kernel : decode code 285 = .ok (.aload_n 2, 1)) rfl (lv_at hl 2 rfl) ?_
  refine fd_lawArg (k := 1) C0 hbs rfl (by decide +kernel : decode code 286 = .ok (.aload_n 0, 1)) (by decide +kernel : decode code 287 = .ok (.iload_n 3, 1)) (by decide +kernel : decode code 288 = .ok (.iconst 1, 1)) (by decide +kernel : decode code 289 = .ok (.iadd, 1)) (by decide +kernel : decode code 290 = .ok (.iaload, 1)) hl hS1 (by omega) hL ?_
  refine fd_lawArg (k := 2) C0 hbs rfl (by decide +kernel : decode code 291 = .ok (.aload_n 0, 1)) (by decide +kernel : decode code 292 = .ok (.iload_n 3, 1)) (by decide +kernel : decode code 293 = .ok (.iconst 2, 1)) (by decide +kernel : decode code 294 = .ok (.iadd, 1)) (by decide +kernel : decode code 295 = .ok (.iaload, 1)) hl hS1 (by omega) hL ?_
  refine fd_lawCall (a := 199) (tl := [fd_I (xs (i + 1)).toInt, fd_I (xs (i + 2)).toInt]) (rest := [fd_cv g (fd_I r)]) C0 hKn (by omega) fd_lq_5b (fun v hv => by simp only [List.mem_cons, List.not_mem_nil, or_false] at hv; rcases hv with rfl | rfl <;> rfl) q2 (by decide +kernel : decode code 296 = .ok (.invokevirtual 39, 3)) hH1 hS1 hl.1 (Nat.le_of_ble_eq_true rfl) hcs (fun H2 l2 hH2 hS2 => ?_)
  exact lv_icmp_eq (tgt := 828) C0.1 C0.2.1 (by decide +kernel : decode code 299 = .ok (.if_icmp .eq 529, 3)) (by decide) (fun _ => kk M2 H2 l2 q3 hH2 hS2) (fun q => absurd rfl q)
theorem fd_lq_6a : fd_lq 7 0 2 40 := by decide +kernel
theorem fd_lq_6b : fd_lq 84 199 2 43 := by decide +kernel
theorem fd_lc_6 (C0 : lw_At p s m meth c b L xs) (hKn : fd_Kn g s s.heap) (hbs : g.1 = s.heap.size) (hop : fd_op Rel 7 84 2) (hR : Rel M) (hl : lv_has la 4 [(0, .ref b), (1, .ref g.1), (2, .ref (g.1 + 199)), (3, .int (nI i))]) (hH : fd_hp g true M H) (hS : va_S (fd_A g) s.heap H locs) (hi : i + 4 ≤ L) (hL : L ≤ 256) (hcs : cells ≤ 1000 ∧ slots ≤ 11000) (kk : ∀ (M2 : fd_M) (H2 : Heap) (l2 : List Loc), Rel M2 → fd_hp g true M2 H2 → va_S (fd_A g) s.heap H2 l2 → W p l e room_1 s m #[Value.ref b] below meth c H2 l2 cells slots Q (F0 m 828 la [])) : W p l e room_1 s m #[Value.ref b] below meth c H locs cells slots Q (F0 m 304 la []) := by
  obtain ⟨r, M1, M2, q1, q2, q3⟩ := hop M hR [(xs (i + 1)).toInt, (xs (i + 2)).toInt] rfl (fun a ha => by simp only [List.mem_cons, List.not_mem_nil, or_false] at ha; rcases ha with rfl | rfl <;> exact fd_xrng _)
  refine lv_aload_n C0.1 C0.2.1 (by decide +kernel : decode code 304 = .ok (.aload_n 1, 1)) rfl (lv_at hl 1 rfl) ?_
  refine fd_lawArg (k := 1) C0 hbs rfl (by decide +kernel : decode code 305 = .ok (.aload_n 0, 1)) (by decide +kernel : decode code 306 = .ok (.iload_n 3, 1)) (by decide +kernel : decode code 307 = .ok (.iconst 1, 1)) (by decide +kernel : decode code 308 = .ok (.iadd, 1)) (by decide +kernel : decode code 309 = .ok (.iaload, 1)) hl hS (by omega) hL ?_
  refine fd_lawArg (k := 2) C0 hbs rfl (by decide +kernel : decode code 310 = .ok (.aload_n 0, 1)) (by decide +kernel : decode code 311 = .ok (.iload_n 3, 1)) (by decide +kernel : decode code 312 = .ok (.iconst 2, 1)) (by decide +kernel : decode code 313 = .ok (.iadd, 1)) (by decide +kernel : decode code 314 = .ok (.iaload, 1)) hl hS (by omega) hL ?_
  refine fd_lawCall (a := 0) (tl := [fd_I (xs (i + 1)).toInt, fd_I (xs (i + 2)).toInt]) (rest := []) C0 hKn (by omega) fd_lq_6a (fun v hv => by simp only [List.mem_cons, List.not_mem_nil, or_false] at hv; rcases hv with rfl | rfl <;> rfl) q1 (by decide +kernel : decode code 315 = .ok (.invokevirtual 40, 3)) hH hS hl.1 (by decide) hcs (fun H1 l1 hH1 hS1 => ?_)
  refine lv_aload_n C0.1 C0.2.1 (by decide +kernel : decode code 318 = .ok (.aload_n 2, 1)) rfl (lv_at hl 2 rfl) ?_
  refine fd_lawArg (k := 1) C0 hbs rfl (by decide +kernel : decode code 319 = .ok (.aload_n 0, 1)) (by decide +kernel : decode code 320 = .ok (.iload_n 3, 1)) (by decide +kernel : decode code 321 = .ok (.iconst 1, 1)) (by decide +kernel : decode code 322 = .ok (.iadd, 1)) (by decide +kernel : decode code 323 = .ok (.iaload, 1)) hl hS1 (by omega) hL ?_
  refine fd_lawArg (k := 2) C0 hbs rfl (by decide +kernel : decode code 324 = .ok (.aload_n 0, 1)) (by decide +kernel : decode code 325 = .ok (.iload_n 3, 1)) (by decide +kernel : decode code 326 = .ok (.iconst 2, 1)) (by decide +kernel : decode code 327 = .ok (.iadd, 1)) (by decide +kernel : decode code 328 = .ok (.iaload, 1)) hl hS1 (by omega) hL ?_
  refine fd_lawCall (a := 199) (tl := [fd_I (xs (i + 1)).toInt, fd_I (xs (i + 2)).toInt]) (rest := [fd_cv g (fd_I r)]) C0 hKn (by omega) fd_lq_6b (fun v hv => by simp only [List.mem_cons, List.not_mem_nil, or_false] at hv; rcases hv with rfl | rfl <;> rfl) q2 (by decide +kernel : decode code 329 = .ok (.invokevirtual 43, 3)) hH1 hS1 hl.1 (Nat.le_of_ble_eq_true rfl) hcs (fun H2 l2 hH2 hS2 => ?_)
  exact lv_icmp_eq (tgt := 828) C0.1 C0.2.1 (by decide +kernel : decode code 332 = .ok (.if_icmp .eq 496, 3)) (by decide) (fun _ => kk M2 H2 l2 q3 hH2 hS2) (fun q => absurd rfl q)
theorem fd_lq_7a : fd_lq 8 0 2 44 := by decide +kernel
theorem fd_lq_7b : fd_lq 85 199 2 47 := by decide +kernel
theorem fd_lc_7 (C0 : lw_At p s m meth c b L xs) (hKn : fd_Kn g s s.heap) (hbs : g.1 = s.heap.size) (hop : fd_op Rel 8 85 2) (hR : Rel M) (hl : lv_has la 4 [(0, .ref b), (1, .ref g.1), (2, .ref (g.1 + 199)), (3, .int (nI i))]) (hH : fd_hp g true M H) (hS : va_S (fd_A g) s.heap H locs) (hi : i + 4 ≤ L) (hL : L ≤ 256) (hcs : cells ≤ 1000 ∧ slots ≤ 11000) (kk : ∀ (M2 : fd_M) (H2 : Heap) (l2 : List Loc), Rel M2 → fd_hp g true M2 H2 → va_S (fd_A g) s.heap H2 l2 → W p l e room_1 s m #[Value.ref b] below meth c H2 l2 cells slots Q (F0 m 828 la [])) : W p l e room_1 s m #[Value.ref b] below meth c H locs cells slots Q (F0 m 337 la []) := by
  obtain ⟨r, M1, M2, q1, q2, q3⟩ := hop M hR [(xs (i + 1)).toInt, (xs (i + 2)).toInt] rfl (fun a ha => by simp only [List.mem_cons, List.not_mem_nil, or_false] at ha; rcases ha with rfl | rfl <;> exact fd_xrng _)
  refine lv_aload_n C0.1 C0.2.1 (by decide +kernel : decode code 337 = .ok (.aload_n 1, 1)) rfl (lv_at hl 1 rfl) ?_
  refine fd_lawArg (k := 1) C0 hbs rfl (by decide +kernel : decode code 338 = .ok (.aload_n 0, 1)) (by decide +kernel : decode code 339 = .ok (.iload_n 3, 1)) (by decide +kernel : decode code 340 = .ok (.iconst 1, 1)) (by decide +kernel : decode code 341 = .ok (.iadd, 1)) (by decide +kernel : decode code 342 = .ok (.iaload, 1)) hl hS (by omega) hL ?_
  refine fd_lawArg (k := 2) C0 hbs rfl (by decide +kernel : decode code 343 = .ok (.aload_n 0, 1)) (by decide +kernel : decode code 344 = .ok (.iload_n 3, 1)) (by decide +kernel : decode code 345 = .ok (.iconst 2, 1)) (by decide +kernel : decode code 346 = .ok (.iadd, 1)) (by decide +kernel : decode code 347 = .ok (.iaload, 1)) hl hS (by omega) hL ?_
  refine fd_lawCall (a := 0) (tl := [fd_I (xs (i + 1)).toInt, fd_I (xs (i + 2)).toInt]) (rest := []) C0 hKn (by omega) fd_lq_7a (fun v hv => by simp only [List.mem_cons, List.not_mem_nil, or_false] at hv; rcases hv with rfl | rfl <;> rfl) q1 (by decide +kernel : decode code 348 = .ok (.invokevirtual 44, 3)) hH hS hl.1 (by decide) hcs (fun H1 l1 hH1 hS1 => ?_)
  refine lv_aload_n C0.1 C0.2.1 (by decide +kernel : decode code 351 = .ok (.aload_n 2, 1)) rfl (lv_at hl 2 rfl) ?_
  refine fd_lawArg (k := 1) C0 hbs rfl (by decide +kernel : decode code 352 = .ok (.aload_n 0, 1)) (by decide +kernel : decode code 353 = .ok (.iload_n 3, 1)) (by decide +kernel : decode code 354 = .ok (.iconst 1, 1)) (by decide +kernel : decode code 355 = .ok (.iadd, 1)) (by decide +kernel : decode code 356 = .ok (.iaload, 1)) hl hS1 (by omega) hL ?_
  refine fd_lawArg (k := 2) C0 hbs rfl (by decide +kernel : decode code 357 = .ok (.aload_n 0, 1)) (by decide +kernel : decode code 358 = .ok (.iload_n 3, 1)) (by decide +kernel : decode code 359 = .ok (.iconst 2, 1)) (by decide +kernel : decode code 360 = .ok (.iadd, 1)) (by decide +kernel : decode code 361 = .ok (.iaload, 1)) hl hS1 (by omega) hL ?_
  refine fd_lawCall (a := 199) (tl := [fd_I (xs (i + 1)).toInt, fd_I (xs (i + 2)).toInt]) (rest := [fd_cv g (fd_I r)]) C0 hKn (by omega) fd_lq_7b (fun v hv => by simp only [List.mem_cons, List.not_mem_nil, or_false] at hv; rcases hv with rfl | rfl <;> rfl) q2 (by decide +kernel : decode code 362 = .ok (.invokevirtual 47, 3)) hH1 hS1 hl.1 (Nat.le_of_ble_eq_true rfl) hcs (fun H2 l2 hH2 hS2 => ?_)
  exact lv_icmp_eq (tgt := 828) C0.1 C0.2.1 (by decide +kernel : decode code 365 = .ok (.if_icmp .eq 463, 3)) (by decide) (fun _ => kk M2 H2 l2 q3 hH2 hS2) (fun q => absurd rfl q)
theorem fd_lq_8a : fd_lq 9 0 3 48 := by decide +kernel
theorem fd_lq_8b : fd_lq 87 199 3 52 := by decide +kernel
theorem fd_lc_8 (C0 : lw_At p s m meth c b L xs) (hKn : fd_Kn g s s.heap) (hbs : g.1 = s.heap.size) (hop : fd_op Rel 9 87 3) (hR : Rel M) (hl : lv_has la 4 [(0, .ref b), (1, .ref g.1), (2, .ref (g.1 + 199)), (3, .int (nI i))]) (hH : fd_hp g true M H) (hS : va_S (fd_A g) s.heap H locs) (hi : i + 4 ≤ L) (hL : L ≤ 256) (hcs : cells ≤ 1000 ∧ slots ≤ 11000) (kk : ∀ (M2 : fd_M) (H2 : Heap) (l2 : List Loc), Rel M2 → fd_hp g true M2 H2 → va_S (fd_A g) s.heap H2 l2 → W p l e room_1 s m #[Value.ref b] below meth c H2 l2 cells slots Q (F0 m 828 la [])) : W p l e room_1 s m #[Value.ref b] below meth c H locs cells slots Q (F0 m 370 la []) := by
  obtain ⟨r, M1, M2, q1, q2, q3⟩ := hop M hR [(xs (i + 1)).toInt, (xs (i + 2)).toInt, (xs (i + 3)).toInt] rfl (fun a ha => by simp only [List.mem_cons, List.not_mem_nil, or_false] at ha; rcases ha with rfl | rfl | rfl <;> exact fd_xrng _)
  refine lv_aload_n C0.1 C0.2.1 (by decide +kernel : decode code 370 = .ok (.aload_n 1, 1)) rfl (lv_at hl 1 rfl) ?_
  refine fd_lawArg (k := 1) C0 hbs rfl (by decide +kernel : decode code 371 = .ok (.aload_n 0, 1)) (by decide +kernel : decode code 372 = .ok (.iload_n 3, 1)) (by decide +kernel : decode code 373 = .ok (.iconst 1, 1)) (by decide +kernel : decode code 374 = .ok (.iadd, 1)) (by decide +kernel : decode code 375 = .ok (.iaload, 1)) hl hS (by omega) hL ?_
  refine fd_lawArg (k := 2) C0 hbs rfl (by decide +kernel : decode code 376 = .ok (.aload_n 0, 1)) (by decide +kernel : decode code 377 = .ok (.iload_n 3, 1)) (by decide +kernel : decode code 378 = .ok (.iconst 2, 1)) (by decide +kernel : decode code 379 = .ok (.iadd, 1)) (by decide +kernel : decode code 380 = .ok (.iaload, 1)) hl hS (by omega) hL ?_
  refine fd_lawArg (k := 3) C0 hbs rfl (by decide +kernel : decode code 381 = .ok (.aload_n 0, 1)) (by decide +kernel : decode code 382 = .ok (.iload_n 3, 1)) (by decide +kernel : decode code 383 = .ok (.iconst 3, 1)) (by decide +kernel : decode code 384 = .ok (.iadd, 1)) (by decide +kernel : decode code 385 = .ok (.iaload, 1)) hl hS (by omega) hL ?_
  refine fd_lawCall (a := 0) (tl := [fd_I (xs (i + 1)).toInt, fd_I (xs (i + 2)).toInt, fd_I (xs (i + 3)).toInt]) (rest := []) C0 hKn (by omega) fd_lq_8a (fun v hv => by simp only [List.mem_cons, List.not_mem_nil, or_false] at hv; rcases hv with rfl | rfl | rfl <;> rfl) q1 (by decide +kernel : decode code 386 = .ok (.invokevirtual 48, 3)) hH hS hl.1 (by decide) hcs (fun H1 l1 hH1 hS1 => ?_)
  refine lv_aload_n C0.1 C0.2.1 (by decide +kernel : decode code 389 = .ok (.aload_n 2, 1)) rfl (lv_at hl 2 rfl) ?_
  refine fd_lawArg (k := 1) C0 hbs rfl (by decide +kernel : decode code 390 = .ok (.aload_n 0, 1)) (by decide +kernel : decode code 391 = .ok (.iload_n 3, 1)) (by decide +kernel : decode code 392 = .ok (.iconst 1, 1)) (by decide +kernel : decode code 393 = .ok (.iadd, 1)) (by decide +kernel : decode code 394 = .ok (.iaload, 1)) hl hS1 (by omega) hL ?_
  refine fd_lawArg (k := 2) C0 hbs rfl (by decide +kernel : decode code 395 = .ok (.aload_n 0, 1)) (by decide +kernel : decode code 396 = .ok (.iload_n 3, 1)) (by decide +kernel : decode code 397 = .ok (.iconst 2, 1)) (by decide +kernel : decode code 398 = .ok (.iadd, 1)) (by decide +kernel : decode code 399 = .ok (.iaload, 1)) hl hS1 (by omega) hL ?_
  refine fd_lawArg (k := 3) C0 hbs rfl (by decide +kernel : decode code 400 = .ok (.aload_n 0, 1)) (by decide +kernel : decode code 401 = .ok (.iload_n 3, 1)) (by decide +kernel : decode code 402 = .ok (.iconst 3, 1)) (by decide +kernel : decode code 403 = .ok (.iadd, 1)) (by decide +kernel : decode code 404 = .ok (.iaload, 1)) hl hS1 (by omega) hL ?_
  refine fd_lawCall (a := 199) (tl := [fd_I (xs (i + 1)).toInt, fd_I (xs (i + 2)).toInt, fd_I (xs (i + 3)).toInt]) (rest := [fd_cv g (fd_I r)]) C0 hKn (by omega) fd_lq_8b (fun v hv => by simp only [List.mem_cons, List.not_mem_nil, or_false] at hv; rcases hv with rfl | rfl | rfl <;> rfl) q2 (by decide +kernel : decode code 405 = .ok (.invokevirtual 52, 3)) hH1 hS1 hl.1 (Nat.le_of_ble_eq_true rfl) hcs (fun H2 l2 hH2 hS2 => ?_)
  exact lv_icmp_eq (tgt := 828) C0.1 C0.2.1 (by decide +kernel : decode code 408 = .ok (.if_icmp .eq 420, 3)) (by decide) (fun _ => kk M2 H2 l2 q3 hH2 hS2) (fun q => absurd rfl q)
theorem fd_lq_9a : fd_lq 10 0 1 53 := by decide +kernel
theorem fd_lq_9b : fd_lq 89 199 1 56 := by decide +kernel
theorem fd_lc_9 (C0 : lw_At p s m meth c b L xs) (hKn : fd_Kn g s s.heap) (hbs : g.1 = s.heap.size) (hop : fd_op Rel 10 89 1) (hR : Rel M) (hl : lv_has la 4 [(0, .ref b), (1, .ref g.1), (2, .ref (g.1 + 199)), (3, .int (nI i))]) (hH : fd_hp g true M H) (hS : va_S (fd_A g) s.heap H locs) (hi : i + 4 ≤ L) (hL : L ≤ 256) (hcs : cells ≤ 1000 ∧ slots ≤ 11000) (kk : ∀ (M2 : fd_M) (H2 : Heap) (l2 : List Loc), Rel M2 → fd_hp g true M2 H2 → va_S (fd_A g) s.heap H2 l2 → W p l e room_1 s m #[Value.ref b] below meth c H2 l2 cells slots Q (F0 m 828 la [])) : W p l e room_1 s m #[Value.ref b] below meth c H locs cells slots Q (F0 m 413 la []) := by
  obtain ⟨r, M1, M2, q1, q2, q3⟩ := hop M hR [(xs (i + 1)).toInt] rfl (fun a ha => by simp only [List.mem_cons, List.not_mem_nil, or_false] at ha; rcases ha with rfl <;> exact fd_xrng _)
  refine lv_aload_n C0.1 C0.2.1 (by decide +kernel : decode code 413 = .ok (.aload_n 1, 1)) rfl (lv_at hl 1 rfl) ?_
  refine fd_lawArg (k := 1) C0 hbs rfl (by decide +kernel : decode code 414 = .ok (.aload_n 0, 1)) (by decide +kernel : decode code 415 = .ok (.iload_n 3, 1)) (by decide +kernel : decode code 416 = .ok (.iconst 1, 1)) (by decide +kernel : decode code 417 = .ok (.iadd, 1)) (by decide +kernel : decode code 418 = .ok (.iaload, 1)) hl hS (by omega) hL ?_
  refine fd_lawCall (a := 0) (tl := [fd_I (xs (i + 1)).toInt]) (rest := []) C0 hKn (by omega) fd_lq_9a (fun v hv => by simp only [List.mem_cons, List.not_mem_nil, or_false] at hv; rcases hv with rfl <;> rfl) q1 (by decide +kernel : decode code 419 = .ok (.invokevirtual 53, 3)) hH hS hl.1 (by decide) hcs (fun H1 l1 hH1 hS1 => ?_)
  refine lv_aload_n C0.1 C0.2.1 (by decide +kernel : decode code 422 = .ok (.aload_n 2, 1)) rfl (lv_at hl 2 rfl) ?_
  refine fd_lawArg (k := 1) C0 hbs rfl (by decide +kernel : decode code 423 = .ok (.aload_n 0, 1)) (by decide +kernel : decode code 424 = .ok (.iload_n 3, 1)) (by decide +kernel : decode code 425 = .ok (.iconst 1, 1)) (by decide +kernel : decode code 426 = .ok (.iadd, 1)) (by decide +kernel : decode code 427 = .ok (.iaload, 1)) hl hS1 (by omega) hL ?_
  refine fd_lawCall (a := 199) (tl := [fd_I (xs (i + 1)).toInt]) (rest := [fd_cv g (fd_I r)]) C0 hKn (by omega) fd_lq_9b (fun v hv => by simp only [List.mem_cons, List.not_mem_nil, or_false] at hv; rcases hv with rfl <;> rfl) q2 (by decide +kernel : decode code 428 = .ok (.invokevirtual 56, 3)) hH1 hS1 hl.1 (Nat.le_of_ble_eq_true rfl) hcs (fun H2 l2 hH2 hS2 => ?_)
  exact lv_icmp_eq (tgt := 828) C0.1 C0.2.1 (by decide +kernel : decode code 431 = .ok (.if_icmp .eq 397, 3)) (by decide) (fun _ => kk M2 H2 l2 q3 hH2 hS2) (fun q => absurd rfl q)
theorem fd_lq_10a : fd_lq 11 0 1 57 := by decide +kernel
theorem fd_lq_10b : fd_lq 90 199 1 60 := by decide +kernel
theorem fd_lc_10 (C0 : lw_At p s m meth c b L xs) (hKn : fd_Kn g s s.heap) (hbs : g.1 = s.heap.size) (hop : fd_op Rel 11 90 1) (hR : Rel M) (hl : lv_has la 4 [(0, .ref b), (1, .ref g.1), (2, .ref (g.1 + 199)), (3, .int (nI i))]) (hH : fd_hp g true M H) (hS : va_S (fd_A g) s.heap H locs) (hi : i + 4 ≤ L) (hL : L ≤ 256) (hcs : cells ≤ 1000 ∧ slots ≤ 11000) (kk : ∀ (M2 : fd_M) (H2 : Heap) (l2 : List Loc), Rel M2 → fd_hp g true M2 H2 → va_S (fd_A g) s.heap H2 l2 → W p l e room_1 s m #[Value.ref b] below meth c H2 l2 cells slots Q (F0 m 828 la [])) : W p l e room_1 s m #[Value.ref b] below meth c H locs cells slots Q (F0 m 436 la []) := by
  obtain ⟨r, M1, M2, q1, q2, q3⟩ := hop M hR [(xs (i + 1)).toInt] rfl (fun a ha => by simp only [List.mem_cons, List.not_mem_nil, or_false] at ha; rcases ha with rfl <;> exact fd_xrng _)
  refine lv_aload_n C0.1 C0.2.1 (by decide +kernel : decode code 436 = .ok (.aload_n 1, 1)) rfl (lv_at hl 1 rfl) ?_
  refine fd_lawArg (k := 1) C0 hbs rfl (by decide +kernel : decode code 437 = .ok (.aload_n 0, 1)) (by decide +kernel : decode code 438 = .ok (.iload_n 3, 1)) (by decide +kernel : decode code 439 = .ok (.iconst 1, 1)) (by decide +kernel : decode code 440 = .ok (.iadd, 1)) (by decide +kernel : decode code 441 = .ok (.iaload, 1)) hl hS (by omega) hL ?_
  refine fd_lawCall (a := 0) (tl := [fd_I (xs (i + 1)).toInt]) (rest := []) C0 hKn (by omega) fd_lq_10a (fun v hv => by simp only [List.mem_cons, List.not_mem_nil, or_false] at hv; rcases hv with rfl <;> rfl) q1 (by decide +kernel : decode code 442 = .ok (.invokevirtual 57, 3)) hH hS hl.1 (by decide) hcs (fun H1 l1 hH1 hS1 => ?_)
  refine lv_aload_n C0.1 C0.2.1 (by decide +kernel : decode code 445 = .ok (.aload_n 2, 1)) rfl (lv_at hl 2 rfl) ?_
  refine fd_lawArg (k := 1) C0 hbs rfl (by decide +kernel : decode code 446 = .ok (.aload_n 0, 1)) (by decide +kernel : decode code 447 = .ok (.iload_n 3, 1)) (by decide +kernel : decode code 448 = .ok (.iconst 1, 1)) (by decide +kernel : decode code 449 = .ok (.iadd, 1)) (by decide +kernel : decode code 450 = .ok (.iaload, 1)) hl hS1 (by omega) hL ?_
  refine fd_lawCall (a := 199) (tl := [fd_I (xs (i + 1)).toInt]) (rest := [fd_cv g (fd_I r)]) C0 hKn (by omega) fd_lq_10b (fun v hv => by simp only [List.mem_cons, List.not_mem_nil, or_false] at hv; rcases hv with rfl <;> rfl) q2 (by decide +kernel : decode code 451 = .ok (.invokevirtual 60, 3)) hH1 hS1 hl.1 (Nat.le_of_ble_eq_true rfl) hcs (fun H2 l2 hH2 hS2 => ?_)
  exact lv_icmp_eq (tgt := 828) C0.1 C0.2.1 (by decide +kernel : decode code 454 = .ok (.if_icmp .eq 374, 3)) (by decide) (fun _ => kk M2 H2 l2 q3 hH2 hS2) (fun q => absurd rfl q)
theorem fd_lq_11a : fd_lq 12 0 0 61 := by decide +kernel
theorem fd_lq_11b : fd_lq 91 199 0 64 := by decide +kernel
theorem fd_lc_11 (C0 : lw_At p s m meth c b L xs) (hKn : fd_Kn g s s.heap) (hbs : g.1 = s.heap.size) (hop : fd_op Rel 12 91 0) (hR : Rel M) (hl : lv_has la 4 [(0, .ref b), (1, .ref g.1), (2, .ref (g.1 + 199)), (3, .int (nI i))]) (hH : fd_hp g true M H) (hS : va_S (fd_A g) s.heap H locs) (hi : i + 4 ≤ L) (hL : L ≤ 256) (hcs : cells ≤ 1000 ∧ slots ≤ 11000) (kk : ∀ (M2 : fd_M) (H2 : Heap) (l2 : List Loc), Rel M2 → fd_hp g true M2 H2 → va_S (fd_A g) s.heap H2 l2 → W p l e room_1 s m #[Value.ref b] below meth c H2 l2 cells slots Q (F0 m 828 la [])) : W p l e room_1 s m #[Value.ref b] below meth c H locs cells slots Q (F0 m 459 la []) := by
  obtain ⟨r, M1, M2, q1, q2, q3⟩ := hop M hR [] rfl (fun a ha => by cases ha)
  refine lv_aload_n C0.1 C0.2.1 (by decide +kernel : decode code 459 = .ok (.aload_n 1, 1)) rfl (lv_at hl 1 rfl) ?_
  refine fd_lawCall (a := 0) (tl := []) (rest := []) C0 hKn (by omega) fd_lq_11a (fun v hv => by cases hv) q1 (by decide +kernel : decode code 460 = .ok (.invokevirtual 61, 3)) hH hS hl.1 (by decide) hcs (fun H1 l1 hH1 hS1 => ?_)
  refine lv_aload_n C0.1 C0.2.1 (by decide +kernel : decode code 463 = .ok (.aload_n 2, 1)) rfl (lv_at hl 2 rfl) ?_
  refine fd_lawCall (a := 199) (tl := []) (rest := [fd_cv g (fd_I r)]) C0 hKn (by omega) fd_lq_11b (fun v hv => by cases hv) q2 (by decide +kernel : decode code 464 = .ok (.invokevirtual 64, 3)) hH1 hS1 hl.1 (Nat.le_of_ble_eq_true rfl) hcs (fun H2 l2 hH2 hS2 => ?_)
  exact lv_icmp_eq (tgt := 828) C0.1 C0.2.1 (by decide +kernel : decode code 467 = .ok (.if_icmp .eq 361, 3)) (by decide) (fun _ => kk M2 H2 l2 q3 hH2 hS2) (fun q => absurd rfl q)
theorem fd_lq_12a : fd_lq 13 0 0 65 := by decide +kernel
theorem fd_lq_12b : fd_lq 92 199 0 68 := by decide +kernel
theorem fd_lc_12 (C0 : lw_At p s m meth c b L xs) (hKn : fd_Kn g s s.heap) (hbs : g.1 = s.heap.size) (hop : fd_op Rel 13 92 0) (hR : Rel M) (hl : lv_has la 4 [(0, .ref b), (1, .ref g.1), (2, .ref (g.1 + 199)), (3, .int (nI i))]) (hH : fd_hp g true M H) (hS : va_S (fd_A g) s.heap H locs) (hi : i + 4 ≤ L) (hL : L ≤ 256) (hcs : cells ≤ 1000 ∧ slots ≤ 11000) (kk : ∀ (M2 : fd_M) (H2 : Heap) (l2 : List Loc), Rel M2 → fd_hp g true M2 H2 → va_S (fd_A g) s.heap H2 l2 → W p l e room_1 s m #[Value.ref b] below meth c H2 l2 cells slots Q (F0 m 828 la [])) : W p l e room_1 s m #[Value.ref b] below meth c H locs cells slots Q (F0 m 472 la []) := by
  obtain ⟨r, M1, M2, q1, q2, q3⟩ := hop M hR [] rfl (fun a ha => by cases ha)
  refine lv_aload_n C0.1 C0.2.1 (by decide +kernel : decode code 472 = .ok (.aload_n 1, 1)) rfl (lv_at hl 1 rfl) ?_
  refine fd_lawCall (a := 0) (tl := []) (rest := []) C0 hKn (by omega) fd_lq_12a (fun v hv => by cases hv) q1 (by decide +kernel : decode code 473 = .ok (.invokevirtual 65, 3)) hH hS hl.1 (by decide) hcs (fun H1 l1 hH1 hS1 => ?_)
  refine lv_aload_n C0.1 C0.2.1 (by decide +kernel : decode code 476 = .ok (.aload_n 2, 1)) rfl (lv_at hl 2 rfl) ?_
  refine fd_lawCall (a := 199) (tl := []) (rest := [fd_cv g (fd_I r)]) C0 hKn (by omega) fd_lq_12b (fun v hv => by cases hv) q2 (by decide +kernel : decode code 477 = .ok (.invokevirtual 68, 3)) hH1 hS1 hl.1 (Nat.le_of_ble_eq_true rfl) hcs (fun H2 l2 hH2 hS2 => ?_)
  exact lv_icmp_eq (tgt := 828) C0.1 C0.2.1 (by decide +kernel : decode code 480 = .ok (.if_icmp .eq 348, 3)) (by decide) (fun _ => kk M2 H2 l2 q3 hH2 hS2) (fun q => absurd rfl q)
theorem fd_lq_13a : fd_lq 14 0 1 69 := by decide +kernel
theorem fd_lq_13b : fd_lq 94 199 1 72 := by decide +kernel
theorem fd_lc_13 (C0 : lw_At p s m meth c b L xs) (hKn : fd_Kn g s s.heap) (hbs : g.1 = s.heap.size) (hop : fd_op Rel 14 94 1) (hR : Rel M) (hl : lv_has la 4 [(0, .ref b), (1, .ref g.1), (2, .ref (g.1 + 199)), (3, .int (nI i))]) (hH : fd_hp g true M H) (hS : va_S (fd_A g) s.heap H locs) (hi : i + 4 ≤ L) (hL : L ≤ 256) (hcs : cells ≤ 1000 ∧ slots ≤ 11000) (kk : ∀ (M2 : fd_M) (H2 : Heap) (l2 : List Loc), Rel M2 → fd_hp g true M2 H2 → va_S (fd_A g) s.heap H2 l2 → W p l e room_1 s m #[Value.ref b] below meth c H2 l2 cells slots Q (F0 m 828 la [])) : W p l e room_1 s m #[Value.ref b] below meth c H locs cells slots Q (F0 m 485 la []) := by
  obtain ⟨r, M1, M2, q1, q2, q3⟩ := hop M hR [(xs (i + 1)).toInt] rfl (fun a ha => by simp only [List.mem_cons, List.not_mem_nil, or_false] at ha; rcases ha with rfl <;> exact fd_xrng _)
  refine lv_aload_n C0.1 C0.2.1 (by decide +kernel : decode code 485 = .ok (.aload_n 1, 1)) rfl (lv_at hl 1 rfl) ?_
  refine fd_lawArg (k := 1) C0 hbs rfl (by decide +kernel : decode code 486 = .ok (.aload_n 0, 1)) (by decide +kernel : decode code 487 = .ok (.iload_n 3, 1)) (by decide +kernel : decode code 488 = .ok (.iconst 1, 1)) (by decide +kernel : decode code 489 = .ok (.iadd, 1)) (by decide +kernel : decode code 490 = .ok (.iaload, 1)) hl hS (by omega) hL ?_
  refine fd_lawCall (a := 0) (tl := [fd_I (xs (i + 1)).toInt]) (rest := []) C0 hKn (by omega) fd_lq_13a (fun v hv => by simp only [List.mem_cons, List.not_mem_nil, or_false] at hv; rcases hv with rfl <;> rfl) q1 (by decide +kernel : decode code 491 = .ok (.invokevirtual 69, 3)) hH hS hl.1 (by decide) hcs (fun H1 l1 hH1 hS1 => ?_)
  refine lv_aload_n C0.1 C0.2.1 (by decide +kernel : decode code 494 = .ok (.aload_n 2, 1)) rfl (lv_at hl 2 rfl) ?_
  refine fd_lawArg (k := 1) C0 hbs rfl (by decide +kernel : decode code 495 = .ok (.aload_n 0, 1)) (by decide +kernel : decode code 496 = .ok (.iload_n 3, 1)) (by decide +kernel : decode code 497 = .ok (.iconst 1, 1)) (by decide +kernel : decode code 498 = .ok (.iadd, 1)) (by decide +kernel : decode code 499 = .ok (.iaload, 1)) hl hS1 (by omega) hL ?_
  refine fd_lawCall (a := 199) (tl := [fd_I (xs (i + 1)).toInt]) (rest := [fd_cv g (fd_I r)]) C0 hKn (by omega) fd_lq_13b (fun v hv => by simp only [List.mem_cons, List.not_mem_nil, or_false] at hv; rcases hv with rfl <;> rfl) q2 (by decide +kernel : decode code 500 = .ok (.invokevirtual 72, 3)) hH1 hS1 hl.1 (Nat.le_of_ble_eq_true rfl) hcs (fun H2 l2 hH2 hS2 => ?_)
  exact lv_icmp_eq (tgt := 828) C0.1 C0.2.1 (by decide +kernel : decode code 503 = .ok (.if_icmp .eq 325, 3)) (by decide) (fun _ => kk M2 H2 l2 q3 hH2 hS2) (fun q => absurd rfl q)
theorem fd_lq_14a : fd_lq 15 0 1 73 := by decide +kernel
theorem fd_lq_14b : fd_lq 97 199 1 76 := by decide +kernel
theorem fd_lc_14 (C0 : lw_At p s m meth c b L xs) (hKn : fd_Kn g s s.heap) (hbs : g.1 = s.heap.size) (hop : fd_op Rel 15 97 1) (hR : Rel M) (hl : lv_has la 4 [(0, .ref b), (1, .ref g.1), (2, .ref (g.1 + 199)), (3, .int (nI i))]) (hH : fd_hp g true M H) (hS : va_S (fd_A g) s.heap H locs) (hi : i + 4 ≤ L) (hL : L ≤ 256) (hcs : cells ≤ 1000 ∧ slots ≤ 11000) (kk : ∀ (M2 : fd_M) (H2 : Heap) (l2 : List Loc), Rel M2 → fd_hp g true M2 H2 → va_S (fd_A g) s.heap H2 l2 → W p l e room_1 s m #[Value.ref b] below meth c H2 l2 cells slots Q (F0 m 828 la [])) : W p l e room_1 s m #[Value.ref b] below meth c H locs cells slots Q (F0 m 508 la []) := by
  obtain ⟨r, M1, M2, q1, q2, q3⟩ := hop M hR [(xs (i + 1)).toInt] rfl (fun a ha => by simp only [List.mem_cons, List.not_mem_nil, or_false] at ha; rcases ha with rfl <;> exact fd_xrng _)
  refine lv_aload_n C0.1 C0.2.1 (by decide +kernel : decode code 508 = .ok (.aload_n 1, 1)) rfl (lv_at hl 1 rfl) ?_
  refine fd_lawArg (k := 1) C0 hbs rfl (by decide +kernel : decode code 509 = .ok (.aload_n 0, 1)) (by decide +kernel : decode code 510 = .ok (.iload_n 3, 1)) (by decide +kernel : decode code 511 = .ok (.iconst 1, 1)) (by decide +kernel : decode code 512 = .ok (.iadd, 1)) (by decide +kernel : decode code 513 = .ok (.iaload, 1)) hl hS (by omega) hL ?_
  refine fd_lawCall (a := 0) (tl := [fd_I (xs (i + 1)).toInt]) (rest := []) C0 hKn (by omega) fd_lq_14a (fun v hv => by simp only [List.mem_cons, List.not_mem_nil, or_false] at hv; rcases hv with rfl <;> rfl) q1 (by decide +kernel : decode code 514 = .ok (.invokevirtual 73, 3)) hH hS hl.1 (by decide) hcs (fun H1 l1 hH1 hS1 => ?_)
  refine lv_aload_n C0.1 C0.2.1 (by decide +kernel : decode code 517 = .ok (.aload_n 2, 1)) rfl (lv_at hl 2 rfl) ?_
  refine fd_lawArg (k := 1) C0 hbs rfl (by decide +kernel : decode code 518 = .ok (.aload_n 0, 1)) (by decide +kernel : decode code 519 = .ok (.iload_n 3, 1)) (by decide +kernel : decode code 520 = .ok (.iconst 1, 1)) (by decide +kernel : decode code 521 = .ok (.iadd, 1)) (by decide +kernel : decode code 522 = .ok (.iaload, 1)) hl hS1 (by omega) hL ?_
  refine fd_lawCall (a := 199) (tl := [fd_I (xs (i + 1)).toInt]) (rest := [fd_cv g (fd_I r)]) C0 hKn (by omega) fd_lq_14b (fun v hv => by simp only [List.mem_cons, List.not_mem_nil, or_false] at hv; rcases hv with rfl <;> rfl) q2 (by decide +kernel : decode code 523 = .ok (.invokevirtual 76, 3)) hH1 hS1 hl.1 (Nat.le_of_ble_eq_true rfl) hcs (fun H2 l2 hH2 hS2 => ?_)
  exact lv_icmp_eq (tgt := 828) C0.1 C0.2.1 (by decide +kernel : decode code 526 = .ok (.if_icmp .eq 302, 3)) (by decide) (fun _ => kk M2 H2 l2 q3 hH2 hS2) (fun q => absurd rfl q)
theorem fd_lq_15a : fd_lq 16 0 0 77 := by decide +kernel
theorem fd_lq_15b : fd_lq 98 199 0 80 := by decide +kernel
theorem fd_lc_15 (C0 : lw_At p s m meth c b L xs) (hKn : fd_Kn g s s.heap) (hbs : g.1 = s.heap.size) (hop : fd_op Rel 16 98 0) (hR : Rel M) (hl : lv_has la 4 [(0, .ref b), (1, .ref g.1), (2, .ref (g.1 + 199)), (3, .int (nI i))]) (hH : fd_hp g true M H) (hS : va_S (fd_A g) s.heap H locs) (hi : i + 4 ≤ L) (hL : L ≤ 256) (hcs : cells ≤ 1000 ∧ slots ≤ 11000) (kk : ∀ (M2 : fd_M) (H2 : Heap) (l2 : List Loc), Rel M2 → fd_hp g true M2 H2 → va_S (fd_A g) s.heap H2 l2 → W p l e room_1 s m #[Value.ref b] below meth c H2 l2 cells slots Q (F0 m 828 la [])) : W p l e room_1 s m #[Value.ref b] below meth c H locs cells slots Q (F0 m 531 la []) := by
  obtain ⟨r, M1, M2, q1, q2, q3⟩ := hop M hR [] rfl (fun a ha => by cases ha)
  refine lv_aload_n C0.1 C0.2.1 (by decide +kernel : decode code 531 = .ok (.aload_n 1, 1)) rfl (lv_at hl 1 rfl) ?_
  refine fd_lawCall (a := 0) (tl := []) (rest := []) C0 hKn (by omega) fd_lq_15a (fun v hv => by cases hv) q1 (by decide +kernel : decode code 532 = .ok (.invokevirtual 77, 3)) hH hS hl.1 (by decide) hcs (fun H1 l1 hH1 hS1 => ?_)
  refine lv_aload_n C0.1 C0.2.1 (by decide +kernel : decode code 535 = .ok (.aload_n 2, 1)) rfl (lv_at hl 2 rfl) ?_
  refine fd_lawCall (a := 199) (tl := []) (rest := [fd_cv g (fd_I r)]) C0 hKn (by omega) fd_lq_15b (fun v hv => by cases hv) q2 (by decide +kernel : decode code 536 = .ok (.invokevirtual 80, 3)) hH1 hS1 hl.1 (Nat.le_of_ble_eq_true rfl) hcs (fun H2 l2 hH2 hS2 => ?_)
  exact lv_icmp_eq (tgt := 828) C0.1 C0.2.1 (by decide +kernel : decode code 539 = .ok (.if_icmp .eq 289, 3)) (by decide) (fun _ => kk M2 H2 l2 q3 hH2 hS2) (fun q => absurd rfl q)
theorem fd_lq_16a : fd_lq 17 0 1 81 := by decide +kernel
theorem fd_lq_16b : fd_lq 99 199 1 84 := by decide +kernel
theorem fd_lc_16 (C0 : lw_At p s m meth c b L xs) (hKn : fd_Kn g s s.heap) (hbs : g.1 = s.heap.size) (hop : fd_op Rel 17 99 1) (hR : Rel M) (hl : lv_has la 4 [(0, .ref b), (1, .ref g.1), (2, .ref (g.1 + 199)), (3, .int (nI i))]) (hH : fd_hp g true M H) (hS : va_S (fd_A g) s.heap H locs) (hi : i + 4 ≤ L) (hL : L ≤ 256) (hcs : cells ≤ 1000 ∧ slots ≤ 11000) (kk : ∀ (M2 : fd_M) (H2 : Heap) (l2 : List Loc), Rel M2 → fd_hp g true M2 H2 → va_S (fd_A g) s.heap H2 l2 → W p l e room_1 s m #[Value.ref b] below meth c H2 l2 cells slots Q (F0 m 828 la [])) : W p l e room_1 s m #[Value.ref b] below meth c H locs cells slots Q (F0 m 544 la []) := by
  obtain ⟨r, M1, M2, q1, q2, q3⟩ := hop M hR [(xs (i + 1)).toInt] rfl (fun a ha => by simp only [List.mem_cons, List.not_mem_nil, or_false] at ha; rcases ha with rfl <;> exact fd_xrng _)
  refine lv_aload_n C0.1 C0.2.1 (by decide +kernel : decode code 544 = .ok (.aload_n 1, 1)) rfl (lv_at hl 1 rfl) ?_
  refine fd_lawArg (k := 1) C0 hbs rfl (by decide +kernel : decode code 545 = .ok (.aload_n 0, 1)) (by decide +kernel : decode code 546 = .ok (.iload_n 3, 1)) (by decide +kernel : decode code 547 = .ok (.iconst 1, 1)) (by decide +kernel : decode code 548 = .ok (.iadd, 1)) (by decide +kernel : decode code 549 = .ok (.iaload, 1)) hl hS (by omega) hL ?_
  refine fd_lawCall (a := 0) (tl := [fd_I (xs (i + 1)).toInt]) (rest := []) C0 hKn (by omega) fd_lq_16a (fun v hv => by simp only [List.mem_cons, List.not_mem_nil, or_false] at hv; rcases hv with rfl <;> rfl) q1 (by decide +kernel : decode code 550 = .ok (.invokevirtual 81, 3)) hH hS hl.1 (by decide) hcs (fun H1 l1 hH1 hS1 => ?_)
  refine lv_aload_n C0.1 C0.2.1 (by decide +kernel : decode code 553 = .ok (.aload_n 2, 1)) rfl (lv_at hl 2 rfl) ?_
  refine fd_lawArg (k := 1) C0 hbs rfl (by decide +kernel : decode code 554 = .ok (.aload_n 0, 1)) (by decide +kernel : decode code 555 = .ok (.iload_n 3, 1)) (by decide +kernel : decode code 556 = .ok (.iconst 1, 1)) (by decide +kernel : decode code 557 = .ok (.iadd, 1)) (by decide +kernel : decode code 558 = .ok (.iaload, 1)) hl hS1 (by omega) hL ?_
  refine fd_lawCall (a := 199) (tl := [fd_I (xs (i + 1)).toInt]) (rest := [fd_cv g (fd_I r)]) C0 hKn (by omega) fd_lq_16b (fun v hv => by simp only [List.mem_cons, List.not_mem_nil, or_false] at hv; rcases hv with rfl <;> rfl) q2 (by decide +kernel : decode code 559 = .ok (.invokevirtual 84, 3)) hH1 hS1 hl.1 (Nat.le_of_ble_eq_true rfl) hcs (fun H2 l2 hH2 hS2 => ?_)
  exact lv_icmp_eq (tgt := 828) C0.1 C0.2.1 (by decide +kernel : decode code 562 = .ok (.if_icmp .eq 266, 3)) (by decide) (fun _ => kk M2 H2 l2 q3 hH2 hS2) (fun q => absurd rfl q)
theorem fd_lq_17a : fd_lq 18 0 2 85 := by decide +kernel
theorem fd_lq_17b : fd_lq 100 199 2 88 := by decide +kernel
theorem fd_lc_17 (C0 : lw_At p s m meth c b L xs) (hKn : fd_Kn g s s.heap) (hbs : g.1 = s.heap.size) (hop : fd_op Rel 18 100 2) (hR : Rel M) (hl : lv_has la 4 [(0, .ref b), (1, .ref g.1), (2, .ref (g.1 + 199)), (3, .int (nI i))]) (hH : fd_hp g true M H) (hS : va_S (fd_A g) s.heap H locs) (hi : i + 4 ≤ L) (hL : L ≤ 256) (hcs : cells ≤ 1000 ∧ slots ≤ 11000) (kk : ∀ (M2 : fd_M) (H2 : Heap) (l2 : List Loc), Rel M2 → fd_hp g true M2 H2 → va_S (fd_A g) s.heap H2 l2 → W p l e room_1 s m #[Value.ref b] below meth c H2 l2 cells slots Q (F0 m 828 la [])) : W p l e room_1 s m #[Value.ref b] below meth c H locs cells slots Q (F0 m 567 la []) := by
  obtain ⟨r, M1, M2, q1, q2, q3⟩ := hop M hR [(xs (i + 1)).toInt, (xs (i + 2)).toInt] rfl (fun a ha => by simp only [List.mem_cons, List.not_mem_nil, or_false] at ha; rcases ha with rfl | rfl <;> exact fd_xrng _)
  refine lv_aload_n C0.1 C0.2.1 (by decide +kernel : decode code 567 = .ok (.aload_n 1, 1)) rfl (lv_at hl 1 rfl) ?_
  refine fd_lawArg (k := 1) C0 hbs rfl (by decide +kernel : decode code 568 = .ok (.aload_n 0, 1)) (by decide +kernel : decode code 569 = .ok (.iload_n 3, 1)) (by decide +kernel : decode code 570 = .ok (.iconst 1, 1)) (by decide +kernel : decode code 571 = .ok (.iadd, 1)) (by decide +kernel : decode code 572 = .ok (.iaload, 1)) hl hS (by omega) hL ?_
  refine fd_lawArg (k := 2) C0 hbs rfl (by decide +kernel : decode code 573 = .ok (.aload_n 0, 1)) (by decide +kernel : decode code 574 = .ok (.iload_n 3, 1)) (by decide +kernel : decode code 575 = .ok (.iconst 2, 1)) (by decide +kernel : decode code 576 = .ok (.iadd, 1)) (by decide +kernel : decode code 577 = .ok (.iaload, 1)) hl hS (by omega) hL ?_
  refine fd_lawCall (a := 0) (tl := [fd_I (xs (i + 1)).toInt, fd_I (xs (i + 2)).toInt]) (rest := []) C0 hKn (by omega) fd_lq_17a (fun v hv => by simp only [List.mem_cons, List.not_mem_nil, or_false] at hv; rcases hv with rfl | rfl <;> rfl) q1 (by decide +kernel : decode code 578 = .ok (.invokevirtual 85, 3)) hH hS hl.1 (by decide) hcs (fun H1 l1 hH1 hS1 => ?_)
  refine lv_aload_n C0.1 C0.2.1 (by decide +kernel : decode code 581 = .ok (.aload_n 2, 1)) rfl (lv_at hl 2 rfl) ?_
  refine fd_lawArg (k := 1) C0 hbs rfl (by decide +kernel : decode code 582 = .ok (.aload_n 0, 1)) (by decide +kernel : decode code 583 = .ok (.iload_n 3, 1)) (by decide +kernel : decode code 584 = .ok (.iconst 1, 1)) (by decide +kernel : decode code 585 = .ok (.iadd, 1)) (by decide +kernel : decode code 586 = .ok (.iaload, 1)) hl hS1 (by omega) hL ?_
  refine fd_lawArg (k := 2) C0 hbs rfl (by decide +kernel : decode code 587 = .ok (.aload_n 0, 1)) (by decide +kernel : decode code 588 = .ok (.iload_n 3, 1)) (by decide +kernel : decode code 589 = .ok (.iconst 2, 1)) (by decide +kernel : decode code 590 = .ok (.iadd, 1)) (by decide +kernel : decode code 591 = .ok (.iaload, 1)) hl hS1 (by omega) hL ?_
  refine fd_lawCall (a := 199) (tl := [fd_I (xs (i + 1)).toInt, fd_I (xs (i + 2)).toInt]) (rest := [fd_cv g (fd_I r)]) C0 hKn (by omega) fd_lq_17b (fun v hv => by simp only [List.mem_cons, List.not_mem_nil, or_false] at hv; rcases hv with rfl | rfl <;> rfl) q2 (by decide +kernel : decode code 592 = .ok (.invokevirtual 88, 3)) hH1 hS1 hl.1 (Nat.le_of_ble_eq_true rfl) hcs (fun H2 l2 hH2 hS2 => ?_)
  exact lv_icmp_eq (tgt := 828) C0.1 C0.2.1 (by decide +kernel : decode code 595 = .ok (.if_icmp .eq 233, 3)) (by decide) (fun _ => kk M2 H2 l2 q3 hH2 hS2) (fun q => absurd rfl q)
theorem fd_lq_18a : fd_lq 19 0 0 89 := by decide +kernel
theorem fd_lq_18b : fd_lq 101 199 0 92 := by decide +kernel
theorem fd_lc_18 (C0 : lw_At p s m meth c b L xs) (hKn : fd_Kn g s s.heap) (hbs : g.1 = s.heap.size) (hop : fd_op Rel 19 101 0) (hR : Rel M) (hl : lv_has la 4 [(0, .ref b), (1, .ref g.1), (2, .ref (g.1 + 199)), (3, .int (nI i))]) (hH : fd_hp g true M H) (hS : va_S (fd_A g) s.heap H locs) (hi : i + 4 ≤ L) (hL : L ≤ 256) (hcs : cells ≤ 1000 ∧ slots ≤ 11000) (kk : ∀ (M2 : fd_M) (H2 : Heap) (l2 : List Loc), Rel M2 → fd_hp g true M2 H2 → va_S (fd_A g) s.heap H2 l2 → W p l e room_1 s m #[Value.ref b] below meth c H2 l2 cells slots Q (F0 m 828 la [])) : W p l e room_1 s m #[Value.ref b] below meth c H locs cells slots Q (F0 m 600 la []) := by
  obtain ⟨r, M1, M2, q1, q2, q3⟩ := hop M hR [] rfl (fun a ha => by cases ha)
  refine lv_aload_n C0.1 C0.2.1 (by decide +kernel : decode code 600 = .ok (.aload_n 1, 1)) rfl (lv_at hl 1 rfl) ?_
  refine fd_lawCall (a := 0) (tl := []) (rest := []) C0 hKn (by omega) fd_lq_18a (fun v hv => by cases hv) q1 (by decide +kernel : decode code 601 = .ok (.invokevirtual 89, 3)) hH hS hl.1 (by decide) hcs (fun H1 l1 hH1 hS1 => ?_)
  refine lv_aload_n C0.1 C0.2.1 (by decide +kernel : decode code 604 = .ok (.aload_n 2, 1)) rfl (lv_at hl 2 rfl) ?_
  refine fd_lawCall (a := 199) (tl := []) (rest := [fd_cv g (fd_I r)]) C0 hKn (by omega) fd_lq_18b (fun v hv => by cases hv) q2 (by decide +kernel : decode code 605 = .ok (.invokevirtual 92, 3)) hH1 hS1 hl.1 (Nat.le_of_ble_eq_true rfl) hcs (fun H2 l2 hH2 hS2 => ?_)
  exact lv_icmp_eq (tgt := 828) C0.1 C0.2.1 (by decide +kernel : decode code 608 = .ok (.if_icmp .eq 220, 3)) (by decide) (fun _ => kk M2 H2 l2 q3 hH2 hS2) (fun q => absurd rfl q)
theorem fd_lq_19a : fd_lq 20 0 1 93 := by decide +kernel
theorem fd_lq_19b : fd_lq 102 199 1 96 := by decide +kernel
theorem fd_lc_19 (C0 : lw_At p s m meth c b L xs) (hKn : fd_Kn g s s.heap) (hbs : g.1 = s.heap.size) (hop : fd_op Rel 20 102 1) (hR : Rel M) (hl : lv_has la 4 [(0, .ref b), (1, .ref g.1), (2, .ref (g.1 + 199)), (3, .int (nI i))]) (hH : fd_hp g true M H) (hS : va_S (fd_A g) s.heap H locs) (hi : i + 4 ≤ L) (hL : L ≤ 256) (hcs : cells ≤ 1000 ∧ slots ≤ 11000) (kk : ∀ (M2 : fd_M) (H2 : Heap) (l2 : List Loc), Rel M2 → fd_hp g true M2 H2 → va_S (fd_A g) s.heap H2 l2 → W p l e room_1 s m #[Value.ref b] below meth c H2 l2 cells slots Q (F0 m 828 la [])) : W p l e room_1 s m #[Value.ref b] below meth c H locs cells slots Q (F0 m 613 la []) := by
  obtain ⟨r, M1, M2, q1, q2, q3⟩ := hop M hR [(xs (i + 1)).toInt] rfl (fun a ha => by simp only [List.mem_cons, List.not_mem_nil, or_false] at ha; rcases ha with rfl <;> exact fd_xrng _)
  refine lv_aload_n C0.1 C0.2.1 (by decide +kernel : decode code 613 = .ok (.aload_n 1, 1)) rfl (lv_at hl 1 rfl) ?_
  refine fd_lawArg (k := 1) C0 hbs rfl (by decide +kernel : decode code 614 = .ok (.aload_n 0, 1)) (by decide +kernel : decode code 615 = .ok (.iload_n 3, 1)) (by decide +kernel : decode code 616 = .ok (.iconst 1, 1)) (by decide +kernel : decode code 617 = .ok (.iadd, 1)) (by decide +kernel : decode code 618 = .ok (.iaload, 1)) hl hS (by omega) hL ?_
  refine fd_lawCall (a := 0) (tl := [fd_I (xs (i + 1)).toInt]) (rest := []) C0 hKn (by omega) fd_lq_19a (fun v hv => by simp only [List.mem_cons, List.not_mem_nil, or_false] at hv; rcases hv with rfl <;> rfl) q1 (by decide +kernel : decode code 619 = .ok (.invokevirtual 93, 3)) hH hS hl.1 (by decide) hcs (fun H1 l1 hH1 hS1 => ?_)
  refine lv_aload_n C0.1 C0.2.1 (by decide +kernel : decode code 622 = .ok (.aload_n 2, 1)) rfl (lv_at hl 2 rfl) ?_
  refine fd_lawArg (k := 1) C0 hbs rfl (by decide +kernel : decode code 623 = .ok (.aload_n 0, 1)) (by decide +kernel : decode code 624 = .ok (.iload_n 3, 1)) (by decide +kernel : decode code 625 = .ok (.iconst 1, 1)) (by decide +kernel : decode code 626 = .ok (.iadd, 1)) (by decide +kernel : decode code 627 = .ok (.iaload, 1)) hl hS1 (by omega) hL ?_
  refine fd_lawCall (a := 199) (tl := [fd_I (xs (i + 1)).toInt]) (rest := [fd_cv g (fd_I r)]) C0 hKn (by omega) fd_lq_19b (fun v hv => by simp only [List.mem_cons, List.not_mem_nil, or_false] at hv; rcases hv with rfl <;> rfl) q2 (by decide +kernel : decode code 628 = .ok (.invokevirtual 96, 3)) hH1 hS1 hl.1 (Nat.le_of_ble_eq_true rfl) hcs (fun H2 l2 hH2 hS2 => ?_)
  exact lv_icmp_eq (tgt := 828) C0.1 C0.2.1 (by decide +kernel : decode code 631 = .ok (.if_icmp .eq 197, 3)) (by decide) (fun _ => kk M2 H2 l2 q3 hH2 hS2) (fun q => absurd rfl q)
theorem fd_lq_20a : fd_lq 21 0 3 97 := by decide +kernel
theorem fd_lq_20b : fd_lq 105 199 3 100 := by decide +kernel
theorem fd_lc_20 (C0 : lw_At p s m meth c b L xs) (hKn : fd_Kn g s s.heap) (hbs : g.1 = s.heap.size) (hop : fd_op Rel 21 105 3) (hR : Rel M) (hl : lv_has la 4 [(0, .ref b), (1, .ref g.1), (2, .ref (g.1 + 199)), (3, .int (nI i))]) (hH : fd_hp g true M H) (hS : va_S (fd_A g) s.heap H locs) (hi : i + 4 ≤ L) (hL : L ≤ 256) (hcs : cells ≤ 1000 ∧ slots ≤ 11000) (kk : ∀ (M2 : fd_M) (H2 : Heap) (l2 : List Loc), Rel M2 → fd_hp g true M2 H2 → va_S (fd_A g) s.heap H2 l2 → W p l e room_1 s m #[Value.ref b] below meth c H2 l2 cells slots Q (F0 m 828 la [])) : W p l e room_1 s m #[Value.ref b] below meth c H locs cells slots Q (F0 m 636 la []) := by
  obtain ⟨r, M1, M2, q1, q2, q3⟩ := hop M hR [(xs (i + 1)).toInt, (xs (i + 2)).toInt, (xs (i + 3)).toInt] rfl (fun a ha => by simp only [List.mem_cons, List.not_mem_nil, or_false] at ha; rcases ha with rfl | rfl | rfl <;> exact fd_xrng _)
  refine lv_aload_n C0.1 C0.2.1 (by decide +kernel : decode code 636 = .ok (.aload_n 1, 1)) rfl (lv_at hl 1 rfl) ?_
  refine fd_lawArg (k := 1) C0 hbs rfl (by decide +kernel : decode code 637 = .ok (.aload_n 0, 1)) (by decide +kernel : decode code 638 = .ok (.iload_n 3, 1)) (by decide +kernel : decode code 639 = .ok (.iconst 1, 1)) (by decide +kernel : decode code 640 = .ok (.iadd, 1)) (by decide +kernel : decode code 641 = .ok (.iaload, 1)) hl hS (by omega) hL ?_
  refine fd_lawArg (k := 2) C0 hbs rfl (by decide +kernel : decode code 642 = .ok (.aload_n 0, 1)) (by decide +kernel : decode code 643 = .ok (.iload_n 3, 1)) (by decide +kernel : decode code 644 = .ok (.iconst 2, 1)) (by decide +kernel : decode code 645 = .ok (.iadd, 1)) (by decide +kernel : decode code 646 = .ok (.iaload, 1)) hl hS (by omega) hL ?_
  refine fd_lawArg (k := 3) C0 hbs rfl (by decide +kernel : decode code 647 = .ok (.aload_n 0, 1)) (by decide +kernel : decode code 648 = .ok (.iload_n 3, 1)) (by decide +kernel : decode code 649 = .ok (.iconst 3, 1)) (by decide +kernel : decode code 650 = .ok (.iadd, 1)) (by decide +kernel : decode code 651 = .ok (.iaload, 1)) hl hS (by omega) hL ?_
  refine fd_lawCall (a := 0) (tl := [fd_I (xs (i + 1)).toInt, fd_I (xs (i + 2)).toInt, fd_I (xs (i + 3)).toInt]) (rest := []) C0 hKn (by omega) fd_lq_20a (fun v hv => by simp only [List.mem_cons, List.not_mem_nil, or_false] at hv; rcases hv with rfl | rfl | rfl <;> rfl) q1 (by decide +kernel : decode code 652 = .ok (.invokevirtual 97, 3)) hH hS hl.1 (by decide) hcs (fun H1 l1 hH1 hS1 => ?_)
  refine lv_aload_n C0.1 C0.2.1 (by decide +kernel : decode code 655 = .ok (.aload_n 2, 1)) rfl (lv_at hl 2 rfl) ?_
  refine fd_lawArg (k := 1) C0 hbs rfl (by decide +kernel : decode code 656 = .ok (.aload_n 0, 1)) (by decide +kernel : decode code 657 = .ok (.iload_n 3, 1)) (by decide +kernel : decode code 658 = .ok (.iconst 1, 1)) (by decide +kernel : decode code 659 = .ok (.iadd, 1)) (by decide +kernel : decode code 660 = .ok (.iaload, 1)) hl hS1 (by omega) hL ?_
  refine fd_lawArg (k := 2) C0 hbs rfl (by decide +kernel : decode code 661 = .ok (.aload_n 0, 1)) (by decide +kernel : decode code 662 = .ok (.iload_n 3, 1)) (by decide +kernel : decode code 663 = .ok (.iconst 2, 1)) (by decide +kernel : decode code 664 = .ok (.iadd, 1)) (by decide +kernel : decode code 665 = .ok (.iaload, 1)) hl hS1 (by omega) hL ?_
  refine fd_lawArg (k := 3) C0 hbs rfl (by decide +kernel : decode code 666 = .ok (.aload_n 0, 1)) (by decide +kernel : decode code 667 = .ok (.iload_n 3, 1)) (by decide +kernel : decode code 668 = .ok (.iconst 3, 1)) (by decide +kernel : decode code 669 = .ok (.iadd, 1)) (by decide +kernel : decode code 670 = .ok (.iaload, 1)) hl hS1 (by omega) hL ?_
  refine fd_lawCall (a := 199) (tl := [fd_I (xs (i + 1)).toInt, fd_I (xs (i + 2)).toInt, fd_I (xs (i + 3)).toInt]) (rest := [fd_cv g (fd_I r)]) C0 hKn (by omega) fd_lq_20b (fun v hv => by simp only [List.mem_cons, List.not_mem_nil, or_false] at hv; rcases hv with rfl | rfl | rfl <;> rfl) q2 (by decide +kernel : decode code 671 = .ok (.invokevirtual 100, 3)) hH1 hS1 hl.1 (Nat.le_of_ble_eq_true rfl) hcs (fun H2 l2 hH2 hS2 => ?_)
  exact lv_icmp_eq (tgt := 828) C0.1 C0.2.1 (by decide +kernel : decode code 674 = .ok (.if_icmp .eq 154, 3)) (by decide) (fun _ => kk M2 H2 l2 q3 hH2 hS2) (fun q => absurd rfl q)
theorem fd_lq_21a : fd_lq 22 0 2 101 := by decide +kernel
theorem fd_lq_21b : fd_lq 106 199 2 104 := by decide +kernel
theorem fd_lc_21 (C0 : lw_At p s m meth c b L xs) (hKn : fd_Kn g s s.heap) (hbs : g.1 = s.heap.size) (hop : fd_op Rel 22 106 2) (hR : Rel M) (hl : lv_has la 4 [(0, .ref b), (1, .ref g.1), (2, .ref (g.1 + 199)), (3, .int (nI i))]) (hH : fd_hp g true M H) (hS : va_S (fd_A g) s.heap H locs) (hi : i + 4 ≤ L) (hL : L ≤ 256) (hcs : cells ≤ 1000 ∧ slots ≤ 11000) (kk : ∀ (M2 : fd_M) (H2 : Heap) (l2 : List Loc), Rel M2 → fd_hp g true M2 H2 → va_S (fd_A g) s.heap H2 l2 → W p l e room_1 s m #[Value.ref b] below meth c H2 l2 cells slots Q (F0 m 828 la [])) : W p l e room_1 s m #[Value.ref b] below meth c H locs cells slots Q (F0 m 679 la []) := by
  obtain ⟨r, M1, M2, q1, q2, q3⟩ := hop M hR [(xs (i + 1)).toInt, (xs (i + 2)).toInt] rfl (fun a ha => by simp only [List.mem_cons, List.not_mem_nil, or_false] at ha; rcases ha with rfl | rfl <;> exact fd_xrng _)
  refine lv_aload_n C0.1 C0.2.1 (by decide +kernel : decode code 679 = .ok (.aload_n 1, 1)) rfl (lv_at hl 1 rfl) ?_
  refine fd_lawArg (k := 1) C0 hbs rfl (by decide +kernel : decode code 680 = .ok (.aload_n 0, 1)) (by decide +kernel : decode code 681 = .ok (.iload_n 3, 1)) (by decide +kernel : decode code 682 = .ok (.iconst 1, 1)) (by decide +kernel : decode code 683 = .ok (.iadd, 1)) (by decide +kernel : decode code 684 = .ok (.iaload, 1)) hl hS (by omega) hL ?_
  refine fd_lawArg (k := 2) C0 hbs rfl (by decide +kernel : decode code 685 = .ok (.aload_n 0, 1)) (by decide +kernel : decode code 686 = .ok (.iload_n 3, 1)) (by decide +kernel : decode code 687 = .ok (.iconst 2, 1)) (by decide +kernel : decode code 688 = .ok (.iadd, 1)) (by decide +kernel : decode code 689 = .ok (.iaload, 1)) hl hS (by omega) hL ?_
  refine fd_lawCall (a := 0) (tl := [fd_I (xs (i + 1)).toInt, fd_I (xs (i + 2)).toInt]) (rest := []) C0 hKn (by omega) fd_lq_21a (fun v hv => by simp only [List.mem_cons, List.not_mem_nil, or_false] at hv; rcases hv with rfl | rfl <;> rfl) q1 (by decide +kernel : decode code 690 = .ok (.invokevirtual 101, 3)) hH hS hl.1 (by decide) hcs (fun H1 l1 hH1 hS1 => ?_)
  refine lv_aload_n C0.1 C0.2.1 (by decide +kernel : decode code 693 = .ok (.aload_n 2, 1)) rfl (lv_at hl 2 rfl) ?_
  refine fd_lawArg (k := 1) C0 hbs rfl (by decide +kernel : decode code 694 = .ok (.aload_n 0, 1)) (by decide +kernel : decode code 695 = .ok (.iload_n 3, 1)) (by decide +kernel : decode code 696 = .ok (.iconst 1, 1)) (by decide +kernel : decode code 697 = .ok (.iadd, 1)) (by decide +kernel : decode code 698 = .ok (.iaload, 1)) hl hS1 (by omega) hL ?_
  refine fd_lawArg (k := 2) C0 hbs rfl (by decide +kernel : decode code 699 = .ok (.aload_n 0, 1)) (by decide +kernel : decode code 700 = .ok (.iload_n 3, 1)) (by decide +kernel : decode code 701 = .ok (.iconst 2, 1)) (by decide +kernel : decode code 702 = .ok (.iadd, 1)) (by decide +kernel : decode code 703 = .ok (.iaload, 1)) hl hS1 (by omega) hL ?_
  refine fd_lawCall (a := 199) (tl := [fd_I (xs (i + 1)).toInt, fd_I (xs (i + 2)).toInt]) (rest := [fd_cv g (fd_I r)]) C0 hKn (by omega) fd_lq_21b (fun v hv => by simp only [List.mem_cons, List.not_mem_nil, or_false] at hv; rcases hv with rfl | rfl <;> rfl) q2 (by decide +kernel : decode code 704 = .ok (.invokevirtual 104, 3)) hH1 hS1 hl.1 (Nat.le_of_ble_eq_true rfl) hcs (fun H2 l2 hH2 hS2 => ?_)
  exact lv_icmp_eq (tgt := 828) C0.1 C0.2.1 (by decide +kernel : decode code 707 = .ok (.if_icmp .eq 121, 3)) (by decide) (fun _ => kk M2 H2 l2 q3 hH2 hS2) (fun q => absurd rfl q)
theorem fd_lq_22a : fd_lq 23 0 2 105 := by decide +kernel
theorem fd_lq_22b : fd_lq 107 199 2 108 := by decide +kernel
theorem fd_lc_22 (C0 : lw_At p s m meth c b L xs) (hKn : fd_Kn g s s.heap) (hbs : g.1 = s.heap.size) (hop : fd_op Rel 23 107 2) (hR : Rel M) (hl : lv_has la 4 [(0, .ref b), (1, .ref g.1), (2, .ref (g.1 + 199)), (3, .int (nI i))]) (hH : fd_hp g true M H) (hS : va_S (fd_A g) s.heap H locs) (hi : i + 4 ≤ L) (hL : L ≤ 256) (hcs : cells ≤ 1000 ∧ slots ≤ 11000) (kk : ∀ (M2 : fd_M) (H2 : Heap) (l2 : List Loc), Rel M2 → fd_hp g true M2 H2 → va_S (fd_A g) s.heap H2 l2 → W p l e room_1 s m #[Value.ref b] below meth c H2 l2 cells slots Q (F0 m 828 la [])) : W p l e room_1 s m #[Value.ref b] below meth c H locs cells slots Q (F0 m 712 la []) := by
  obtain ⟨r, M1, M2, q1, q2, q3⟩ := hop M hR [(xs (i + 1)).toInt, (xs (i + 2)).toInt] rfl (fun a ha => by simp only [List.mem_cons, List.not_mem_nil, or_false] at ha; rcases ha with rfl | rfl <;> exact fd_xrng _)
  refine lv_aload_n C0.1 C0.2.1 (by decide +kernel : decode code 712 = .ok (.aload_n 1, 1)) rfl (lv_at hl 1 rfl) ?_
  refine fd_lawArg (k := 1) C0 hbs rfl (by decide +kernel : decode code 713 = .ok (.aload_n 0, 1)) (by decide +kernel : decode code 714 = .ok (.iload_n 3, 1)) (by decide +kernel : decode code 715 = .ok (.iconst 1, 1)) (by decide +kernel : decode code 716 = .ok (.iadd, 1)) (by decide +kernel : decode code 717 = .ok (.iaload, 1)) hl hS (by omega) hL ?_
  refine fd_lawArg (k := 2) C0 hbs rfl (by decide +kernel : decode code 718 = .ok (.aload_n 0, 1)) (by decide +kernel : decode code 719 = .ok (.iload_n 3, 1)) (by decide +kernel : decode code 720 = .ok (.iconst 2, 1)) (by decide +kernel : decode code 721 = .ok (.iadd, 1)) (by decide +kernel : decode code 722 = .ok (.iaload, 1)) hl hS (by omega) hL ?_
  refine fd_lawCall (a := 0) (tl := [fd_I (xs (i + 1)).toInt, fd_I (xs (i + 2)).toInt]) (rest := []) C0 hKn (by omega) fd_lq_22a (fun v hv => by simp only [List.mem_cons, List.not_mem_nil, or_false] at hv; rcases hv with rfl | rfl <;> rfl) q1 (by decide +kernel : decode code 723 = .ok (.invokevirtual 105, 3)) hH hS hl.1 (by decide) hcs (fun H1 l1 hH1 hS1 => ?_)
  refine lv_aload_n C0.1 C0.2.1 (by decide +kernel : decode code 726 = .ok (.aload_n 2, 1)) rfl (lv_at hl 2 rfl) ?_
  refine fd_lawArg (k := 1) C0 hbs rfl (by decide +kernel : decode code 727 = .ok (.aload_n 0, 1)) (by decide +kernel : decode code 728 = .ok (.iload_n 3, 1)) (by decide +kernel : decode code 729 = .ok (.iconst 1, 1)) (by decide +kernel : decode code 730 = .ok (.iadd, 1)) (by decide +kernel : decode code 731 = .ok (.iaload, 1)) hl hS1 (by omega) hL ?_
  refine fd_lawArg (k := 2) C0 hbs rfl (by decide +kernel : decode code 732 = .ok (.aload_n 0, 1)) (by decide +kernel : decode code 733 = .ok (.iload_n 3, 1)) (by decide +kernel : decode code 734 = .ok (.iconst 2, 1)) (by decide +kernel : decode code 735 = .ok (.iadd, 1)) (by decide +kernel : decode code 736 = .ok (.iaload, 1)) hl hS1 (by omega) hL ?_
  refine fd_lawCall (a := 199) (tl := [fd_I (xs (i + 1)).toInt, fd_I (xs (i + 2)).toInt]) (rest := [fd_cv g (fd_I r)]) C0 hKn (by omega) fd_lq_22b (fun v hv => by simp only [List.mem_cons, List.not_mem_nil, or_false] at hv; rcases hv with rfl | rfl <;> rfl) q2 (by decide +kernel : decode code 737 = .ok (.invokevirtual 108, 3)) hH1 hS1 hl.1 (Nat.le_of_ble_eq_true rfl) hcs (fun H2 l2 hH2 hS2 => ?_)
  exact lv_icmp_eq (tgt := 828) C0.1 C0.2.1 (by decide +kernel : decode code 740 = .ok (.if_icmp .eq 88, 3)) (by decide) (fun _ => kk M2 H2 l2 q3 hH2 hS2) (fun q => absurd rfl q)
theorem fd_lq_23a : fd_lq 24 0 1 109 := by decide +kernel
theorem fd_lq_23b : fd_lq 108 199 1 112 := by decide +kernel
theorem fd_lc_23 (C0 : lw_At p s m meth c b L xs) (hKn : fd_Kn g s s.heap) (hbs : g.1 = s.heap.size) (hop : fd_op Rel 24 108 1) (hR : Rel M) (hl : lv_has la 4 [(0, .ref b), (1, .ref g.1), (2, .ref (g.1 + 199)), (3, .int (nI i))]) (hH : fd_hp g true M H) (hS : va_S (fd_A g) s.heap H locs) (hi : i + 4 ≤ L) (hL : L ≤ 256) (hcs : cells ≤ 1000 ∧ slots ≤ 11000) (kk : ∀ (M2 : fd_M) (H2 : Heap) (l2 : List Loc), Rel M2 → fd_hp g true M2 H2 → va_S (fd_A g) s.heap H2 l2 → W p l e room_1 s m #[Value.ref b] below meth c H2 l2 cells slots Q (F0 m 828 la [])) : W p l e room_1 s m #[Value.ref b] below meth c H locs cells slots Q (F0 m 745 la []) := by
  obtain ⟨r, M1, M2, q1, q2, q3⟩ := hop M hR [(xs (i + 1)).toInt] rfl (fun a ha => by simp only [List.mem_cons, List.not_mem_nil, or_false] at ha; rcases ha with rfl <;> exact fd_xrng _)
  refine lv_aload_n C0.1 C0.2.1 (by decide +kernel : decode code 745 = .ok (.aload_n 1, 1)) rfl (lv_at hl 1 rfl) ?_
  refine fd_lawArg (k := 1) C0 hbs rfl (by decide +kernel : decode code 746 = .ok (.aload_n 0, 1)) (by decide +kernel : decode code 747 = .ok (.iload_n 3, 1)) (by decide +kernel : decode code 748 = .ok (.iconst 1, 1)) (by decide +kernel : decode code 749 = .ok (.iadd, 1)) (by decide +kernel : decode code 750 = .ok (.iaload, 1)) hl hS (by omega) hL ?_
  refine fd_lawCall (a := 0) (tl := [fd_I (xs (i + 1)).toInt]) (rest := []) C0 hKn (by omega) fd_lq_23a (fun v hv => by simp only [List.mem_cons, List.not_mem_nil, or_false] at hv; rcases hv with rfl <;> rfl) q1 (by decide +kernel : decode code 751 = .ok (.invokevirtual 109, 3)) hH hS hl.1 (by decide) hcs (fun H1 l1 hH1 hS1 => ?_)
  refine lv_aload_n C0.1 C0.2.1 (by decide +kernel : decode code 754 = .ok (.aload_n 2, 1)) rfl (lv_at hl 2 rfl) ?_
  refine fd_lawArg (k := 1) C0 hbs rfl (by decide +kernel : decode code 755 = .ok (.aload_n 0, 1)) (by decide +kernel : decode code 756 = .ok (.iload_n 3, 1)) (by decide +kernel : decode code 757 = .ok (.iconst 1, 1)) (by decide +kernel : decode code 758 = .ok (.iadd, 1)) (by decide +kernel : decode code 759 = .ok (.iaload, 1)) hl hS1 (by omega) hL ?_
  refine fd_lawCall (a := 199) (tl := [fd_I (xs (i + 1)).toInt]) (rest := [fd_cv g (fd_I r)]) C0 hKn (by omega) fd_lq_23b (fun v hv => by simp only [List.mem_cons, List.not_mem_nil, or_false] at hv; rcases hv with rfl <;> rfl) q2 (by decide +kernel : decode code 760 = .ok (.invokevirtual 112, 3)) hH1 hS1 hl.1 (Nat.le_of_ble_eq_true rfl) hcs (fun H2 l2 hH2 hS2 => ?_)
  exact lv_icmp_eq (tgt := 828) C0.1 C0.2.1 (by decide +kernel : decode code 763 = .ok (.if_icmp .eq 65, 3)) (by decide) (fun _ => kk M2 H2 l2 q3 hH2 hS2) (fun q => absurd rfl q)
theorem fd_lq_24a : fd_lq 25 0 1 113 := by decide +kernel
theorem fd_lq_24b : fd_lq 109 199 1 116 := by decide +kernel
theorem fd_lc_24 (C0 : lw_At p s m meth c b L xs) (hKn : fd_Kn g s s.heap) (hbs : g.1 = s.heap.size) (hop : fd_op Rel 25 109 1) (hR : Rel M) (hl : lv_has la 4 [(0, .ref b), (1, .ref g.1), (2, .ref (g.1 + 199)), (3, .int (nI i))]) (hH : fd_hp g true M H) (hS : va_S (fd_A g) s.heap H locs) (hi : i + 4 ≤ L) (hL : L ≤ 256) (hcs : cells ≤ 1000 ∧ slots ≤ 11000) (kk : ∀ (M2 : fd_M) (H2 : Heap) (l2 : List Loc), Rel M2 → fd_hp g true M2 H2 → va_S (fd_A g) s.heap H2 l2 → W p l e room_1 s m #[Value.ref b] below meth c H2 l2 cells slots Q (F0 m 828 la [])) : W p l e room_1 s m #[Value.ref b] below meth c H locs cells slots Q (F0 m 768 la []) := by
  obtain ⟨r, M1, M2, q1, q2, q3⟩ := hop M hR [(xs (i + 1)).toInt] rfl (fun a ha => by simp only [List.mem_cons, List.not_mem_nil, or_false] at ha; rcases ha with rfl <;> exact fd_xrng _)
  refine lv_aload_n C0.1 C0.2.1 (by decide +kernel : decode code 768 = .ok (.aload_n 1, 1)) rfl (lv_at hl 1 rfl) ?_
  refine fd_lawArg (k := 1) C0 hbs rfl (by decide +kernel : decode code 769 = .ok (.aload_n 0, 1)) (by decide +kernel : decode code 770 = .ok (.iload_n 3, 1)) (by decide +kernel : decode code 771 = .ok (.iconst 1, 1)) (by decide +kernel : decode code 772 = .ok (.iadd, 1)) (by decide +kernel : decode code 773 = .ok (.iaload, 1)) hl hS (by omega) hL ?_
  refine fd_lawCall (a := 0) (tl := [fd_I (xs (i + 1)).toInt]) (rest := []) C0 hKn (by omega) fd_lq_24a (fun v hv => by simp only [List.mem_cons, List.not_mem_nil, or_false] at hv; rcases hv with rfl <;> rfl) q1 (by decide +kernel : decode code 774 = .ok (.invokevirtual 113, 3)) hH hS hl.1 (by decide) hcs (fun H1 l1 hH1 hS1 => ?_)
  refine lv_aload_n C0.1 C0.2.1 (by decide +kernel : decode code 777 = .ok (.aload_n 2, 1)) rfl (lv_at hl 2 rfl) ?_
  refine fd_lawArg (k := 1) C0 hbs rfl (by decide +kernel : decode code 778 = .ok (.aload_n 0, 1)) (by decide +kernel : decode code 779 = .ok (.iload_n 3, 1)) (by decide +kernel : decode code 780 = .ok (.iconst 1, 1)) (by decide +kernel : decode code 781 = .ok (.iadd, 1)) (by decide +kernel : decode code 782 = .ok (.iaload, 1)) hl hS1 (by omega) hL ?_
  refine fd_lawCall (a := 199) (tl := [fd_I (xs (i + 1)).toInt]) (rest := [fd_cv g (fd_I r)]) C0 hKn (by omega) fd_lq_24b (fun v hv => by simp only [List.mem_cons, List.not_mem_nil, or_false] at hv; rcases hv with rfl <;> rfl) q2 (by decide +kernel : decode code 783 = .ok (.invokevirtual 116, 3)) hH1 hS1 hl.1 (Nat.le_of_ble_eq_true rfl) hcs (fun H2 l2 hH2 hS2 => ?_)
  exact lv_icmp_eq (tgt := 828) C0.1 C0.2.1 (by decide +kernel : decode code 786 = .ok (.if_icmp .eq 42, 3)) (by decide) (fun _ => kk M2 H2 l2 q3 hH2 hS2) (fun q => absurd rfl q)
theorem fd_lq_25a : fd_lq 26 0 1 117 := by decide +kernel
theorem fd_lq_25b : fd_lq 110 199 1 120 := by decide +kernel
theorem fd_lc_25 (C0 : lw_At p s m meth c b L xs) (hKn : fd_Kn g s s.heap) (hbs : g.1 = s.heap.size) (hop : fd_op Rel 26 110 1) (hR : Rel M) (hl : lv_has la 4 [(0, .ref b), (1, .ref g.1), (2, .ref (g.1 + 199)), (3, .int (nI i))]) (hH : fd_hp g true M H) (hS : va_S (fd_A g) s.heap H locs) (hi : i + 4 ≤ L) (hL : L ≤ 256) (hcs : cells ≤ 1000 ∧ slots ≤ 11000) (kk : ∀ (M2 : fd_M) (H2 : Heap) (l2 : List Loc), Rel M2 → fd_hp g true M2 H2 → va_S (fd_A g) s.heap H2 l2 → W p l e room_1 s m #[Value.ref b] below meth c H2 l2 cells slots Q (F0 m 828 la [])) : W p l e room_1 s m #[Value.ref b] below meth c H locs cells slots Q (F0 m 791 la []) := by
  obtain ⟨r, M1, M2, q1, q2, q3⟩ := hop M hR [(xs (i + 1)).toInt] rfl (fun a ha => by simp only [List.mem_cons, List.not_mem_nil, or_false] at ha; rcases ha with rfl <;> exact fd_xrng _)
  refine lv_aload_n C0.1 C0.2.1 (by decide +kernel : decode code 791 = .ok (.aload_n 1, 1)) rfl (lv_at hl 1 rfl) ?_
  refine fd_lawArg (k := 1) C0 hbs rfl (by decide +kernel : decode code 792 = .ok (.aload_n 0, 1)) (by decide +kernel : decode code 793 = .ok (.iload_n 3, 1)) (by decide +kernel : decode code 794 = .ok (.iconst 1, 1)) (by decide +kernel : decode code 795 = .ok (.iadd, 1)) (by decide +kernel : decode code 796 = .ok (.iaload, 1)) hl hS (by omega) hL ?_
  refine fd_lawCall (a := 0) (tl := [fd_I (xs (i + 1)).toInt]) (rest := []) C0 hKn (by omega) fd_lq_25a (fun v hv => by simp only [List.mem_cons, List.not_mem_nil, or_false] at hv; rcases hv with rfl <;> rfl) q1 (by decide +kernel : decode code 797 = .ok (.invokevirtual 117, 3)) hH hS hl.1 (by decide) hcs (fun H1 l1 hH1 hS1 => ?_)
  refine lv_aload_n C0.1 C0.2.1 (by decide +kernel : decode code 800 = .ok (.aload_n 2, 1)) rfl (lv_at hl 2 rfl) ?_
  refine fd_lawArg (k := 1) C0 hbs rfl (by decide +kernel : decode code 801 = .ok (.aload_n 0, 1)) (by decide +kernel : decode code 802 = .ok (.iload_n 3, 1)) (by decide +kernel : decode code 803 = .ok (.iconst 1, 1)) (by decide +kernel : decode code 804 = .ok (.iadd, 1)) (by decide +kernel : decode code 805 = .ok (.iaload, 1)) hl hS1 (by omega) hL ?_
  refine fd_lawCall (a := 199) (tl := [fd_I (xs (i + 1)).toInt]) (rest := [fd_cv g (fd_I r)]) C0 hKn (by omega) fd_lq_25b (fun v hv => by simp only [List.mem_cons, List.not_mem_nil, or_false] at hv; rcases hv with rfl <;> rfl) q2 (by decide +kernel : decode code 806 = .ok (.invokevirtual 120, 3)) hH1 hS1 hl.1 (Nat.le_of_ble_eq_true rfl) hcs (fun H2 l2 hH2 hS2 => ?_)
  exact lv_icmp_eq (tgt := 828) C0.1 C0.2.1 (by decide +kernel : decode code 809 = .ok (.if_icmp .eq 19, 3)) (by decide) (fun _ => kk M2 H2 l2 q3 hH2 hS2) (fun q => absurd rfl q)
theorem fd_lq_26a : fd_lq 27 0 0 121 := by decide +kernel
theorem fd_lq_26b : fd_lq 111 199 0 125 := by decide +kernel
theorem fd_lc_26 (C0 : lw_At p s m meth c b L xs) (hKn : fd_Kn g s s.heap) (hbs : g.1 = s.heap.size) (hop : fd_opJ Rel 27 111) (hR : Rel M) (hl : lv_has la 4 [(0, .ref b), (1, .ref g.1), (2, .ref (g.1 + 199)), (3, .int (nI i))]) (hH : fd_hp g true M H) (hS : va_S (fd_A g) s.heap H locs) (hi : i + 4 ≤ L) (hL : L ≤ 256) (hcs : cells ≤ 1000 ∧ slots ≤ 11000) (kk : ∀ (M2 : fd_M) (H2 : Heap) (l2 : List Loc), Rel M2 → fd_hp g true M2 H2 → va_S (fd_A g) s.heap H2 l2 → W p l e room_1 s m #[Value.ref b] below meth c H2 l2 cells slots Q (F0 m 828 la [])) : W p l e room_1 s m #[Value.ref b] below meth c H locs cells slots Q (F0 m 814 la []) := by
  obtain ⟨r, M1, M2, q1, q2, q3⟩ := hop M hR
  refine lv_aload_n C0.1 C0.2.1 (by decide +kernel : decode code 814 = .ok (.aload_n 1, 1)) rfl (lv_at hl 1 rfl) ?_
  refine fd_lawCall (a := 0) (tl := []) (rest := []) C0 hKn (by omega) fd_lq_26a (fun v hv => by cases hv) q1 (by decide +kernel : decode code 815 = .ok (.invokevirtual 121, 3)) hH hS hl.1 (by decide) hcs (fun H1 l1 hH1 hS1 => ?_)
  refine lv_aload_n C0.1 C0.2.1 (by decide +kernel : decode code 818 = .ok (.aload_n 2, 1)) rfl (lv_at hl 2 rfl) ?_
  refine fd_lawCall (a := 199) (tl := []) (rest := [fd_cv g (fd_J r)]) C0 hKn (by omega) fd_lq_26b (fun v hv => by cases hv) q2 (by decide +kernel : decode code 819 = .ok (.invokevirtual 125, 3)) hH1 hS1 hl.1 (Nat.le_of_ble_eq_true rfl) hcs (fun H2 l2 hH2 hS2 => ?_)
  refine W.lcmp C0.1 C0.2.1 (by decide +kernel : decode code 822 = .ok (.lcmp, 1)) ?_
  refine lv_if_eq (tgt := 828) C0.1 C0.2.1 (by decide +kernel : decode code 823 = .ok (.ifCond .eq 5, 3)) (by decide) (fun _ => kk M2 H2 l2 q3 hH2 hS2) (fun q => absurd ?_ q)
  rw [lg_cmp, if_neg (by rw [gt_iff_lt, Int64.lt_iff_toInt_lt]; omega), if_pos rfl]
end fdLaw
end
section
section fdLoop
variable {p : Program} {l : Launch} {e : Env} {s : State} {m : MethodId} {below : List Frame} {meth : Method} {c : Code} {b L : Nat} {xs : Nat → Int32} {g : fd_G} {Rel : fd_M → Prop}
theorem fd_law_sw : decode code 32 = .ok (.tableswitch (828 - 32) 0 26 #[124, 147, 160, 173, 206, 239, 272, 305, 338, 381, 404, 427, 440, 453, 476, 499, 512, 535, 568, 581, 604, 647, 680, 713, 736, 759, 782], 124) := by decide +kernel
theorem fd_law_loop (hL : L ≤ 256) (C0 : lw_At p s m meth c b L xs) (hKn : fd_Kn g s s.heap) (hbs : g.1 = s.heap.size) (hops : fd_OpsOk Rel) :
    ∀ (n i : Nat), L < i + 4 * n + 4 → i ≤ L → ∀ (M : fd_M) (H : Heap) (locs : List Loc), Rel M → fd_hp g true M H → va_S (fd_A g) s.heap H locs → ∀ (la : Array Slot), lv_has la 4 [(0, .ref b), (1, .ref g.1), (2, .ref (g.1 + 199)), (3, .int (nI i))] → W p l e room_1 s m #[Value.ref b] below meth c H locs 1000 11000 (lw_Z below #[Value.ref b] s) (F0 m 18 la []) := by
  intro n
  induction n with
  | zero => ?_
  | succ n ih => ?_
  all_goals
    intro i hn hiL M H locs hR hH hS la hl
    obtain ⟨hx, hb, hr, hml, hown, hts, hX, hbl, hlocks, hgv⟩ := id C0
    have hbA : ¬ g.1 ≤ b := by omega
    refine lv_iload_n hx hb (by decide +kernel : decode code 18 = .ok (.iload_n 3, 1)) rfl (lv_at hl 3 rfl) ?_
    refine lv_aload_n hx hb (by decide +kernel : decode code 19 = .ok (.aload_n 0, 1)) rfl (lv_at hl 0 rfl) ?_
    refine va_slen hx hb hX hbl hbA hS (by decide +kernel : decode code 20 = .ok (.arraylength, 1)) ?_
    refine lv_iconst (v := 4) hx hb (by decide +kernel : decode code 21 = .ok (.iconst 4, 1)) (by decide) ?_
    refine lv_isub hx hb (by decide +kernel : decode code 22 = .ok (.isub, 1)) ?_
    have e4 : (nI L - 4 : Int32).toInt = (L : Int) - 4 := pk_sub_toInt (b := 4) (by omega) (by decide)
    have ei : (nI i).toInt = (i : Int) := nI_toInt (by omega)
    refine lv_icmp_gt (tgt := 834) hx hb (by decide +kernel : decode code 23 = .ok (.if_icmp .gt 811, 3)) (by decide) (fun _ => ?_) (fun q => ?_)
    · refine lv_iconst (v := 1) hx hb (by decide +kernel : decode code 834 = .ok (.iconst 1, 1)) (by decide) ?_
      refine va_forget (fun q hq => ?_) ?_
      · have := hS.2.2 q hq
        show s.heap.size ≤ q.base
        rw [← hbs]
        exact this
      refine W.widen (k := 600000) (n := 7302250) (by decide) (by decide) ?_
      exact lw_ret hx hb hr hlocks (by decide +kernel : decode code 835 = .ok (.ireturn, 1))
  · exfalso
    apply q
    rw [Int32.lt_iff_toInt_lt]
    show (nI L - 4 : Int32).toInt < _
    rw [e4, ei]
    omega
  · have hi4 : i + 4 ≤ L := by
      rcases Nat.lt_or_ge L (i + 4) with z | z
      · exfalso
        apply q
        rw [Int32.lt_iff_toInt_lt]
        show (nI L - 4 : Int32).toInt < _
        rw [e4, ei]
        omega
      · exact z
    have kk : ∀ (M2 : fd_M) (H2 : Heap) (l2 : List Loc), Rel M2 → fd_hp g true M2 H2 → va_S (fd_A g) s.heap H2 l2 → W p l e room_1 s m #[Value.ref b] below meth c H2 l2 1000 11000 (lw_Z below #[Value.ref b] s) (F0 m 828 la []) := fun M2 H2 l2 h1 h2 h3 => by
      refine lv_iinc (v := nI (i + 4)) (lv' := [(3, .int (nI (i + 4))), (0, .ref b), (1, .ref g.1), (2, .ref (g.1 + 199))]) hx hb (by decide +kernel : decode code 828 = .ok (.iinc 3 4, 3)) hl (k := 3) rfl (nI_add i 4) (by decide) rfl (fun la1 hl1 => ?_)
      refine lv_goto (tgt := 18) hx hb (by decide +kernel : decode code 831 = .ok (.goto (-813), 3)) (by decide) ?_
      exact ih (i + 4) (by omega) hi4 M2 H2 l2 h1 h2 h3 la1 (lv_sub hl1 [1, 2, 3, 0] rfl)
    refine lv_aload_n hx hb (by decide +kernel : decode code 26 = .ok (.aload_n 0, 1)) rfl (lv_at hl 0 rfl) ?_
    refine lv_iload_n hx hb (by decide +kernel : decode code 27 = .ok (.iload_n 3, 1)) rfl (lv_at hl 3 rfl) ?_
    refine va_sld hx hb hX hbl hbA hS (vp_in_nI (show i < L by omega) (by omega)) (by decide +kernel : decode code 28 = .ok (.iaload, 1)) ?_
    refine lv_bipush (v := 31) hx hb (by decide +kernel : decode code 29 = .ok (.bipush 31, 2)) (by decide) ?_
    refine lv_iand hx hb (by decide +kernel : decode code 31 = .ok (.iand, 1)) ?_
    obtain ⟨j, hj, ej⟩ := pk_andE (xs (nI i).toNatClampNeg) (m := 31) 5 (by decide)
    rw [ej]
    have ejt : (nI j).toInt = (j : Int) := nI_toInt (by omega)
    obtain ⟨o0, o1, o2, o3, o4, o5, o6, o7, o8, o9, o10, o11, o12, o13, o14, o15, o16, o17, o18, o19, o20, o21, o22, o23, o24, o25, o26⟩ := hops
    rcases Nat.lt_or_ge j 27 with hj27 | hj27
    · have hcs : j = 0 ∨ j = 1 ∨ j = 2 ∨ j = 3 ∨ j = 4 ∨ j = 5 ∨ j = 6 ∨ j = 7 ∨ j = 8 ∨ j = 9 ∨ j = 10 ∨ j = 11 ∨ j = 12 ∨ j = 13 ∨ j = 14 ∨ j = 15 ∨ j = 16 ∨ j = 17 ∨ j = 18 ∨ j = 19 ∨ j = 20 ∨ j = 21 ∨ j = 22 ∨ j = 23 ∨ j = 24 ∨ j = 25 ∨ j = 26 := by omega
      rcases hcs with rfl | rfl | rfl | rfl | rfl | rfl | rfl | rfl | rfl | rfl | rfl | rfl | rfl | rfl | rfl | rfl | rfl | rfl | rfl | rfl | rfl | rfl | rfl | rfl | rfl | rfl | rfl
      · exact lv_tableIn (tgt := 156) (off := 124) hx hb fd_law_sw (by decide) (by decide) (by decide) (by decide) (fd_lc_0 C0 hKn hbs o0 hR hl hH hS hi4 hL ⟨by decide, by decide⟩ kk)
      · exact lv_tableIn (tgt := 179) (off := 147) hx hb fd_law_sw (by decide) (by decide) (by decide) (by decide) (fd_lc_1 C0 hKn hbs o1 hR hl hH hS hi4 hL ⟨by decide, by decide⟩ kk)
      · exact lv_tableIn (tgt := 192) (off := 160) hx hb fd_law_sw (by decide) (by decide) (by decide) (by decide) (fd_lc_2 C0 hKn hbs o2 hR hl hH hS hi4 hL ⟨by decide, by decide⟩ kk)
      · exact lv_tableIn (tgt := 205) (off := 173) hx hb fd_law_sw (by decide) (by decide) (by decide) (by decide) (fd_lc_3 C0 hKn hbs o3 hR hl hH hS hi4 hL ⟨by decide, by decide⟩ kk)
      · exact lv_tableIn (tgt := 238) (off := 206) hx hb fd_law_sw (by decide) (by decide) (by decide) (by decide) (fd_lc_4 C0 hKn hbs o4 hR hl hH hS hi4 hL ⟨by decide, by decide⟩ kk)
      · exact lv_tableIn (tgt := 271) (off := 239) hx hb fd_law_sw (by decide) (by decide) (by decide) (by decide) (fd_lc_5 C0 hKn hbs o5 hR hl hH hS hi4 hL ⟨by decide, by decide⟩ kk)
      · exact lv_tableIn (tgt := 304) (off := 272) hx hb fd_law_sw (by decide) (by decide) (by decide) (by decide) (fd_lc_6 C0 hKn hbs o6 hR hl hH hS hi4 hL ⟨by decide, by decide⟩ kk)
      · exact lv_tableIn (tgt := 337) (off := 305) hx hb fd_law_sw (by decide) (by decide) (by decide) (by decide) (fd_lc_7 C0 hKn hbs o7 hR hl hH hS hi4 hL ⟨by decide, by decide⟩ kk)
      · exact lv_tableIn (tgt := 370) (off := 338) hx hb fd_law_sw (by decide) (by decide) (by decide) (by decide) (fd_lc_8 C0 hKn hbs o8 hR hl hH hS hi4 hL ⟨by decide, by decide⟩ kk)
      · exact lv_tableIn (tgt := 413) (off := 381) hx hb fd_law_sw (by decide) (by decide) (by decide) (by decide) (fd_lc_9 C0 hKn hbs o9 hR hl hH hS hi4 hL ⟨by decide, by decide⟩ kk)
      · exact lv_tableIn (tgt := 436) (off := 404) hx hb fd_law_sw (by decide) (by decide) (by decide) (by decide) (fd_lc_10 C0 hKn hbs o10 hR hl hH hS hi4 hL ⟨by decide, by decide⟩ kk)
      · exact lv_tableIn (tgt := 459) (off := 427) hx hb fd_law_sw (by decide) (by decide) (by decide) (by decide) (fd_lc_11 C0 hKn hbs o11 hR hl hH hS hi4 hL ⟨by decide, by decide⟩ kk)
      · exact lv_tableIn (tgt := 472) (off := 440) hx hb fd_law_sw (by decide) (by decide) (by decide) (by decide) (fd_lc_12 C0 hKn hbs o12 hR hl hH hS hi4 hL ⟨by decide, by decide⟩ kk)
      · exact lv_tableIn (tgt := 485) (off := 453) hx hb fd_law_sw (by decide) (by decide) (by decide) (by decide) (fd_lc_13 C0 hKn hbs o13 hR hl hH hS hi4 hL ⟨by decide, by decide⟩ kk)
      · exact lv_tableIn (tgt := 508) (off := 476) hx hb fd_law_sw (by decide) (by decide) (by decide) (by decide) (fd_lc_14 C0 hKn hbs o14 hR hl hH hS hi4 hL ⟨by decide, by decide⟩ kk)
      · exact lv_tableIn (tgt := 531) (off := 499) hx hb fd_law_sw (by decide) (by decide) (by decide) (by decide) (fd_lc_15 C0 hKn hbs o15 hR hl hH hS hi4 hL ⟨by decide, by decide⟩ kk)
      · exact lv_tableIn (tgt := 544) (off := 512) hx hb fd_law_sw (by decide) (by decide) (by decide) (by decide) (fd_lc_16 C0 hKn hbs o16 hR hl hH hS hi4 hL ⟨by decide, by decide⟩ kk)
      · exact lv_tableIn (tgt := 567) (off := 535) hx hb fd_law_sw (by decide) (by decide) (by decide) (by decide) (fd_lc_17 C0 hKn hbs o17 hR hl hH hS hi4 hL ⟨by decide, by decide⟩ kk)
      · exact lv_tableIn (tgt := 600) (off := 568) hx hb fd_law_sw (by decide) (by decide) (by decide) (by decide) (fd_lc_18 C0 hKn hbs o18 hR hl hH hS hi4 hL ⟨by decide, by decide⟩ kk)
      · exact lv_tableIn (tgt := 613) (off := 581) hx hb fd_law_sw (by decide) (by decide) (by decide) (by decide) (fd_lc_19 C0 hKn hbs o19 hR hl hH hS hi4 hL ⟨by decide, by decide⟩ kk)
      · exact lv_tableIn (tgt := 636) (off := 604) hx hb fd_law_sw (by decide) (by decide) (by decide) (by decide) (fd_lc_20 C0 hKn hbs o20 hR hl hH hS hi4 hL ⟨by decide, by decide⟩ kk)
      · exact lv_tableIn (tgt := 679) (off := 647) hx hb fd_law_sw (by decide) (by decide) (by decide) (by decide) (fd_lc_21 C0 hKn hbs o21 hR hl hH hS hi4 hL ⟨by decide, by decide⟩ kk)
      · exact lv_tableIn (tgt := 712) (off := 680) hx hb fd_law_sw (by decide) (by decide) (by decide) (by decide) (fd_lc_22 C0 hKn hbs o22 hR hl hH hS hi4 hL ⟨by decide, by decide⟩ kk)
      · exact lv_tableIn (tgt := 745) (off := 713) hx hb fd_law_sw (by decide) (by decide) (by decide) (by decide) (fd_lc_23 C0 hKn hbs o23 hR hl hH hS hi4 hL ⟨by decide, by decide⟩ kk)
      · exact lv_tableIn (tgt := 768) (off := 736) hx hb fd_law_sw (by decide) (by decide) (by decide) (by decide) (fd_lc_24 C0 hKn hbs o24 hR hl hH hS hi4 hL ⟨by decide, by decide⟩ kk)
      · exact lv_tableIn (tgt := 791) (off := 759) hx hb fd_law_sw (by decide) (by decide) (by decide) (by decide) (fd_lc_25 C0 hKn hbs o25 hR hl hH hS hi4 hL ⟨by decide, by decide⟩ kk)
      · exact lv_tableIn (tgt := 814) (off := 782) hx hb fd_law_sw (by decide) (by decide) (by decide) (by decide) (fd_lc_26 C0 hKn hbs o26 hR hl hH hS hi4 hL ⟨by decide, by decide⟩ kk)
    · exact lv_tableOut (tgt := 828) hx hb fd_law_sw (by rw [ejt]; omega) (by decide) (kk M H locs hR hH hS)
end fdLoop
end
section
section fdStart
variable {p : Program} {l : Launch} {e : Env} {s : State} {m : MethodId} {below : List Frame} {meth : Method} {c : Code} {b L : Nat} {xs : Nat → Int32} {g : fd_G} {H : Heap} {locs : List Loc} {cells slots : Nat} {Q : State → Prop} {la : Array Slot} {M M1 : fd_M} {ci idx pc mid a : Nat} {rest : List Value}
/-- a making in the law -/
theorem fd_lawNew (C0 : lw_At p s m meth c b L xs) (hKn : fd_Kn g s s.heap) (hci : ci < 11) (hcl : Jvm.Cond.classLink R_law idx (fd_clD ci).1 ∈ lw_tbl) (hsh : (fd_SH (fd_ap M)).1 = ci) (hd : decode code pc = .ok (.new idx, 3)) (hH : fd_hp g false M H) (hS : va_S (fd_A g) s.heap H locs) (hcs : cells ≤ 900 ∧ slots ≤ 9000)
    (kk : ∀ (H1 : Heap), fd_hp g false (fd_nw M (fd_dfl ci)) H1 → va_S (fd_A g) s.heap H1 locs → W p l e room_1 s m #[Value.ref b] below meth c H1 locs (cells + 1) (slots + 1000) Q (F0 m (pc + 3) la (.ref (g.1 + fd_ap M) :: rest))) : W p l e room_1 s m #[Value.ref b] below meth c H locs cells slots Q (F0 m pc la rest) := by
  obtain ⟨hx, hb, hr, hml, hown, hts, hX, hbl, hlocks, hgv⟩ := C0
  have hK := hKn.1
  have hap : fd_ap M < 213 := (fd_sh_at (by omega)).1
  have hn3 := (fd_sh_at (c := fd_ap M) (by omega)).2.2
  obtain ⟨hin, hinst, hini2, -, hty⟩ := fd_cl_at hci
  have hts2 : ∀ w ∈ fd_tbl, w.before #[Value.ref b] s = true := fun w hw => hts w (List.mem_filter.mp hw).1
  have hsz := ((fd_sh_at (c := fd_ap M) (by omega)).2.1 (by omega)).2
  rw [hsh] at hsz
  have hKc := hK.1 ci _ (fd_clD_get hci)
  have hN : (fd_clD ci).2.2 < 1000 := by rw [hsz]; exact hn3
  refine W.newcK hx hb hown (hts _ hcl) (hts2 _ hinst) (hts2 _ hini2) rfl hd (by show cells + 1 ≤ 600000; omega) (by show slots + _ ≤ 7302250; omega) hKc.2.1 (hH.1 rfl) fun H1 kC hkC q1 z1 o1 => ?_
  refine W.widen (k := cells + 1) (n := slots + 1000) (Nat.le_refl _) (by omega) ?_
  refine kk H1 (fd_hp_nw hH hap z1 o1 ?_) ⟨Nat.le_trans hS.1 (by rw [z1, hH.1 rfl]; omega), fun x h1 h2 => (o1 x (by have := hS.1; have := hH.1 rfl; omega)).trans (hS.2.1 x h1 h2), hS.2.2⟩
  rw [fd_ce_obj hsh (by omega)]
  refine ⟨_, fd_clD_get hci, (u_born (fd_ty ci) hts2 hin hKc hkC q1 hty).to (fun j hj => ?_)⟩
  have hj2 : j < (fd_SH (fd_ap M)).2 := by omega
  have hR := (fd_cl2_at hci j hj).2
  have e3 : vp_V ((List.range (fd_SH (fd_ap M)).2).map (fun k => fd_fv g false (fd_nw M (fd_dfl ci)) ci (fd_ap M) k)) j = fd_fv g false (fd_nw M (fd_dfl ci)) ci (fd_ap M) j := by
    simp [vp_V, hj2]
  rw [e3]
  unfold fd_fv fd_gf fd_rf
  simp only [fd_nw_new]
  unfold fd_dfl
  cases ht : fd_ty ci j <;> rw [ht] at hR <;> first | rfl | exact absurd (hR rfl) (by decide)
/-- a constructor called by the law -/
theorem fd_lawInit {mc ms : Nat} (C0 : lw_At p s m meth c b L xs) (hKn : fd_Kn g s s.heap) (hbs : g.1 ≤ s.heap.size) (hmid : mid < 177) (hq : fd_sk mid = 2 ∧ fd_np mid = some 0 ∧ 1 ≤ fd_mL mid ∧ fd_r mid = none ∧ (fd_y mid).name = "<init>" ∧ Jvm.Cond.methodLink R_law idx (fd_y mid) ∈ lw_tbl) {f : Nat} (hf : fd_ex false f 20 mid 0 (fd_pad mid [fd_R a]) [] M = some (none, M1)) (hd : decode code pc = .ok (.invokespecial idx, 3)) (ha : a < 1000) (hH : fd_hp g false M H) (hS : va_S (fd_A g) s.heap H locs) (hls : la.size = 4) (hrest : (rest.map fun v => v.category).sum ≤ 8) (hmc : fd_ap M1 - fd_ap M = mc) (hms : fd_sl (fd_ap M1) - fd_sl (fd_ap M) = ms) (hcs : cells + mc ≤ 600000 ∧ slots + ms ≤ 7302250)
    (kk : ∀ (H1 : Heap) (l1 : List Loc), fd_hp g false M1 H1 → va_S (fd_A g) s.heap H1 l1 → W p l e room_1 s m #[Value.ref b] below meth c H1 l1 (cells + mc) (slots + ms) Q (F0 m (pc + 3) la rest)) :
    W p l e room_1 s m #[Value.ref b] below meth c H locs cells slots Q (F0 m pc la (.ref (g.1 + a) :: rest)) := by
  obtain ⟨hx, hb, hr, hml, hown, hts, hX, hbl, hlocks, hgv⟩ := C0
  obtain ⟨hsk, hnp, hlen, hret, hnm, hlink⟩ := hq
  have hM := fd_met (g := g) (l := l) hmid (by exact hlen) (fun v hv => by
    rcases List.mem_cons.mp hv with rfl | hv
    · show Nat.blt a 1000 = true
      simp; omega
    · cases hv) hf
  rw [hmc, hms] at hM
  obtain ⟨⟨hcode, hinit⟩, -, -, hsk2, ⟨hy1, hy2, -, -⟩, hmL⟩ := fd_okM_inv hmid
  have hts2 : ∀ w ∈ fd_tbl, w.before #[Value.ref b] s = true := fun w hw => hts w (List.mem_filter.mp hw).1
  have hG : GoodIn lw_tbl (.code (fd_y mid) (fd_b mid) (fd_mL mid) (fd_r mid) :: fd_gtbl) := fun w hw => by
    obtain ⟨q1, q2⟩ := fd_goodIn hcode w hw
    exact ⟨(List.mem_filter.mp q1).1, q2⟩
  have hargv : (List.map (fd_cv g) [fd_R a]) = [Value.ref (g.1 + a)] := by
    rw [List.map_cons, show fd_cv g (fd_R a) = .ref (g.1 + a) from fd_rv_lt ha]
    rfl
  have hpre : ∀ U : State, U.heap = H → s.WarmedH U.vm → fd_Pc g false [fd_R a] M (Value.ref (g.1 + a) :: []).toArray U := fun U hU hW =>
    ⟨by rw [hargv], by rw [hU]; exact hH, fd_Kn_moved hW (fun q h1 h2 => by rw [hU]; exact hS.2.1 q h1 h2) hKn, by rw [hU]; exact Nat.le_trans hbs hS.1⟩
  rw [hret] at hG
  unfold fd_wsm at hM
  rw [hret] at hM
  have hrun : va_Run p l e room_1 s m #[Value.ref b] below meth c H locs cells slots mc ms (F0 m pc la (.ref (g.1 + a) :: rest)) rest (fd_Qc g false none M1 (Value.ref (g.1 + a) :: []).toArray) (fd_A g) :=
    va_runI (As := []) ⟨hx, hb, hml, hown, hts⟩ hM ⟨callB_of 0 hts hG rfl rfl rfl (hts2 _ hinit) (hts _ hlink) ⟨hy1, hy2, hnp⟩ ⟨by show 20 + 5 + 1 ≤ 2048; decide, Nat.le_trans (fd_arith _ 20 hmL) (by show 60 * (20 + 1) + 300 ≤ 84000; decide)⟩, hnm, hts2 _ (hsk2 hsk)⟩ ⟨fd_Pc_blind, hpre⟩ rfl rfl hls rfl (lv_room hrest) hd hcs
  refine va_callv (a := (Value.ref (g.1 + a) :: []).toArray) hrun hS (fun q _ h => h) (fun q h => h) (fun u t H1 l1 ht hvm hp hB hz hk1 hS1 => ?_)
  exact kk H1 l1 (by rw [← ht]; exact hB) hS1
end fdStart
theorem fd_hp0 {g : fd_G} {H : Heap} (h : H.size = g.1) : fd_hp g false fd_M0 H := by
  refine ⟨fun _ => h, by decide, by decide, fun q => (by cases q), fun k q hq => ?_⟩
  have hk := (List.getElem?_eq_some_iff.mp hq).1
  exact absurd hk (by simp [fd_ws, fd_M0])
theorem fd_costs : fd_ap fd_Ma = 1 ∧ fd_ap fd_Mb = 199 ∧ fd_ap fd_Mb' = 200 ∧ fd_ap fd_Mc = 213 := by
  have h1 := fd_ctor1.2
  have h2 := fd_ctor2.2
  have e2 : fd_ap fd_Mb = 199 := by show Int.toNat _ = _; rw [h1]; rfl
  refine ⟨by decide +kernel, e2, ?_, by show Int.toNat _ = _; rw [h2]; rfl⟩
  have := (fd_nw_ap (M := fd_Mb) (f := fd_dfl 10) (by omega) (by omega)).2
  rw [e2] at this
  exact this
theorem fd_slots : fd_sl 1 = 13 ∧ fd_sl 199 = 1568 ∧ fd_sl 200 = 1592 ∧ fd_sl 213 = 2809 := by decide +kernel
theorem fd_cost1 : fd_ap fd_Mb - fd_ap fd_Ma = 198 := by rw [fd_costs.1, fd_costs.2.1]
theorem fd_cost2 : fd_sl (fd_ap fd_Mb) - fd_sl (fd_ap fd_Ma) = 1555 := by rw [fd_costs.1, fd_costs.2.1, fd_slots.1, fd_slots.2.1]
theorem fd_cost3 : fd_ap fd_Mc - fd_ap fd_Mb' = 13 := by rw [fd_costs.2.2.1, fd_costs.2.2.2]
theorem fd_cost4 : fd_sl (fd_ap fd_Mc) - fd_sl (fd_ap fd_Mb') = 1217 := by rw [fd_costs.2.2.1, fd_costs.2.2.2, fd_slots.2.2.1, fd_slots.2.2.2]
theorem fd_made1 : fd_ex false 400 20 0 0 (fd_pad 0 [fd_R 0]) [] fd_Ma = some (none, fd_Mb) := fd_isN_eq fd_ctor1.1
theorem fd_made2 : fd_ex false 3000 20 51 0 (fd_pad 51 [fd_R 199]) [] fd_Mb' = some (none, fd_Mc) := fd_isN_eq fd_ctor2.1
theorem fd_whole (Rel : fd_M → Prop) (hops : fd_OpsOk Rel) (h0 : Rel fd_Mc) {p : Program} {e : Env} {s : State} {m : MethodId} {below : List Frame} {meth : Method} {c : Code} (l : Launch) {b L : Nat} {xs : Nat → Int32} (hL : L ≤ 256) (C0 : lw_At p s m meth c b L xs) : W p l e room_1 s m #[Value.ref b] below meth c s.heap [] 0 0 (lw_Z below #[Value.ref b] s) (entryFrame m ([Value.ref b] : List Value).toArray 4) := by
  obtain ⟨hx, hb, hr, hml, hown, hts, hX, hbl, hlocks, hgv⟩ := id C0
  obtain ⟨g, hbs, hKn⟩ := fd_known hts hgv
  obtain ⟨c1, c2, c3, c4⟩ := fd_costs
  have hH0 := fd_hp0 (g := g) (H := s.heap) hbs.symm
  have hl := lv_entry ([Value.ref b]) (n := 4) (Nat.le_of_ble_eq_true rfl)
  rw [lg_entry_eq]
  generalize (lg_sl ([Value.ref b]) ++ List.replicate (4 - (lg_sl ([Value.ref b])).length) Slot.unset).toArray = ls at hl ⊢
  have hl : lv_has ls 4 [(0, .ref b)] := hl
  refine fd_lawNew (ci := 0) (idx := 7) C0 hKn (by decide) (by decide +kernel) (by decide +kernel) (by decide +kernel : decode code 0 = .ok (.new 7, 3)) hH0 va_S.rf ⟨by decide, by decide⟩ (fun H1 hH1 hS1 => ?_)
  refine lv_dup hx hb (by decide +kernel : decode code 3 = .ok (.dup, 1)) rfl ?_
  refine fd_lawInit (mid := 0) (a := 0) (idx := 9) C0 hKn (by omega) (by decide) (by decide +kernel) fd_made1 (by decide +kernel : decode code 4 = .ok (.invokespecial 9, 3)) (by decide) hH1 hS1 hl.1 (Nat.le_of_ble_eq_true rfl) fd_cost1 fd_cost2 ⟨by decide, by decide⟩ (fun H2 l2 hH2 hS2 => ?_)
  refine W.widen (k := 300) (n := 6000) (by decide) (by decide) ?_
  refine lv_astore_n (lv' := [(1, .ref (g.1 + 0)), (0, .ref b)]) hx hb (by decide +kernel : decode code 7 = .ok (.astore_n 1, 1)) rfl hl (by decide) rfl (fun ls hl => ?_)
  refine fd_lawNew (ci := 10) (idx := 10) (M := fd_Mb) C0 hKn (by decide) (by decide +kernel) (by rw [c2]; decide) (by decide +kernel : decode code 8 = .ok (.new 10, 3)) hH2 hS2 ⟨by decide, by decide⟩ (fun H3 hH3 hS3 => ?_)
  rw [c2]
  refine lv_dup hx hb (by decide +kernel : decode code 11 = .ok (.dup, 1)) rfl ?_
  refine fd_lawInit (mid := 51) (a := 199) (idx := 12) C0 hKn (by omega) (by decide) (by decide +kernel) fd_made2 (by decide +kernel : decode code 12 = .ok (.invokespecial 12, 3)) (by decide) hH3 hS3 hl.1 (Nat.le_of_ble_eq_true rfl) fd_cost3 fd_cost4 ⟨by decide, by decide⟩ (fun H4 l4 hH4 hS4 => ?_)
  refine W.widen (k := 1000) (n := 11000) (by decide) (by decide) ?_
  refine lv_astore_n (lv' := [(2, .ref (g.1 + 199)), (1, .ref (g.1 + 0)), (0, .ref b)]) hx hb (by decide +kernel : decode code 15 = .ok (.astore_n 2, 1)) rfl hl (by decide) rfl (fun ls hl => ?_)
  refine lv_iconst (v := 0) hx hb (by decide +kernel : decode code 16 = .ok (.iconst 0, 1)) (by decide) ?_
  refine lv_istore_n (lv' := [(3, .int 0), (2, .ref (g.1 + 199)), (1, .ref (g.1 + 0)), (0, .ref b)]) hx hb (by decide +kernel : decode code 17 = .ok (.istore_n 3, 1)) rfl hl (by decide) rfl (fun ls hl => ?_)
  have hHc := fd_hp_ph hH4 fd_ctor2.2 fd_ctor_rf
  exact fd_law_loop hL C0 hKn hbs hops L 0 (by omega) (by omega) fd_Mc H4 l4 h0 hHc hS4 ls (lv_sub hl [3, 2, 1, 0] rfl)
end
