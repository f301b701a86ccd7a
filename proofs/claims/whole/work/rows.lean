section
-- ===== PART A: goes FIRST, ahead of the names: the tables' words, and 'selects' of the private methods out of them =====
/-- a private method of a class that the tables say can be made, by its rows of tables_1 -/
def lw_okq (q : MethodName × Nat) : Prop := (q.1.cls ≠ "java/lang/invoke/MethodHandle" ∧ q.1.cls ≠ "java/lang/invoke/VarHandle") ∧ Cond.instantiable q.1.cls q.2 ∈ tables_1 ∧ Cond.privateMethod q.1 ∈ tables_1 ∧ Cond.instanceMethod q.1 ∈ tables_1
theorem lw_p0 : lw_okq (⟨"MillFarmers$Terms", "reset", "()V"⟩, 5) := ⟨⟨by decide +kernel, by decide +kernel⟩, List.mem_of_getElem? (i := 232) (by decide +kernel), List.mem_of_getElem? (i := 238) (by decide +kernel), List.mem_of_getElem? (i := 239) (by decide +kernel)⟩
theorem lw_p1 : lw_okq (⟨"MillFarmers$Terms", "setShare", "(III)V"⟩, 5) := ⟨⟨by decide +kernel, by decide +kernel⟩, List.mem_of_getElem? (i := 232) (by decide +kernel), List.mem_of_getElem? (i := 245) (by decide +kernel), List.mem_of_getElem? (i := 246) (by decide +kernel)⟩
theorem lw_p2 : lw_okq (⟨"MillFarmers", "refuse", "(I)I"⟩, 12) := ⟨⟨by decide +kernel, by decide +kernel⟩, List.mem_of_getElem? (i := 20) (by decide +kernel), List.mem_of_getElem? (i := 337) (by decide +kernel), List.mem_of_getElem? (i := 338) (by decide +kernel)⟩
theorem lw_p3 : lw_okq (⟨"MillFarmers$Farmers", "add", "(III)V"⟩, 4) := ⟨⟨by decide +kernel, by decide +kernel⟩, List.mem_of_getElem? (i := 28) (by decide +kernel), List.mem_of_getElem? (i := 341) (by decide +kernel), List.mem_of_getElem? (i := 342) (by decide +kernel)⟩
theorem lw_p4 : lw_okq (⟨"MillFarmers", "accept", "(I)I"⟩, 12) := ⟨⟨by decide +kernel, by decide +kernel⟩, List.mem_of_getElem? (i := 20) (by decide +kernel), List.mem_of_getElem? (i := 345) (by decide +kernel), List.mem_of_getElem? (i := 346) (by decide +kernel)⟩
theorem lw_p5 : lw_okq (⟨"MillFarmers", "isNoFarmer", "(I)Z"⟩, 12) := ⟨⟨by decide +kernel, by decide +kernel⟩, List.mem_of_getElem? (i := 20) (by decide +kernel), List.mem_of_getElem? (i := 354) (by decide +kernel), List.mem_of_getElem? (i := 355) (by decide +kernel)⟩
theorem lw_p6 : lw_okq (⟨"MillFarmers$Credits", "add", "(III)V"⟩, 4) := ⟨⟨by decide +kernel, by decide +kernel⟩, List.mem_of_getElem? (i := 55) (by decide +kernel), List.mem_of_getElem? (i := 358) (by decide +kernel), List.mem_of_getElem? (i := 359) (by decide +kernel)⟩
theorem lw_p7 : lw_okq (⟨"MillFarmers$Baskets", "add", "(IIII)V"⟩, 6) := ⟨⟨by decide +kernel, by decide +kernel⟩, List.mem_of_getElem? (i := 79) (by decide +kernel), List.mem_of_getElem? (i := 366) (by decide +kernel), List.mem_of_getElem? (i := 367) (by decide +kernel)⟩
theorem lw_p8 : lw_okq (⟨"MillFarmers$Tape", "append", "(I)V"⟩, 2) := ⟨⟨by decide +kernel, by decide +kernel⟩, List.mem_of_getElem? (i := 111) (by decide +kernel), List.mem_of_getElem? (i := 374) (by decide +kernel), List.mem_of_getElem? (i := 375) (by decide +kernel)⟩
theorem lw_p9 : lw_okq (⟨"MillFarmers$ContractReader", "read", "(LMillFarmers$Terms;)I"⟩, 5) := ⟨⟨by decide +kernel, by decide +kernel⟩, List.mem_of_getElem? (i := 271) (by decide +kernel), List.mem_of_getElem? (i := 386) (by decide +kernel), List.mem_of_getElem? (i := 387) (by decide +kernel)⟩
theorem lw_p10 : lw_okq (⟨"MillFarmers$ContractReader", "next", "()V"⟩, 5) := ⟨⟨by decide +kernel, by decide +kernel⟩, List.mem_of_getElem? (i := 271) (by decide +kernel), List.mem_of_getElem? (i := 391) (by decide +kernel), List.mem_of_getElem? (i := 392) (by decide +kernel)⟩
theorem lw_p11 : lw_okq (⟨"MillFarmers$ContractReader", "kindAt", "(I)I"⟩, 5) := ⟨⟨by decide +kernel, by decide +kernel⟩, List.mem_of_getElem? (i := 271) (by decide +kernel), List.mem_of_getElem? (i := 395) (by decide +kernel), List.mem_of_getElem? (i := 396) (by decide +kernel)⟩
theorem lw_p12 : lw_okq (⟨"MillFarmers$ContractReader", "readClause", "()Z"⟩, 5) := ⟨⟨by decide +kernel, by decide +kernel⟩, List.mem_of_getElem? (i := 271) (by decide +kernel), List.mem_of_getElem? (i := 399) (by decide +kernel), List.mem_of_getElem? (i := 400) (by decide +kernel)⟩
theorem lw_p13 : lw_okq (⟨"MillFarmers$ContractReader", "isWord", "(Ljava/lang/String;)Z"⟩, 5) := ⟨⟨by decide +kernel, by decide +kernel⟩, List.mem_of_getElem? (i := 271) (by decide +kernel), List.mem_of_getElem? (i := 404) (by decide +kernel), List.mem_of_getElem? (i := 405) (by decide +kernel)⟩
theorem lw_p14 : lw_okq (⟨"MillFarmers$ContractReader", "readPrice", "()Z"⟩, 5) := ⟨⟨by decide +kernel, by decide +kernel⟩, List.mem_of_getElem? (i := 271) (by decide +kernel), List.mem_of_getElem? (i := 456) (by decide +kernel), List.mem_of_getElem? (i := 457) (by decide +kernel)⟩
theorem lw_p15 : lw_okq (⟨"MillFarmers$ContractReader", "number", "()I"⟩, 5) := ⟨⟨by decide +kernel, by decide +kernel⟩, List.mem_of_getElem? (i := 271) (by decide +kernel), List.mem_of_getElem? (i := 460) (by decide +kernel), List.mem_of_getElem? (i := 461) (by decide +kernel)⟩
def lw_privs_1 : List (MethodName × Nat) := [(⟨"MillFarmers$Terms", "reset", "()V"⟩, 5), (⟨"MillFarmers$Terms", "setShare", "(III)V"⟩, 5), (⟨"MillFarmers", "refuse", "(I)I"⟩, 12), (⟨"MillFarmers$Farmers", "add", "(III)V"⟩, 4), (⟨"MillFarmers", "accept", "(I)I"⟩, 12), (⟨"MillFarmers", "isNoFarmer", "(I)Z"⟩, 12), (⟨"MillFarmers$Credits", "add", "(III)V"⟩, 4), (⟨"MillFarmers$Baskets", "add", "(IIII)V"⟩, 6), (⟨"MillFarmers$Tape", "append", "(I)V"⟩, 2), (⟨"MillFarmers$ContractReader", "read", "(LMillFarmers$Terms;)I"⟩, 5), (⟨"MillFarmers$ContractReader", "next", "()V"⟩, 5), (⟨"MillFarmers$ContractReader", "kindAt", "(I)I"⟩, 5), (⟨"MillFarmers$ContractReader", "readClause", "()Z"⟩, 5), (⟨"MillFarmers$ContractReader", "isWord", "(Ljava/lang/String;)Z"⟩, 5), (⟨"MillFarmers$ContractReader", "readPrice", "()Z"⟩, 5), (⟨"MillFarmers$ContractReader", "number", "()I"⟩, 5)]
theorem lw_r1 : ∀ q ∈ lw_privs_1, lw_okq q := List.forall_mem_cons.mpr ⟨lw_p0, List.forall_mem_cons.mpr ⟨lw_p1, List.forall_mem_cons.mpr ⟨lw_p2, List.forall_mem_cons.mpr ⟨lw_p3, List.forall_mem_cons.mpr ⟨lw_p4, List.forall_mem_cons.mpr ⟨lw_p5, List.forall_mem_cons.mpr ⟨lw_p6, List.forall_mem_cons.mpr ⟨lw_p7, List.forall_mem_cons.mpr ⟨lw_p8, List.forall_mem_cons.mpr ⟨lw_p9, List.forall_mem_cons.mpr ⟨lw_p10, List.forall_mem_cons.mpr ⟨lw_p11, List.forall_mem_cons.mpr ⟨lw_p12, List.forall_mem_cons.mpr ⟨lw_p13, List.forall_mem_cons.mpr ⟨lw_p14, List.forall_mem_cons.mpr ⟨lw_p15, fun _ h => absurd h List.not_mem_nil⟩⟩⟩⟩⟩⟩⟩⟩⟩⟩⟩⟩⟩⟩⟩⟩
theorem lw_p16 : lw_okq (⟨"MillFarmers$ContractReader", "readQuota", "()Z"⟩, 5) := ⟨⟨by decide +kernel, by decide +kernel⟩, List.mem_of_getElem? (i := 271) (by decide +kernel), List.mem_of_getElem? (i := 469) (by decide +kernel), List.mem_of_getElem? (i := 470) (by decide +kernel)⟩
theorem lw_p17 : lw_okq (⟨"MillFarmers$ContractReader", "readShare", "(I)Z"⟩, 5) := ⟨⟨by decide +kernel, by decide +kernel⟩, List.mem_of_getElem? (i := 271) (by decide +kernel), List.mem_of_getElem? (i := 474) (by decide +kernel), List.mem_of_getElem? (i := 475) (by decide +kernel)⟩
theorem lw_p18 : lw_okq (⟨"MillFarmers$ContractReader", "isSemicolon", "()Z"⟩, 5) := ⟨⟨by decide +kernel, by decide +kernel⟩, List.mem_of_getElem? (i := 271) (by decide +kernel), List.mem_of_getElem? (i := 486) (by decide +kernel), List.mem_of_getElem? (i := 487) (by decide +kernel)⟩
theorem lw_p19 : lw_okq (⟨"MillFarmers$Books", "draw", "(LMillFarmers$Farmers;LMillFarmers$Credits;LMillFarmers$Baskets;LMillFarmers$Terms;I)V"⟩, 11) := ⟨⟨by decide +kernel, by decide +kernel⟩, List.mem_of_getElem? (i := 127) (by decide +kernel), List.mem_of_getElem? (i := 500) (by decide +kernel), List.mem_of_getElem? (i := 501) (by decide +kernel)⟩
theorem lw_p20 : lw_okq (⟨"MillFarmers$Books", "addCredits", "(LMillFarmers$Credits;I)V"⟩, 11) := ⟨⟨by decide +kernel, by decide +kernel⟩, List.mem_of_getElem? (i := 127) (by decide +kernel), List.mem_of_getElem? (i := 507) (by decide +kernel), List.mem_of_getElem? (i := 508) (by decide +kernel)⟩
theorem lw_p21 : lw_okq (⟨"MillFarmers$Books", "addBaskets", "(LMillFarmers$Farmers;LMillFarmers$Baskets;LMillFarmers$Terms;I)V"⟩, 11) := ⟨⟨by decide +kernel, by decide +kernel⟩, List.mem_of_getElem? (i := 127) (by decide +kernel), List.mem_of_getElem? (i := 511) (by decide +kernel), List.mem_of_getElem? (i := 512) (by decide +kernel)⟩
theorem lw_p22 : lw_okq (⟨"MillFarmers$Terms", "shareOf", "(IJ)J"⟩, 5) := ⟨⟨by decide +kernel, by decide +kernel⟩, List.mem_of_getElem? (i := 232) (by decide +kernel), List.mem_of_getElem? (i := 521) (by decide +kernel), List.mem_of_getElem? (i := 522) (by decide +kernel)⟩
theorem lw_p23 : lw_okq (⟨"MillFarmers$Books", "stand", "(LMillFarmers$Farmers;LMillFarmers$Terms;I)V"⟩, 11) := ⟨⟨by decide +kernel, by decide +kernel⟩, List.mem_of_getElem? (i := 127) (by decide +kernel), List.mem_of_getElem? (i := 525) (by decide +kernel), List.mem_of_getElem? (i := 526) (by decide +kernel)⟩
theorem lw_p24 : lw_okq (⟨"MillFarmers$Books", "pay", "(I)J"⟩, 11) := ⟨⟨by decide +kernel, by decide +kernel⟩, List.mem_of_getElem? (i := 127) (by decide +kernel), List.mem_of_getElem? (i := 529) (by decide +kernel), List.mem_of_getElem? (i := 530) (by decide +kernel)⟩
theorem lw_p25 : lw_okq (⟨"MillFarmers$Books", "debt", "(I)J"⟩, 11) := ⟨⟨by decide +kernel, by decide +kernel⟩, List.mem_of_getElem? (i := 127) (by decide +kernel), List.mem_of_getElem? (i := 533) (by decide +kernel), List.mem_of_getElem? (i := 534) (by decide +kernel)⟩
theorem lw_p26 : lw_okq (⟨"MillFarmers$Books", "giveEvenly", "(I)V"⟩, 11) := ⟨⟨by decide +kernel, by decide +kernel⟩, List.mem_of_getElem? (i := 127) (by decide +kernel), List.mem_of_getElem? (i := 537) (by decide +kernel), List.mem_of_getElem? (i := 538) (by decide +kernel)⟩
theorem lw_p27 : lw_okq (⟨"MillFarmers$Books", "greatestLevel", "(I)J"⟩, 11) := ⟨⟨by decide +kernel, by decide +kernel⟩, List.mem_of_getElem? (i := 127) (by decide +kernel), List.mem_of_getElem? (i := 544) (by decide +kernel), List.mem_of_getElem? (i := 545) (by decide +kernel)⟩
theorem lw_p28 : lw_okq (⟨"MillFarmers$Books", "sumAtLevel", "(JI)J"⟩, 11) := ⟨⟨by decide +kernel, by decide +kernel⟩, List.mem_of_getElem? (i := 127) (by decide +kernel), List.mem_of_getElem? (i := 549) (by decide +kernel), List.mem_of_getElem? (i := 550) (by decide +kernel)⟩
theorem lw_p29 : lw_okq (⟨"MillFarmers$Books", "payDebts", "(LMillFarmers$Farmers;I)V"⟩, 11) := ⟨⟨by decide +kernel, by decide +kernel⟩, List.mem_of_getElem? (i := 127) (by decide +kernel), List.mem_of_getElem? (i := 553) (by decide +kernel), List.mem_of_getElem? (i := 554) (by decide +kernel)⟩
theorem lw_p30 : lw_okq (⟨"MillFarmers", "foretold", "(I)J"⟩, 12) := ⟨⟨by decide +kernel, by decide +kernel⟩, List.mem_of_getElem? (i := 20) (by decide +kernel), List.mem_of_getElem? (i := 559) (by decide +kernel), List.mem_of_getElem? (i := 560) (by decide +kernel)⟩
theorem lw_p31 : lw_okq (⟨"MillFarmers$Land", "foretold", "(II)J"⟩, 5) := ⟨⟨by decide +kernel, by decide +kernel⟩, List.mem_of_getElem? (i := 176) (by decide +kernel), List.mem_of_getElem? (i := 563) (by decide +kernel), List.mem_of_getElem? (i := 564) (by decide +kernel)⟩
def lw_privs_2 : List (MethodName × Nat) := [(⟨"MillFarmers$ContractReader", "readQuota", "()Z"⟩, 5), (⟨"MillFarmers$ContractReader", "readShare", "(I)Z"⟩, 5), (⟨"MillFarmers$ContractReader", "isSemicolon", "()Z"⟩, 5), (⟨"MillFarmers$Books", "draw", "(LMillFarmers$Farmers;LMillFarmers$Credits;LMillFarmers$Baskets;LMillFarmers$Terms;I)V"⟩, 11), (⟨"MillFarmers$Books", "addCredits", "(LMillFarmers$Credits;I)V"⟩, 11), (⟨"MillFarmers$Books", "addBaskets", "(LMillFarmers$Farmers;LMillFarmers$Baskets;LMillFarmers$Terms;I)V"⟩, 11), (⟨"MillFarmers$Terms", "shareOf", "(IJ)J"⟩, 5), (⟨"MillFarmers$Books", "stand", "(LMillFarmers$Farmers;LMillFarmers$Terms;I)V"⟩, 11), (⟨"MillFarmers$Books", "pay", "(I)J"⟩, 11), (⟨"MillFarmers$Books", "debt", "(I)J"⟩, 11), (⟨"MillFarmers$Books", "giveEvenly", "(I)V"⟩, 11), (⟨"MillFarmers$Books", "greatestLevel", "(I)J"⟩, 11), (⟨"MillFarmers$Books", "sumAtLevel", "(JI)J"⟩, 11), (⟨"MillFarmers$Books", "payDebts", "(LMillFarmers$Farmers;I)V"⟩, 11), (⟨"MillFarmers", "foretold", "(I)J"⟩, 12), (⟨"MillFarmers$Land", "foretold", "(II)J"⟩, 5)]
theorem lw_r2 : ∀ q ∈ lw_privs_2, lw_okq q := List.forall_mem_cons.mpr ⟨lw_p16, List.forall_mem_cons.mpr ⟨lw_p17, List.forall_mem_cons.mpr ⟨lw_p18, List.forall_mem_cons.mpr ⟨lw_p19, List.forall_mem_cons.mpr ⟨lw_p20, List.forall_mem_cons.mpr ⟨lw_p21, List.forall_mem_cons.mpr ⟨lw_p22, List.forall_mem_cons.mpr ⟨lw_p23, List.forall_mem_cons.mpr ⟨lw_p24, List.forall_mem_cons.mpr ⟨lw_p25, List.forall_mem_cons.mpr ⟨lw_p26, List.forall_mem_cons.mpr ⟨lw_p27, List.forall_mem_cons.mpr ⟨lw_p28, List.forall_mem_cons.mpr ⟨lw_p29, List.forall_mem_cons.mpr ⟨lw_p30, List.forall_mem_cons.mpr ⟨lw_p31, fun _ h => absurd h List.not_mem_nil⟩⟩⟩⟩⟩⟩⟩⟩⟩⟩⟩⟩⟩⟩⟩⟩
theorem lw_p32 : lw_okq (⟨"MillFarmers$Land", "lostAt", "(I)I"⟩, 5) := ⟨⟨by decide +kernel, by decide +kernel⟩, List.mem_of_getElem? (i := 176) (by decide +kernel), List.mem_of_getElem? (i := 567) (by decide +kernel), List.mem_of_getElem? (i := 568) (by decide +kernel)⟩
theorem lw_p33 : lw_okq (⟨"MillFarmers", "isShort", "(I)Z"⟩, 12) := ⟨⟨by decide +kernel, by decide +kernel⟩, List.mem_of_getElem? (i := 20) (by decide +kernel), List.mem_of_getElem? (i := 572) (by decide +kernel), List.mem_of_getElem? (i := 573) (by decide +kernel)⟩
theorem lw_p34 : lw_okq (⟨"MillFarmers$Farmers", "howManyIn", "(I)I"⟩, 4) := ⟨⟨by decide +kernel, by decide +kernel⟩, List.mem_of_getElem? (i := 28) (by decide +kernel), List.mem_of_getElem? (i := 581) (by decide +kernel), List.mem_of_getElem? (i := 582) (by decide +kernel)⟩
theorem lw_p35 : lw_okq (⟨"MillFarmers$Land", "add", "(III)V"⟩, 5) := ⟨⟨by decide +kernel, by decide +kernel⟩, List.mem_of_getElem? (i := 176) (by decide +kernel), List.mem_of_getElem? (i := 593) (by decide +kernel), List.mem_of_getElem? (i := 594) (by decide +kernel)⟩
theorem lw_p36 : lw_okq (⟨"MillFarmers$Road", "add", "(II)V"⟩, 8) := ⟨⟨by decide +kernel, by decide +kernel⟩, List.mem_of_getElem? (i := 200) (by decide +kernel), List.mem_of_getElem? (i := 601) (by decide +kernel), List.mem_of_getElem? (i := 602) (by decide +kernel)⟩
theorem lw_p37 : lw_okq (⟨"MillFarmers$Road", "walk", "(I)V"⟩, 8) := ⟨⟨by decide +kernel, by decide +kernel⟩, List.mem_of_getElem? (i := 200) (by decide +kernel), List.mem_of_getElem? (i := 613) (by decide +kernel), List.mem_of_getElem? (i := 614) (by decide +kernel)⟩
theorem lw_p38 : lw_okq (⟨"MillFarmers$Road", "cellOf", "(IIII)I"⟩, 8) := ⟨⟨by decide +kernel, by decide +kernel⟩, List.mem_of_getElem? (i := 200) (by decide +kernel), List.mem_of_getElem? (i := 619) (by decide +kernel), List.mem_of_getElem? (i := 620) (by decide +kernel)⟩
theorem lw_p39 : lw_okq (⟨"MillFarmers$Road", "goOnFrom", "(III)V"⟩, 8) := ⟨⟨by decide +kernel, by decide +kernel⟩, List.mem_of_getElem? (i := 200) (by decide +kernel), List.mem_of_getElem? (i := 623) (by decide +kernel), List.mem_of_getElem? (i := 624) (by decide +kernel)⟩
theorem lw_p40 : lw_okq (⟨"MillFarmers$Road", "placeAtEnd", "(III)I"⟩, 8) := ⟨⟨by decide +kernel, by decide +kernel⟩, List.mem_of_getElem? (i := 200) (by decide +kernel), List.mem_of_getElem? (i := 627) (by decide +kernel), List.mem_of_getElem? (i := 628) (by decide +kernel)⟩
theorem lw_p41 : lw_okq (⟨"MillFarmers$Road", "arrive", "(III)V"⟩, 8) := ⟨⟨by decide +kernel, by decide +kernel⟩, List.mem_of_getElem? (i := 200) (by decide +kernel), List.mem_of_getElem? (i := 632) (by decide +kernel), List.mem_of_getElem? (i := 633) (by decide +kernel)⟩
theorem lw_p42 : lw_okq (⟨"MillFarmers$Road", "mostMet", "()I"⟩, 8) := ⟨⟨by decide +kernel, by decide +kernel⟩, List.mem_of_getElem? (i := 200) (by decide +kernel), List.mem_of_getElem? (i := 636) (by decide +kernel), List.mem_of_getElem? (i := 637) (by decide +kernel)⟩
theorem lw_p43 : lw_okq (⟨"MillFarmers$Road", "firstHourWith", "(I)I"⟩, 8) := ⟨⟨by decide +kernel, by decide +kernel⟩, List.mem_of_getElem? (i := 200) (by decide +kernel), List.mem_of_getElem? (i := 644) (by decide +kernel), List.mem_of_getElem? (i := 645) (by decide +kernel)⟩
theorem lw_p44 : lw_okq (⟨"MillFarmers$Baskets", "ownerOf", "(II)I"⟩, 6) := ⟨⟨by decide +kernel, by decide +kernel⟩, List.mem_of_getElem? (i := 79) (by decide +kernel), List.mem_of_getElem? (i := 653) (by decide +kernel), List.mem_of_getElem? (i := 654) (by decide +kernel)⟩
theorem lw_p45 : lw_okq (⟨"MillFarmersModel", "told", "(I)I"⟩, 53) := ⟨⟨by decide +kernel, by decide +kernel⟩, List.mem_of_getElem? (i := 665) (by decide +kernel), List.mem_of_getElem? (i := 841) (by decide +kernel), List.mem_of_getElem? (i := 842) (by decide +kernel)⟩
theorem lw_p46 : lw_okq (⟨"MillFarmersModel", "isFarmer", "(I)Z"⟩, 53) := ⟨⟨by decide +kernel, by decide +kernel⟩, List.mem_of_getElem? (i := 665) (by decide +kernel), List.mem_of_getElem? (i := 854) (by decide +kernel), List.mem_of_getElem? (i := 855) (by decide +kernel)⟩
theorem lw_p47 : lw_okq (⟨"MillFarmersModel", "four", "(I)V"⟩, 53) := ⟨⟨by decide +kernel, by decide +kernel⟩, List.mem_of_getElem? (i := 665) (by decide +kernel), List.mem_of_getElem? (i := 867) (by decide +kernel), List.mem_of_getElem? (i := 868) (by decide +kernel)⟩
def lw_privs_3 : List (MethodName × Nat) := [(⟨"MillFarmers$Land", "lostAt", "(I)I"⟩, 5), (⟨"MillFarmers", "isShort", "(I)Z"⟩, 12), (⟨"MillFarmers$Farmers", "howManyIn", "(I)I"⟩, 4), (⟨"MillFarmers$Land", "add", "(III)V"⟩, 5), (⟨"MillFarmers$Road", "add", "(II)V"⟩, 8), (⟨"MillFarmers$Road", "walk", "(I)V"⟩, 8), (⟨"MillFarmers$Road", "cellOf", "(IIII)I"⟩, 8), (⟨"MillFarmers$Road", "goOnFrom", "(III)V"⟩, 8), (⟨"MillFarmers$Road", "placeAtEnd", "(III)I"⟩, 8), (⟨"MillFarmers$Road", "arrive", "(III)V"⟩, 8), (⟨"MillFarmers$Road", "mostMet", "()I"⟩, 8), (⟨"MillFarmers$Road", "firstHourWith", "(I)I"⟩, 8), (⟨"MillFarmers$Baskets", "ownerOf", "(II)I"⟩, 6), (⟨"MillFarmersModel", "told", "(I)I"⟩, 53), (⟨"MillFarmersModel", "isFarmer", "(I)Z"⟩, 53), (⟨"MillFarmersModel", "four", "(I)V"⟩, 53)]
theorem lw_r3 : ∀ q ∈ lw_privs_3, lw_okq q := List.forall_mem_cons.mpr ⟨lw_p32, List.forall_mem_cons.mpr ⟨lw_p33, List.forall_mem_cons.mpr ⟨lw_p34, List.forall_mem_cons.mpr ⟨lw_p35, List.forall_mem_cons.mpr ⟨lw_p36, List.forall_mem_cons.mpr ⟨lw_p37, List.forall_mem_cons.mpr ⟨lw_p38, List.forall_mem_cons.mpr ⟨lw_p39, List.forall_mem_cons.mpr ⟨lw_p40, List.forall_mem_cons.mpr ⟨lw_p41, List.forall_mem_cons.mpr ⟨lw_p42, List.forall_mem_cons.mpr ⟨lw_p43, List.forall_mem_cons.mpr ⟨lw_p44, List.forall_mem_cons.mpr ⟨lw_p45, List.forall_mem_cons.mpr ⟨lw_p46, List.forall_mem_cons.mpr ⟨lw_p47, fun _ h => absurd h List.not_mem_nil⟩⟩⟩⟩⟩⟩⟩⟩⟩⟩⟩⟩⟩⟩⟩⟩
theorem lw_p48 : lw_okq (⟨"MillFarmersModel", "next", "()V"⟩, 53) := ⟨⟨by decide +kernel, by decide +kernel⟩, List.mem_of_getElem? (i := 665) (by decide +kernel), List.mem_of_getElem? (i := 879) (by decide +kernel), List.mem_of_getElem? (i := 880) (by decide +kernel)⟩
theorem lw_p49 : lw_okq (⟨"MillFarmersModel", "readClause", "()V"⟩, 53) := ⟨⟨by decide +kernel, by decide +kernel⟩, List.mem_of_getElem? (i := 665) (by decide +kernel), List.mem_of_getElem? (i := 895) (by decide +kernel), List.mem_of_getElem? (i := 896) (by decide +kernel)⟩
theorem lw_p50 : lw_okq (⟨"MillFarmersModel", "isWord", "(IIIII)Z"⟩, 53) := ⟨⟨by decide +kernel, by decide +kernel⟩, List.mem_of_getElem? (i := 665) (by decide +kernel), List.mem_of_getElem? (i := 899) (by decide +kernel), List.mem_of_getElem? (i := 900) (by decide +kernel)⟩
theorem lw_p51 : lw_okq (⟨"MillFarmersModel", "partAt", "()I"⟩, 53) := ⟨⟨by decide +kernel, by decide +kernel⟩, List.mem_of_getElem? (i := 665) (by decide +kernel), List.mem_of_getElem? (i := 903) (by decide +kernel), List.mem_of_getElem? (i := 904) (by decide +kernel)⟩
theorem lw_p52 : lw_okq (⟨"MillFarmersModel", "must", "(Z)V"⟩, 53) := ⟨⟨by decide +kernel, by decide +kernel⟩, List.mem_of_getElem? (i := 665) (by decide +kernel), List.mem_of_getElem? (i := 907) (by decide +kernel), List.mem_of_getElem? (i := 908) (by decide +kernel)⟩
theorem lw_p53 : lw_okq (⟨"MillFarmersModel", "number", "(JJ)I"⟩, 53) := ⟨⟨by decide +kernel, by decide +kernel⟩, List.mem_of_getElem? (i := 665) (by decide +kernel), List.mem_of_getElem? (i := 911) (by decide +kernel), List.mem_of_getElem? (i := 912) (by decide +kernel)⟩
theorem lw_p54 : lw_okq (⟨"MillFarmersModel", "reckon", "(I)V"⟩, 53) := ⟨⟨by decide +kernel, by decide +kernel⟩, List.mem_of_getElem? (i := 665) (by decide +kernel), List.mem_of_getElem? (i := 933) (by decide +kernel), List.mem_of_getElem? (i := 934) (by decide +kernel)⟩
theorem lw_p55 : lw_okq (⟨"MillFarmersModel", "partOf", "(JI)J"⟩, 53) := ⟨⟨by decide +kernel, by decide +kernel⟩, List.mem_of_getElem? (i := 665) (by decide +kernel), List.mem_of_getElem? (i := 938) (by decide +kernel), List.mem_of_getElem? (i := 939) (by decide +kernel)⟩
theorem lw_p56 : lw_okq (⟨"MillFarmersModel", "stand", "(I)V"⟩, 53) := ⟨⟨by decide +kernel, by decide +kernel⟩, List.mem_of_getElem? (i := 665) (by decide +kernel), List.mem_of_getElem? (i := 942) (by decide +kernel), List.mem_of_getElem? (i := 943) (by decide +kernel)⟩
theorem lw_p57 : lw_okq (⟨"MillFarmersModel", "givenAt", "(IJ)J"⟩, 53) := ⟨⟨by decide +kernel, by decide +kernel⟩, List.mem_of_getElem? (i := 665) (by decide +kernel), List.mem_of_getElem? (i := 947) (by decide +kernel), List.mem_of_getElem? (i := 948) (by decide +kernel)⟩
theorem lw_p58 : lw_okq (⟨"MillFarmersModel", "foretold", "(I)J"⟩, 53) := ⟨⟨by decide +kernel, by decide +kernel⟩, List.mem_of_getElem? (i := 665) (by decide +kernel), List.mem_of_getElem? (i := 951) (by decide +kernel), List.mem_of_getElem? (i := 952) (by decide +kernel)⟩
theorem lw_p59 : lw_okq (⟨"MillFarmersModel", "walk", "(I)V"⟩, 53) := ⟨⟨by decide +kernel, by decide +kernel⟩, List.mem_of_getElem? (i := 665) (by decide +kernel), List.mem_of_getElem? (i := 973) (by decide +kernel), List.mem_of_getElem? (i := 974) (by decide +kernel)⟩
theorem lw_p60 : lw_okq (⟨"MillFarmersModel", "addPlace", "(I)V"⟩, 53) := ⟨⟨by decide +kernel, by decide +kernel⟩, List.mem_of_getElem? (i := 665) (by decide +kernel), List.mem_of_getElem? (i := 977) (by decide +kernel), List.mem_of_getElem? (i := 978) (by decide +kernel)⟩
theorem lw_p61 : lw_okq (⟨"MillFarmersModel", "metAt", "(II)I"⟩, 53) := ⟨⟨by decide +kernel, by decide +kernel⟩, List.mem_of_getElem? (i := 665) (by decide +kernel), List.mem_of_getElem? (i := 982) (by decide +kernel), List.mem_of_getElem? (i := 983) (by decide +kernel)⟩
theorem lw_p62 : lw_okq (⟨"MillFarmersModel", "widen", "(IIIIII)V"⟩, 53) := ⟨⟨by decide +kernel, by decide +kernel⟩, List.mem_of_getElem? (i := 665) (by decide +kernel), List.mem_of_getElem? (i := 989) (by decide +kernel), List.mem_of_getElem? (i := 990) (by decide +kernel)⟩
theorem lw_p63 : lw_okq (⟨"MillFarmersModel", "leastOf", "(I)I"⟩, 53) := ⟨⟨by decide +kernel, by decide +kernel⟩, List.mem_of_getElem? (i := 665) (by decide +kernel), List.mem_of_getElem? (i := 993) (by decide +kernel), List.mem_of_getElem? (i := 994) (by decide +kernel)⟩
def lw_privs_4 : List (MethodName × Nat) := [(⟨"MillFarmersModel", "next", "()V"⟩, 53), (⟨"MillFarmersModel", "readClause", "()V"⟩, 53), (⟨"MillFarmersModel", "isWord", "(IIIII)Z"⟩, 53), (⟨"MillFarmersModel", "partAt", "()I"⟩, 53), (⟨"MillFarmersModel", "must", "(Z)V"⟩, 53), (⟨"MillFarmersModel", "number", "(JJ)I"⟩, 53), (⟨"MillFarmersModel", "reckon", "(I)V"⟩, 53), (⟨"MillFarmersModel", "partOf", "(JI)J"⟩, 53), (⟨"MillFarmersModel", "stand", "(I)V"⟩, 53), (⟨"MillFarmersModel", "givenAt", "(IJ)J"⟩, 53), (⟨"MillFarmersModel", "foretold", "(I)J"⟩, 53), (⟨"MillFarmersModel", "walk", "(I)V"⟩, 53), (⟨"MillFarmersModel", "addPlace", "(I)V"⟩, 53), (⟨"MillFarmersModel", "metAt", "(II)I"⟩, 53), (⟨"MillFarmersModel", "widen", "(IIIIII)V"⟩, 53), (⟨"MillFarmersModel", "leastOf", "(I)I"⟩, 53)]
theorem lw_r4 : ∀ q ∈ lw_privs_4, lw_okq q := List.forall_mem_cons.mpr ⟨lw_p48, List.forall_mem_cons.mpr ⟨lw_p49, List.forall_mem_cons.mpr ⟨lw_p50, List.forall_mem_cons.mpr ⟨lw_p51, List.forall_mem_cons.mpr ⟨lw_p52, List.forall_mem_cons.mpr ⟨lw_p53, List.forall_mem_cons.mpr ⟨lw_p54, List.forall_mem_cons.mpr ⟨lw_p55, List.forall_mem_cons.mpr ⟨lw_p56, List.forall_mem_cons.mpr ⟨lw_p57, List.forall_mem_cons.mpr ⟨lw_p58, List.forall_mem_cons.mpr ⟨lw_p59, List.forall_mem_cons.mpr ⟨lw_p60, List.forall_mem_cons.mpr ⟨lw_p61, List.forall_mem_cons.mpr ⟨lw_p62, List.forall_mem_cons.mpr ⟨lw_p63, fun _ h => absurd h List.not_mem_nil⟩⟩⟩⟩⟩⟩⟩⟩⟩⟩⟩⟩⟩⟩⟩⟩
def lw_privs : List (MethodName × Nat) := lw_privs_1 ++ (lw_privs_2 ++ (lw_privs_3 ++ (lw_privs_4)))
def lw_tbl : List Cond := k2_sels lw_privs ++ tables_1
theorem lw_privs_ok : ∀ q ∈ lw_privs, lw_okq q := by
  show ∀ q ∈ lw_privs_1 ++ (lw_privs_2 ++ (lw_privs_3 ++ (lw_privs_4))), lw_okq q
  exact List.forall_mem_append.mpr ⟨lw_r1, List.forall_mem_append.mpr ⟨lw_r2, List.forall_mem_append.mpr ⟨lw_r3, lw_r4⟩⟩⟩
-- ===== end of PART A; then your names; then what follows =====
end
section
def RX0 : String := "MillFarmers$Baskets"
def TX0 : u_T := fun k => match k with
  | 0 => ("MillFarmers$Baskets", "farmer", "[I", true)
  | 1 => ("MillFarmers$Baskets", "weight", "[I", true)
  | 2 => ("MillFarmers$Baskets", "grade", "[I", true)
  | 3 => ("MillFarmers$Baskets", "known", "[I", true)
  | 4 => ("MillFarmers$Baskets", "size", "I", false)
  | _ => ("MillFarmers$Baskets", "weightTogether", "I", false)
def tyX0 : Nat → FieldType := fun k => match k with
  | 0 => .array .int
  | 1 => .array .int
  | 2 => .array .int
  | 3 => .array .int
  | 4 => .int
  | _ => .int
abbrev wsX00 : List Cond := u_ws RX0 TX0 6
theorem nmX0 : ∀ a, a < 6 → ∀ b, b < 6 → a ≠ b → (TX0 a).2.1 ≠ (TX0 b).2.1 := by decide +kernel
theorem tyX0_ok : ∀ k, k < 6 → parseFieldDescriptor (TX0 k).2.2.1 = some (tyX0 k) := by decide +kernel
abbrev cX0_init : ByteArray := prog_2_method_1_code
def yX0_init : MethodName := ⟨RX0, "<init>", "()V"⟩
abbrev cX0_add : ByteArray := prog_2_method_2_code
def yX0_add : MethodName := ⟨RX0, "add", "(IIII)V"⟩
abbrev cX0_ownerOf : ByteArray := prog_2_method_3_code
def yX0_ownerOf : MethodName := ⟨RX0, "ownerOf", "(II)I"⟩
def RX1 : String := "MillFarmers$Books"
def TX1 : u_T := fun k => match k with
  | 0 => ("MillFarmers$Books", "weight", "[J", true)
  | 1 => ("MillFarmers$Books", "lent", "[J", true)
  | 2 => ("MillFarmers$Books", "check", "[J", true)
  | 3 => ("MillFarmers$Books", "beyond", "[J", true)
  | 4 => ("MillFarmers$Books", "off", "[J", true)
  | 5 => ("MillFarmers$Books", "able", "[J", true)
  | 6 => ("MillFarmers$Books", "given", "[J", true)
  | 7 => ("MillFarmers$Books", "paid", "[J", true)
  | 8 => ("MillFarmers$Books", "owedTogether", "J", false)
  | 9 => ("MillFarmers$Books", "ableTogether", "J", false)
  | _ => ("MillFarmers$Books", "givenTogether", "J", false)
def tyX1 : Nat → FieldType := fun k => match k with
  | 0 => .array .long
  | 1 => .array .long
  | 2 => .array .long
  | 3 => .array .long
  | 4 => .array .long
  | 5 => .array .long
  | 6 => .array .long
  | 7 => .array .long
  | 8 => .long
  | 9 => .long
  | _ => .long
abbrev wsX10 : List Cond := u_ws RX1 TX1 11
theorem nmX1 : ∀ a, a < 11 → ∀ b, b < 11 → a ≠ b → (TX1 a).2.1 ≠ (TX1 b).2.1 := by decide +kernel
theorem tyX1_ok : ∀ k, k < 11 → parseFieldDescriptor (TX1 k).2.2.1 = some (tyX1 k) := by decide +kernel
abbrev cX1_init : ByteArray := prog_3_method_1_code
def yX1_init : MethodName := ⟨RX1, "<init>", "()V"⟩
abbrev cX1_draw : ByteArray := prog_3_method_2_code
def yX1_draw : MethodName := ⟨RX1, "draw", "(LMillFarmers$Farmers;LMillFarmers$Credits;LMillFarmers$Baskets;LMillFarmers$Terms;I)V"⟩
abbrev cX1_addCredits : ByteArray := prog_3_method_3_code
def yX1_addCredits : MethodName := ⟨RX1, "addCredits", "(LMillFarmers$Credits;I)V"⟩
abbrev cX1_addBaskets : ByteArray := prog_3_method_4_code
def yX1_addBaskets : MethodName := ⟨RX1, "addBaskets", "(LMillFarmers$Farmers;LMillFarmers$Baskets;LMillFarmers$Terms;I)V"⟩
abbrev cX1_pay : ByteArray := prog_3_method_5_code
def yX1_pay : MethodName := ⟨RX1, "pay", "(I)J"⟩
abbrev cX1_debt : ByteArray := prog_3_method_6_code
def yX1_debt : MethodName := ⟨RX1, "debt", "(I)J"⟩
abbrev cX1_stand : ByteArray := prog_3_method_7_code
def yX1_stand : MethodName := ⟨RX1, "stand", "(LMillFarmers$Farmers;LMillFarmers$Terms;I)V"⟩
abbrev cX1_giveEvenly : ByteArray := prog_3_method_8_code
def yX1_giveEvenly : MethodName := ⟨RX1, "giveEvenly", "(I)V"⟩
abbrev cX1_greatestLevel : ByteArray := prog_3_method_9_code
def yX1_greatestLevel : MethodName := ⟨RX1, "greatestLevel", "(I)J"⟩
abbrev cX1_sumAtLevel : ByteArray := prog_3_method_10_code
def yX1_sumAtLevel : MethodName := ⟨RX1, "sumAtLevel", "(JI)J"⟩
abbrev cX1_payDebts : ByteArray := prog_3_method_11_code
def yX1_payDebts : MethodName := ⟨RX1, "payDebts", "(LMillFarmers$Farmers;I)V"⟩
def RX2 : String := "MillFarmers$ContractReader"
def TX2 : u_T := fun k => match k with
  | 0 => ("MillFarmers$ContractReader", "text", "LMillFarmers$Tape;", true)
  | 1 => ("MillFarmers$ContractReader", "terms", "LMillFarmers$Terms;", false)
  | 2 => ("MillFarmers$ContractReader", "kind", "I", false)
  | 3 => ("MillFarmers$ContractReader", "start", "I", false)
  | _ => ("MillFarmers$ContractReader", "behind", "I", false)
def tyX2 : Nat → FieldType := fun k => match k with
  | 0 => .object "MillFarmers$Tape"
  | 1 => .object "MillFarmers$Terms"
  | 2 => .int
  | 3 => .int
  | _ => .int
abbrev wsX20 : List Cond := u_ws RX2 TX2 5
theorem nmX2 : ∀ a, a < 5 → ∀ b, b < 5 → a ≠ b → (TX2 a).2.1 ≠ (TX2 b).2.1 := by decide +kernel
theorem tyX2_ok : ∀ k, k < 5 → parseFieldDescriptor (TX2 k).2.2.1 = some (tyX2 k) := by decide +kernel
abbrev cX2_init : ByteArray := prog_4_method_1_code
def yX2_init : MethodName := ⟨RX2, "<init>", "(LMillFarmers$Tape;LMillFarmers$Terms;)V"⟩
abbrev cX2_read : ByteArray := prog_4_method_2_code
def yX2_read : MethodName := ⟨RX2, "read", "(LMillFarmers$Terms;)I"⟩
abbrev cX2_readClause : ByteArray := prog_4_method_3_code
def yX2_readClause : MethodName := ⟨RX2, "readClause", "()Z"⟩
abbrev cX2_readPrice : ByteArray := prog_4_method_4_code
def yX2_readPrice : MethodName := ⟨RX2, "readPrice", "()Z"⟩
abbrev cX2_readQuota : ByteArray := prog_4_method_5_code
def yX2_readQuota : MethodName := ⟨RX2, "readQuota", "()Z"⟩
abbrev cX2_readShare : ByteArray := prog_4_method_6_code
def yX2_readShare : MethodName := ⟨RX2, "readShare", "(I)Z"⟩
abbrev cX2_next : ByteArray := prog_4_method_7_code
def yX2_next : MethodName := ⟨RX2, "next", "()V"⟩
abbrev cX2_kindAt : ByteArray := prog_4_method_8_code
def yX2_kindAt : MethodName := ⟨RX2, "kindAt", "(I)I"⟩
abbrev cX2_isSemicolon : ByteArray := prog_4_method_9_code
def yX2_isSemicolon : MethodName := ⟨RX2, "isSemicolon", "()Z"⟩
abbrev cX2_isWord : ByteArray := prog_4_method_10_code
def yX2_isWord : MethodName := ⟨RX2, "isWord", "(Ljava/lang/String;)Z"⟩
abbrev cX2_number : ByteArray := prog_4_method_11_code
def yX2_number : MethodName := ⟨RX2, "number", "()I"⟩
def RX3 : String := "MillFarmers$Credits"
def TX3 : u_T := fun k => match k with
  | 0 => ("MillFarmers$Credits", "farmer", "[I", true)
  | 1 => ("MillFarmers$Credits", "amount", "[I", true)
  | 2 => ("MillFarmers$Credits", "known", "[I", true)
  | _ => ("MillFarmers$Credits", "size", "I", false)
def tyX3 : Nat → FieldType := fun k => match k with
  | 0 => .array .int
  | 1 => .array .int
  | 2 => .array .int
  | _ => .int
abbrev wsX30 : List Cond := u_ws RX3 TX3 4
theorem nmX3 : ∀ a, a < 4 → ∀ b, b < 4 → a ≠ b → (TX3 a).2.1 ≠ (TX3 b).2.1 := by decide +kernel
theorem tyX3_ok : ∀ k, k < 4 → parseFieldDescriptor (TX3 k).2.2.1 = some (tyX3 k) := by decide +kernel
abbrev cX3_init : ByteArray := prog_5_method_1_code
def yX3_init : MethodName := ⟨RX3, "<init>", "()V"⟩
abbrev cX3_add : ByteArray := prog_5_method_2_code
def yX3_add : MethodName := ⟨RX3, "add", "(III)V"⟩
def RX4 : String := "MillFarmers$Farmers"
def TX4 : u_T := fun k => match k with
  | 0 => ("MillFarmers$Farmers", "group", "[I", true)
  | 1 => ("MillFarmers$Farmers", "place", "[I", true)
  | 2 => ("MillFarmers$Farmers", "fields", "[I", true)
  | _ => ("MillFarmers$Farmers", "size", "I", false)
def tyX4 : Nat → FieldType := fun k => match k with
  | 0 => .array .int
  | 1 => .array .int
  | 2 => .array .int
  | _ => .int
abbrev wsX40 : List Cond := u_ws RX4 TX4 4
theorem nmX4 : ∀ a, a < 4 → ∀ b, b < 4 → a ≠ b → (TX4 a).2.1 ≠ (TX4 b).2.1 := by decide +kernel
theorem tyX4_ok : ∀ k, k < 4 → parseFieldDescriptor (TX4 k).2.2.1 = some (tyX4 k) := by decide +kernel
abbrev cX4_init : ByteArray := prog_6_method_1_code
def yX4_init : MethodName := ⟨RX4, "<init>", "()V"⟩
abbrev cX4_add : ByteArray := prog_6_method_2_code
def yX4_add : MethodName := ⟨RX4, "add", "(III)V"⟩
abbrev cX4_howManyIn : ByteArray := prog_6_method_3_code
def yX4_howManyIn : MethodName := ⟨RX4, "howManyIn", "(I)I"⟩
def RX5 : String := "MillFarmers$Land"
def TX5 : u_T := fun k => match k with
  | 0 => ("MillFarmers$Land", "from", "[I", true)
  | 1 => ("MillFarmers$Land", "to", "[I", true)
  | 2 => ("MillFarmers$Land", "part", "[I", true)
  | 3 => ("MillFarmers$Land", "size", "I", false)
  | _ => ("MillFarmers$Land", "yieldOfField", "I", false)
def tyX5 : Nat → FieldType := fun k => match k with
  | 0 => .array .int
  | 1 => .array .int
  | 2 => .array .int
  | 3 => .int
  | _ => .int
abbrev wsX50 : List Cond := u_ws RX5 TX5 5
theorem nmX5 : ∀ a, a < 5 → ∀ b, b < 5 → a ≠ b → (TX5 a).2.1 ≠ (TX5 b).2.1 := by decide +kernel
theorem tyX5_ok : ∀ k, k < 5 → parseFieldDescriptor (TX5 k).2.2.1 = some (tyX5 k) := by decide +kernel
abbrev cX5_init : ByteArray := prog_7_method_1_code
def yX5_init : MethodName := ⟨RX5, "<init>", "()V"⟩
abbrev cX5_add : ByteArray := prog_7_method_2_code
def yX5_add : MethodName := ⟨RX5, "add", "(III)V"⟩
abbrev cX5_lostAt : ByteArray := prog_7_method_3_code
def yX5_lostAt : MethodName := ⟨RX5, "lostAt", "(I)I"⟩
abbrev cX5_foretold : ByteArray := prog_7_method_4_code
def yX5_foretold : MethodName := ⟨RX5, "foretold", "(II)J"⟩
def RX6 : String := "MillFarmers$Road"
def TX6 : u_T := fun k => match k with
  | 0 => ("MillFarmers$Road", "place", "[I", true)
  | 1 => ("MillFarmers$Road", "hour", "[I", true)
  | 2 => ("MillFarmers$Road", "earliest", "[I", true)
  | 3 => ("MillFarmers$Road", "hourOfCount", "[I", true)
  | 4 => ("MillFarmers$Road", "size", "I", false)
  | 5 => ("MillFarmers$Road", "begin", "I", false)
  | 6 => ("MillFarmers$Road", "left", "I", false)
  | _ => ("MillFarmers$Road", "right", "I", false)
def tyX6 : Nat → FieldType := fun k => match k with
  | 0 => .array .int
  | 1 => .array .int
  | 2 => .array .int
  | 3 => .array .int
  | 4 => .int
  | 5 => .int
  | 6 => .int
  | _ => .int
abbrev wsX60 : List Cond := u_ws RX6 TX6 8
theorem nmX6 : ∀ a, a < 8 → ∀ b, b < 8 → a ≠ b → (TX6 a).2.1 ≠ (TX6 b).2.1 := by decide +kernel
theorem tyX6_ok : ∀ k, k < 8 → parseFieldDescriptor (TX6 k).2.2.1 = some (tyX6 k) := by decide +kernel
abbrev cX6_init : ByteArray := prog_8_method_1_code
def yX6_init : MethodName := ⟨RX6, "<init>", "()V"⟩
abbrev cX6_add : ByteArray := prog_8_method_2_code
def yX6_add : MethodName := ⟨RX6, "add", "(II)V"⟩
abbrev cX6_walk : ByteArray := prog_8_method_3_code
def yX6_walk : MethodName := ⟨RX6, "walk", "(I)V"⟩
abbrev cX6_goOnFrom : ByteArray := prog_8_method_4_code
def yX6_goOnFrom : MethodName := ⟨RX6, "goOnFrom", "(III)V"⟩
abbrev cX6_arrive : ByteArray := prog_8_method_5_code
def yX6_arrive : MethodName := ⟨RX6, "arrive", "(III)V"⟩
abbrev cX6_placeAtEnd : ByteArray := prog_8_method_6_code
def yX6_placeAtEnd : MethodName := ⟨RX6, "placeAtEnd", "(III)I"⟩
abbrev cX6_cellOf : ByteArray := prog_8_method_7_code
def yX6_cellOf : MethodName := ⟨RX6, "cellOf", "(IIII)I"⟩
abbrev cX6_mostMet : ByteArray := prog_8_method_8_code
def yX6_mostMet : MethodName := ⟨RX6, "mostMet", "()I"⟩
abbrev cX6_firstHourWith : ByteArray := prog_8_method_9_code
def yX6_firstHourWith : MethodName := ⟨RX6, "firstHourWith", "(I)I"⟩
def RX7 : String := "MillFarmers$Tape"
def TX7 : u_T := fun k => match k with
  | 0 => ("MillFarmers$Tape", "bytes", "[I", true)
  | _ => ("MillFarmers$Tape", "length", "I", false)
def tyX7 : Nat → FieldType := fun k => match k with
  | 0 => .array .int
  | _ => .int
abbrev wsX70 : List Cond := u_ws RX7 TX7 2
theorem nmX7 : ∀ a, a < 2 → ∀ b, b < 2 → a ≠ b → (TX7 a).2.1 ≠ (TX7 b).2.1 := by decide +kernel
theorem tyX7_ok : ∀ k, k < 2 → parseFieldDescriptor (TX7 k).2.2.1 = some (tyX7 k) := by decide +kernel
abbrev cX7_init : ByteArray := prog_9_method_1_code
def yX7_init : MethodName := ⟨RX7, "<init>", "()V"⟩
abbrev cX7_append : ByteArray := prog_9_method_2_code
def yX7_append : MethodName := ⟨RX7, "append", "(I)V"⟩
def RX8 : String := "MillFarmers$Terms"
def TX8 : u_T := fun k => match k with
  | 0 => ("MillFarmers$Terms", "price", "[I", true)
  | 1 => ("MillFarmers$Terms", "upper", "[I", true)
  | 2 => ("MillFarmers$Terms", "lower", "[I", true)
  | 3 => ("MillFarmers$Terms", "quota", "I", false)
  | _ => ("MillFarmers$Terms", "clauses", "I", false)
def tyX8 : Nat → FieldType := fun k => match k with
  | 0 => .array .int
  | 1 => .array .int
  | 2 => .array .int
  | 3 => .int
  | _ => .int
abbrev wsX80 : List Cond := u_ws RX8 TX8 5
theorem nmX8 : ∀ a, a < 5 → ∀ b, b < 5 → a ≠ b → (TX8 a).2.1 ≠ (TX8 b).2.1 := by decide +kernel
theorem tyX8_ok : ∀ k, k < 5 → parseFieldDescriptor (TX8 k).2.2.1 = some (tyX8 k) := by decide +kernel
abbrev cX8_init : ByteArray := prog_10_method_1_code
def yX8_init : MethodName := ⟨RX8, "<init>", "()V"⟩
abbrev cX8_reset : ByteArray := prog_10_method_2_code
def yX8_reset : MethodName := ⟨RX8, "reset", "()V"⟩
abbrev cX8_setShare : ByteArray := prog_10_method_3_code
def yX8_setShare : MethodName := ⟨RX8, "setShare", "(III)V"⟩
abbrev cX8_shareOf : ByteArray := prog_10_method_4_code
def yX8_shareOf : MethodName := ⟨RX8, "shareOf", "(IJ)J"⟩
def RX9 : String := "MillFarmers"
def TX9 : u_T := fun k => match k with
  | 0 => ("MillFarmers", "farmers", "LMillFarmers$Farmers;", true)
  | 1 => ("MillFarmers", "credits", "LMillFarmers$Credits;", true)
  | 2 => ("MillFarmers", "baskets", "LMillFarmers$Baskets;", true)
  | 3 => ("MillFarmers", "tape", "LMillFarmers$Tape;", true)
  | 4 => ("MillFarmers", "reader", "LMillFarmers$ContractReader;", true)
  | 5 => ("MillFarmers", "books", "LMillFarmers$Books;", true)
  | 6 => ("MillFarmers", "land", "LMillFarmers$Land;", true)
  | 7 => ("MillFarmers", "road", "LMillFarmers$Road;", true)
  | 8 => ("MillFarmers", "terms", "LMillFarmers$Terms;", false)
  | 9 => ("MillFarmers", "draft", "LMillFarmers$Terms;", false)
  | 10 => ("MillFarmers", "faultPlace", "I", false)
  | _ => ("MillFarmers", "refusal", "I", false)
def tyX9 : Nat → FieldType := fun k => match k with
  | 0 => .object "MillFarmers$Farmers"
  | 1 => .object "MillFarmers$Credits"
  | 2 => .object "MillFarmers$Baskets"
  | 3 => .object "MillFarmers$Tape"
  | 4 => .object "MillFarmers$ContractReader"
  | 5 => .object "MillFarmers$Books"
  | 6 => .object "MillFarmers$Land"
  | 7 => .object "MillFarmers$Road"
  | 8 => .object "MillFarmers$Terms"
  | 9 => .object "MillFarmers$Terms"
  | 10 => .int
  | _ => .int
abbrev wsX90 : List Cond := u_ws RX9 TX9 12
theorem nmX9 : ∀ a, a < 12 → ∀ b, b < 12 → a ≠ b → (TX9 a).2.1 ≠ (TX9 b).2.1 := by decide +kernel
theorem tyX9_ok : ∀ k, k < 12 → parseFieldDescriptor (TX9 k).2.2.1 = some (tyX9 k) := by decide +kernel
abbrev cX9_init : ByteArray := prog_1_method_1_code
def yX9_init : MethodName := ⟨RX9, "<init>", "()V"⟩
abbrev cX9_farmer : ByteArray := prog_1_method_2_code
def yX9_farmer : MethodName := ⟨RX9, "farmer", "(III)I"⟩
abbrev cX9_credit : ByteArray := prog_1_method_3_code
def yX9_credit : MethodName := ⟨RX9, "credit", "(III)I"⟩
abbrev cX9_basket : ByteArray := prog_1_method_4_code
def yX9_basket : MethodName := ⟨RX9, "basket", "(IIII)I"⟩
abbrev cX9_feed : ByteArray := prog_1_method_5_code
def yX9_feed : MethodName := ⟨RX9, "feed", "(IIIII)I"⟩
abbrev cX9_end : ByteArray := prog_1_method_6_code
def yX9_end : MethodName := ⟨RX9, "end", "(I)I"⟩
abbrev cX9_contract : ByteArray := prog_1_method_7_code
def yX9_contract : MethodName := ⟨RX9, "contract", "()I"⟩
abbrev cX9_fault : ByteArray := prog_1_method_8_code
def yX9_fault : MethodName := ⟨RX9, "fault", "()I"⟩
abbrev cX9_of : ByteArray := prog_1_method_9_code
def yX9_of : MethodName := ⟨RX9, "of", "(III)J"⟩
abbrev cX9_group : ByteArray := prog_1_method_10_code
def yX9_group : MethodName := ⟨RX9, "group", "(III)J"⟩
abbrev cX9_bears : ByteArray := prog_1_method_11_code
def yX9_bears : MethodName := ⟨RX9, "bears", "(I)I"⟩
abbrev cX9_drought : ByteArray := prog_1_method_12_code
def yX9_drought : MethodName := ⟨RX9, "drought", "(III)I"⟩
abbrev cX9_visit : ByteArray := prog_1_method_13_code
def yX9_visit : MethodName := ⟨RX9, "visit", "(II)I"⟩
abbrev cX9_clear : ByteArray := prog_1_method_14_code
def yX9_clear : MethodName := ⟨RX9, "clear", "()I"⟩
abbrev cX9_most : ByteArray := prog_1_method_15_code
def yX9_most : MethodName := ⟨RX9, "most", "(I)I"⟩
abbrev cX9_least : ByteArray := prog_1_method_16_code
def yX9_least : MethodName := ⟨RX9, "least", "(II)I"⟩
abbrev cX9_led : ByteArray := prog_1_method_17_code
def yX9_led : MethodName := ⟨RX9, "led", "(II)I"⟩
abbrev cX9_count : ByteArray := prog_1_method_18_code
def yX9_count : MethodName := ⟨RX9, "count", "(I)I"⟩
abbrev cX9_status : ByteArray := prog_1_method_19_code
def yX9_status : MethodName := ⟨RX9, "status", "()I"⟩
abbrev cX9_refuse : ByteArray := prog_1_method_20_code
def yX9_refuse : MethodName := ⟨RX9, "refuse", "(I)I"⟩
abbrev cX9_accept : ByteArray := prog_1_method_21_code
def yX9_accept : MethodName := ⟨RX9, "accept", "(I)I"⟩
abbrev cX9_isNoFarmer : ByteArray := prog_1_method_22_code
def yX9_isNoFarmer : MethodName := ⟨RX9, "isNoFarmer", "(I)Z"⟩
abbrev cX9_foretold : ByteArray := prog_1_method_23_code
def yX9_foretold : MethodName := ⟨RX9, "foretold", "(I)J"⟩
abbrev cX9_isShort : ByteArray := prog_1_method_24_code
def yX9_isShort : MethodName := ⟨RX9, "isShort", "(I)Z"⟩
abbrev cX9_outside : ByteArray := prog_1_method_25_code
def yX9_outside : MethodName := ⟨RX9, "outside", "(III)Z"⟩
def RX10 : String := "MillFarmersModel"
def TX10 : u_T := fun k => match k with
  | 0 => ("MillFarmersModel", "thrown", "I", false)
  | 1 => ("MillFarmersModel", "status", "I", false)
  | 2 => ("MillFarmersModel", "farmers", "I", false)
  | 3 => ("MillFarmersModel", "fGroup", "[I", true)
  | 4 => ("MillFarmersModel", "fPlace", "[I", true)
  | 5 => ("MillFarmersModel", "fFields", "[I", true)
  | 6 => ("MillFarmersModel", "credits", "I", false)
  | 7 => ("MillFarmersModel", "cFarmer", "[I", true)
  | 8 => ("MillFarmersModel", "cAmount", "[I", true)
  | 9 => ("MillFarmersModel", "cKnown", "[I", true)
  | 10 => ("MillFarmersModel", "baskets", "I", false)
  | 11 => ("MillFarmersModel", "bFarmer", "[I", true)
  | 12 => ("MillFarmersModel", "bWeight", "[I", true)
  | 13 => ("MillFarmersModel", "bGrade", "[I", true)
  | 14 => ("MillFarmersModel", "bKnown", "[I", true)
  | 15 => ("MillFarmersModel", "clauses", "I", false)
  | 16 => ("MillFarmersModel", "prices", "[I", true)
  | 17 => ("MillFarmersModel", "quota", "I", false)
  | 18 => ("MillFarmersModel", "partA", "[I", true)
  | 19 => ("MillFarmersModel", "partB", "[I", true)
  | 20 => ("MillFarmersModel", "nMany", "I", false)
  | 21 => ("MillFarmersModel", "nPrices", "[I", true)
  | 22 => ("MillFarmersModel", "nQuota", "I", false)
  | 23 => ("MillFarmersModel", "nA", "[I", true)
  | 24 => ("MillFarmersModel", "nB", "[I", true)
  | 25 => ("MillFarmersModel", "tape", "[I", true)
  | 26 => ("MillFarmersModel", "taped", "I", false)
  | 27 => ("MillFarmersModel", "from", "I", false)
  | 28 => ("MillFarmersModel", "to", "I", false)
  | 29 => ("MillFarmersModel", "sort", "I", false)
  | 30 => ("MillFarmersModel", "worth", "J", false)
  | 31 => ("MillFarmersModel", "fault", "I", false)
  | 32 => ("MillFarmersModel", "bad", "Z", false)
  | 33 => ("MillFarmersModel", "weights", "[J", true)
  | 34 => ("MillFarmersModel", "owes", "[J", true)
  | 35 => ("MillFarmersModel", "checks", "[J", true)
  | 36 => ("MillFarmersModel", "offs", "[J", true)
  | 37 => ("MillFarmersModel", "rests", "[J", true)
  | 38 => ("MillFarmersModel", "quotas", "[J", true)
  | 39 => ("MillFarmersModel", "can", "[J", true)
  | 40 => ("MillFarmersModel", "given", "[J", true)
  | 41 => ("MillFarmersModel", "left", "[J", true)
  | 42 => ("MillFarmersModel", "bearing", "I", false)
  | 43 => ("MillFarmersModel", "droughts", "I", false)
  | 44 => ("MillFarmersModel", "dFrom", "[I", true)
  | 45 => ("MillFarmersModel", "dTo", "[I", true)
  | 46 => ("MillFarmersModel", "dPart", "[I", true)
  | 47 => ("MillFarmersModel", "visits", "I", false)
  | 48 => ("MillFarmersModel", "vFarmer", "[I", true)
  | 49 => ("MillFarmersModel", "vHour", "[I", true)
  | 50 => ("MillFarmersModel", "places", "I", false)
  | 51 => ("MillFarmersModel", "place", "[I", true)
  | _ => ("MillFarmersModel", "early", "[I", true)
def tyX10 : Nat → FieldType := fun k => match k with
  | 0 => .int
  | 1 => .int
  | 2 => .int
  | 3 => .array .int
  | 4 => .array .int
  | 5 => .array .int
  | 6 => .int
  | 7 => .array .int
  | 8 => .array .int
  | 9 => .array .int
  | 10 => .int
  | 11 => .array .int
  | 12 => .array .int
  | 13 => .array .int
  | 14 => .array .int
  | 15 => .int
  | 16 => .array .int
  | 17 => .int
  | 18 => .array .int
  | 19 => .array .int
  | 20 => .int
  | 21 => .array .int
  | 22 => .int
  | 23 => .array .int
  | 24 => .array .int
  | 25 => .array .int
  | 26 => .int
  | 27 => .int
  | 28 => .int
  | 29 => .int
  | 30 => .long
  | 31 => .int
  | 32 => .boolean
  | 33 => .array .long
  | 34 => .array .long
  | 35 => .array .long
  | 36 => .array .long
  | 37 => .array .long
  | 38 => .array .long
  | 39 => .array .long
  | 40 => .array .long
  | 41 => .array .long
  | 42 => .int
  | 43 => .int
  | 44 => .array .int
  | 45 => .array .int
  | 46 => .array .int
  | 47 => .int
  | 48 => .array .int
  | 49 => .array .int
  | 50 => .int
  | 51 => .array .int
  | _ => .array .int
abbrev wsX100 : List Cond := u_ws RX10 TX10 53
theorem nmX10 : ∀ a, a < 53 → ∀ b, b < 53 → a ≠ b → (TX10 a).2.1 ≠ (TX10 b).2.1 := by decide +kernel
theorem tyX10_ok : ∀ k, k < 53 → parseFieldDescriptor (TX10 k).2.2.1 = some (tyX10 k) := by decide +kernel
abbrev cX10_init : ByteArray := prog_12_method_1_code
def yX10_init : MethodName := ⟨RX10, "<init>", "()V"⟩
abbrev cX10_in : ByteArray := prog_12_method_3_code
def yX10_in : MethodName := ⟨RX10, "in", "(JJJ)Z"⟩
abbrev cX10_told : ByteArray := prog_12_method_4_code
def yX10_told : MethodName := ⟨RX10, "told", "(I)I"⟩
abbrev cX10_isDay : ByteArray := prog_12_method_5_code
def yX10_isDay : MethodName := ⟨RX10, "isDay", "(I)Z"⟩
abbrev cX10_isFarmer : ByteArray := prog_12_method_6_code
def yX10_isFarmer : MethodName := ⟨RX10, "isFarmer", "(I)Z"⟩
abbrev cX10_farmer : ByteArray := prog_12_method_7_code
def yX10_farmer : MethodName := ⟨RX10, "farmer", "(III)I"⟩
abbrev cX10_credit : ByteArray := prog_12_method_8_code
def yX10_credit : MethodName := ⟨RX10, "credit", "(III)I"⟩
abbrev cX10_basket : ByteArray := prog_12_method_9_code
def yX10_basket : MethodName := ⟨RX10, "basket", "(IIII)I"⟩
abbrev cX10_four : ByteArray := prog_12_method_10_code
def yX10_four : MethodName := ⟨RX10, "four", "(I)V"⟩
abbrev cX10_feed : ByteArray := prog_12_method_11_code
def yX10_feed : MethodName := ⟨RX10, "feed", "(IIIII)I"⟩
abbrev cX10_end : ByteArray := prog_12_method_12_code
def yX10_end : MethodName := ⟨RX10, "end", "(I)I"⟩
abbrev cX10_isSmall : ByteArray := prog_12_method_13_code
def yX10_isSmall : MethodName := ⟨RX10, "isSmall", "(I)Z"⟩
abbrev cX10_isDigit : ByteArray := prog_12_method_14_code
def yX10_isDigit : MethodName := ⟨RX10, "isDigit", "(I)Z"⟩
abbrev cX10_next : ByteArray := prog_12_method_15_code
def yX10_next : MethodName := ⟨RX10, "next", "()V"⟩
abbrev cX10_isWord : ByteArray := prog_12_method_16_code
def yX10_isWord : MethodName := ⟨RX10, "isWord", "(IIIII)Z"⟩
abbrev cX10_must : ByteArray := prog_12_method_17_code
def yX10_must : MethodName := ⟨RX10, "must", "(Z)V"⟩
abbrev cX10_number : ByteArray := prog_12_method_18_code
def yX10_number : MethodName := ⟨RX10, "number", "(JJ)I"⟩
abbrev cX10_partAt : ByteArray := prog_12_method_19_code
def yX10_partAt : MethodName := ⟨RX10, "partAt", "()I"⟩
abbrev cX10_readClause : ByteArray := prog_12_method_20_code
def yX10_readClause : MethodName := ⟨RX10, "readClause", "()V"⟩
abbrev cX10_contract : ByteArray := prog_12_method_21_code
def yX10_contract : MethodName := ⟨RX10, "contract", "()I"⟩
abbrev cX10_fault : ByteArray := prog_12_method_22_code
def yX10_fault : MethodName := ⟨RX10, "fault", "()I"⟩
abbrev cX10_partOf : ByteArray := prog_12_method_23_code
def yX10_partOf : MethodName := ⟨RX10, "partOf", "(JI)J"⟩
abbrev cX10_reckon : ByteArray := prog_12_method_24_code
def yX10_reckon : MethodName := ⟨RX10, "reckon", "(I)V"⟩
abbrev cX10_givenAt : ByteArray := prog_12_method_25_code
def yX10_givenAt : MethodName := ⟨RX10, "givenAt", "(IJ)J"⟩
abbrev cX10_stand : ByteArray := prog_12_method_26_code
def yX10_stand : MethodName := ⟨RX10, "stand", "(I)V"⟩
abbrev cX10_bears : ByteArray := prog_12_method_27_code
def yX10_bears : MethodName := ⟨RX10, "bears", "(I)I"⟩
abbrev cX10_drought : ByteArray := prog_12_method_28_code
def yX10_drought : MethodName := ⟨RX10, "drought", "(III)I"⟩
abbrev cX10_foretold : ByteArray := prog_12_method_29_code
def yX10_foretold : MethodName := ⟨RX10, "foretold", "(I)J"⟩
abbrev cX10_of : ByteArray := prog_12_method_30_code
def yX10_of : MethodName := ⟨RX10, "of", "(III)J"⟩
abbrev cX10_group : ByteArray := prog_12_method_31_code
def yX10_group : MethodName := ⟨RX10, "group", "(III)J"⟩
abbrev cX10_visit : ByteArray := prog_12_method_32_code
def yX10_visit : MethodName := ⟨RX10, "visit", "(II)I"⟩
abbrev cX10_clear : ByteArray := prog_12_method_33_code
def yX10_clear : MethodName := ⟨RX10, "clear", "()I"⟩
abbrev cX10_addPlace : ByteArray := prog_12_method_34_code
def yX10_addPlace : MethodName := ⟨RX10, "addPlace", "(I)V"⟩
abbrev cX10_metAt : ByteArray := prog_12_method_35_code
def yX10_metAt : MethodName := ⟨RX10, "metAt", "(II)I"⟩
abbrev cX10_at : ByteArray := prog_12_method_36_code
def yX10_at : MethodName := ⟨RX10, "at", "(IIII)I"⟩
abbrev cX10_widen : ByteArray := prog_12_method_37_code
def yX10_widen : MethodName := ⟨RX10, "widen", "(IIIIII)V"⟩
abbrev cX10_walk : ByteArray := prog_12_method_38_code
def yX10_walk : MethodName := ⟨RX10, "walk", "(I)V"⟩
abbrev cX10_leastOf : ByteArray := prog_12_method_39_code
def yX10_leastOf : MethodName := ⟨RX10, "leastOf", "(I)I"⟩
abbrev cX10_most : ByteArray := prog_12_method_40_code
def yX10_most : MethodName := ⟨RX10, "most", "(I)I"⟩
abbrev cX10_least : ByteArray := prog_12_method_41_code
def yX10_least : MethodName := ⟨RX10, "least", "(II)I"⟩
abbrev cX10_led : ByteArray := prog_12_method_42_code
def yX10_led : MethodName := ⟨RX10, "led", "(II)I"⟩
abbrev cX10_count : ByteArray := prog_12_method_43_code
def yX10_count : MethodName := ⟨RX10, "count", "(I)I"⟩
abbrev cX10_status : ByteArray := prog_12_method_44_code
def yX10_status : MethodName := ⟨RX10, "status", "()I"⟩
def RJ9 : String := "java/lang/Math"
def TJ9 : u_T := fun k => match k with
  | _ => ("", "", "", false)
def tyJ9 : Nat → FieldType := fun k => match k with
  | _ => .int
abbrev wsJ90 : List Cond := u_ws RJ9 TJ9 0
theorem nmJ9 : ∀ a, a < 0 → ∀ b, b < 0 → a ≠ b → (TJ9 a).2.1 ≠ (TJ9 b).2.1 := by decide +kernel
theorem tyJ9_ok : ∀ k, k < 0 → parseFieldDescriptor (TJ9 k).2.2.1 = some (tyJ9 k) := by decide +kernel
abbrev cJ9_max_7cf53 : ByteArray := prog_13_method_65_code
def yJ9_max_7cf53 : MethodName := ⟨RJ9, "max", "(II)I"⟩
abbrev cJ9_max_f86c9 : ByteArray := prog_13_method_66_code
def yJ9_max_f86c9 : MethodName := ⟨RJ9, "max", "(JJ)J"⟩
abbrev cJ9_min_7cf53 : ByteArray := prog_13_method_69_code
def yJ9_min_7cf53 : MethodName := ⟨RJ9, "min", "(II)I"⟩
abbrev cJ9_min_f86c9 : ByteArray := prog_13_method_70_code
def yJ9_min_f86c9 : MethodName := ⟨RJ9, "min", "(JJ)J"⟩
def RJ0 : String := "java/lang/String"
def TJ0 : u_T := fun k => match k with
  | _ => ("", "", "", false)
def tyJ0 : Nat → FieldType := fun k => match k with
  | _ => .int
abbrev wsJ00 : List Cond := u_ws RJ0 TJ0 0
theorem nmJ0 : ∀ a, a < 0 → ∀ b, b < 0 → a ≠ b → (TJ0 a).2.1 ≠ (TJ0 b).2.1 := by decide +kernel
theorem tyJ0_ok : ∀ k, k < 0 → parseFieldDescriptor (TJ0 k).2.2.1 = some (tyJ0 k) := by decide +kernel
abbrev cJ0_length_8abf5 : ByteArray := prog_14_method_54_code
def yJ0_length_8abf5 : MethodName := ⟨RJ0, "length", "()I"⟩
abbrev cJ0_charAt_5068e : ByteArray := prog_14_method_56_code
def yJ0_charAt_5068e : MethodName := ⟨RJ0, "charAt", "(I)C"⟩
abbrev cJ0_coder_7d493 : ByteArray := prog_14_method_152_code
def yJ0_coder_7d493 : MethodName := ⟨RJ0, "coder", "()B"⟩
abbrev cJ0_isLatin1_aae02 : ByteArray := prog_14_method_154_code
def yJ0_isLatin1_aae02 : MethodName := ⟨RJ0, "isLatin1", "()Z"⟩
abbrev cJ0_checkIndex_df160 : ByteArray := prog_14_method_155_code
def yJ0_checkIndex_df160 : MethodName := ⟨RJ0, "checkIndex", "(II)V"⟩
def RJ1 : String := "java/lang/StringLatin1"
def TJ1 : u_T := fun k => match k with
  | _ => ("", "", "", false)
def tyJ1 : Nat → FieldType := fun k => match k with
  | _ => .int
abbrev wsJ10 : List Cond := u_ws RJ1 TJ1 0
theorem nmJ1 : ∀ a, a < 0 → ∀ b, b < 0 → a ≠ b → (TJ1 a).2.1 ≠ (TJ1 b).2.1 := by decide +kernel
theorem tyJ1_ok : ∀ k, k < 0 → parseFieldDescriptor (TJ1 k).2.2.1 = some (tyJ1 k) := by decide +kernel
abbrev cJ1_charAt_3b067 : ByteArray := prog_15_method_2_code
def yJ1_charAt_3b067 : MethodName := ⟨RJ1, "charAt", "([BI)C"⟩
def RJ2 : String := "java/lang/StringUTF16"
def TJ2 : u_T := fun k => match k with
  | _ => ("", "", "", false)
def tyJ2 : Nat → FieldType := fun k => match k with
  | _ => .int
abbrev wsJ20 : List Cond := u_ws RJ2 TJ2 0
theorem nmJ2 : ∀ a, a < 0 → ∀ b, b < 0 → a ≠ b → (TJ2 a).2.1 ≠ (TJ2 b).2.1 := by decide +kernel
theorem tyJ2_ok : ∀ k, k < 0 → parseFieldDescriptor (TJ2 k).2.2.1 = some (tyJ2 k) := by decide +kernel
abbrev cJ2_getChar_3b067 : ByteArray := prog_16_method_5_code
def yJ2_getChar_3b067 : MethodName := ⟨RJ2, "getChar", "([BI)C"⟩
abbrev cJ2_length_9d52b : ByteArray := prog_16_method_6_code
def yJ2_length_9d52b : MethodName := ⟨RJ2, "length", "([B)I"⟩
abbrev cJ2_charAt_3b067 : ByteArray := prog_16_method_83_code
def yJ2_charAt_3b067 : MethodName := ⟨RJ2, "charAt", "([BI)C"⟩
abbrev cJ2_checkIndex_2214a : ByteArray := prog_16_method_91_code
def yJ2_checkIndex_2214a : MethodName := ⟨RJ2, "checkIndex", "(I[B)V"⟩
def RJ10 : String := "java/lang/System"
def TJ10 : u_T := fun k => match k with
  | _ => ("", "", "", false)
def tyJ10 : Nat → FieldType := fun k => match k with
  | _ => .int
abbrev wsJ100 : List Cond := u_ws RJ10 TJ10 0
theorem nmJ10 : ∀ a, a < 0 → ∀ b, b < 0 → a ≠ b → (TJ10 a).2.1 ≠ (TJ10 b).2.1 := by decide +kernel
theorem tyJ10_ok : ∀ k, k < 0 → parseFieldDescriptor (TJ10 k).2.2.1 = some (tyJ10 k) := by decide +kernel
def RJ7 : String := "java/util/Arrays"
def TJ7 : u_T := fun k => match k with
  | _ => ("", "", "", false)
def tyJ7 : Nat → FieldType := fun k => match k with
  | _ => .int
abbrev wsJ70 : List Cond := u_ws RJ7 TJ7 0
theorem nmJ7 : ∀ a, a < 0 → ∀ b, b < 0 → a ≠ b → (TJ7 a).2.1 ≠ (TJ7 b).2.1 := by decide +kernel
theorem tyJ7_ok : ∀ k, k < 0 → parseFieldDescriptor (TJ7 k).2.2.1 = some (tyJ7 k) := by decide +kernel
abbrev cJ7_fill_d0a16 : ByteArray := prog_18_method_101_code
def yJ7_fill_d0a16 : MethodName := ⟨RJ7, "fill", "([JJ)V"⟩
abbrev cJ7_fill_53178 : ByteArray := prog_18_method_103_code
def yJ7_fill_53178 : MethodName := ⟨RJ7, "fill", "([II)V"⟩
def RJ3 : String := "jdk/internal/util/Preconditions"
def TJ3 : u_T := fun k => match k with
  | _ => ("", "", "", false)
def tyJ3 : Nat → FieldType := fun k => match k with
  | _ => .int
abbrev wsJ30 : List Cond := u_ws RJ3 TJ3 0
theorem nmJ3 : ∀ a, a < 0 → ∀ b, b < 0 → a ≠ b → (TJ3 a).2.1 ≠ (TJ3 b).2.1 := by decide +kernel
theorem tyJ3_ok : ∀ k, k < 0 → parseFieldDescriptor (TJ3 k).2.2.1 = some (tyJ3 k) := by decide +kernel
abbrev cJ3_checkIndex_8e157 : ByteArray := prog_19_method_11_code
def yJ3_checkIndex_8e157 : MethodName := ⟨RJ3, "checkIndex", "(IILjava/util/function/BiFunction;)I"⟩
def RL : String := "MillFarmersLaw"
abbrev cL_law : ByteArray := code
def yL_law : MethodName := ⟨RL, "law", "([I)Z"⟩
abbrev vwCl : List vw_C := [(RX0, TX0, 6), (RX1, TX1, 11), (RX2, TX2, 5), (RX3, TX3, 4), (RX4, TX4, 4), (RX5, TX5, 5), (RX6, TX6, 8), (RX7, TX7, 2), (RX8, TX8, 5), (RX9, TX9, 12), (RX10, TX10, 53)]
end
section
/-! THE LAYER: a method's world is the whole list of cells, by places; a judgement Ev over (pc, locals, stack, cells), a contract Ct -/
def isNest : Cond → Bool
  | .fieldLinkNest .. => true
  | .methodLinkNest .. => true
  | _ => false
def Ts : List Cond := lw_tbl.filter goodWord
def Tn : List Cond := lw_tbl.filter isNest
theorem ts_in {w : Cond} (h : w ∈ lw_tbl) (hg : goodWord w = true) : w ∈ Ts := List.mem_filter.mpr ⟨h, hg⟩
theorem tn_in {w : Cond} (h : w ∈ lw_tbl) (hg : isNest w = true) : w ∈ Tn := List.mem_filter.mpr ⟨h, hg⟩
theorem ts_good {w : Cond} (h : w ∈ Ts) : goodWord w = true := (List.mem_filter.mp h).2
def Nst (U : State) : Prop := ∀ w ∈ Tn, va_Nw w U
theorem Nst.warm {s U : State} (hW : s.WarmedH U.vm) (h : Nst s) : Nst U := by
  intro w hw
  have h1 := h w hw
  have h2 := (List.mem_filter.mp hw).2
  cases w <;> first | exact va_Nw.warmF hW h1 | exact va_Nw.warmM hW h1 | (simp [isNest] at h2)
theorem Nst.same {u U : State} (hv : u.vm = U.vm) (h : Nst u) : Nst U := by
  intro w hw
  have h1 := h w hw
  have h2 := (List.mem_filter.mp hw).2
  cases w <;> first | exact va_Nw.same rfl hv h1 | (simp [isNest] at h2)
/-- a method: its name, its code, its locals, what it returns, its room -/
abbrev MD : Type := MethodName × ByteArray × Nat × Option FieldType × Room
/-- a start: the launch, the classes' numbers and slots, the cells' addresses, the array classes -/
abbrev GG : Type := Launch × va_G × (Nat → Nat) × (Nat → ClassId)
def cv (ad : Nat → Nat) (v : Value) : Value := match v with
  | .ref k => .ref (ad k)
  | w => w
theorem cv_cat (ad : Nat → Nat) (v : Value) : (cv ad v).category = v.category := by cases v <;> rfl
def cz (g : GG) (e : va_E) : va_E := match e with
  | .inl a => .inl (g.2.2.2 a.1, a.2)
  | .inr o => .inr (o.1, o.2.map (cv g.2.2.1))
def wd (g : GG) (hp : List va_E) : va_W := hp.mapIdx (fun k e => (g.2.2.1 k, cz g e))
theorem wd_at {g : GG} {hp : List va_E} {k : Nat} {e : va_E} (h : hp[k]? = some e) : (wd g hp)[k]? = some (g.2.2.1 k, cz g e) := by
  simp [wd, List.getElem?_mapIdx, h]
theorem wd_set {g : GG} {hp : List va_E} {k : Nat} {e : va_E} : (wd g hp).set k (g.2.2.1 k, cz g e) = wd g (hp.set k e) := by
  apply List.ext_getElem?
  intro i
  simp only [wd, List.getElem?_set, List.getElem?_mapIdx, List.length_mapIdx]
  by_cases hi : k = i
  · subst hi
    by_cases hl : k < hp.length
    · simp [hl]
    · simp [hl]
  · simp [hi]
abbrev tysG (g : GG) : List (ClassId × FieldType) := [(g.2.2.2 0, .int), (g.2.2.2 1, .long)]
def nJS : Nat := 7
def lenJS : List Nat := [5, 5, 4, 4, 5, 3, 2]
def bytJS : List (List Int32) := [[112, 114, 105, 99, 101], [113, 117, 111, 116, 97], [111, 118, 101, 114], [100, 101, 98, 116], [115, 116, 97, 110, 100], [100, 117, 101], [111, 102]]
def txJS : List String := ["price", "quota", "over", "debt", "stand", "due", "of"]
def ixJS (i : Nat) : Nat := [47, 56, 61, 67, 69, 71, 86].getD i 0
/-- what stands outside the world: the literals, one static -/
def Sx (g : GG) (A : Nat → Prop) (U : State) (H : Heap) : Prop :=
  vk_S 7 lenJS bytJS (fun i => g.2.2.1 (100 + i)) (fun i => g.2.2.1 (200 + i)) A U H ∧ (∀ i, i < 7 → vk_R RX2 (ixJS i) (txJS.getD i "") (g.2.2.1 (100 + i)) U) ∧ va_Z "java/lang/String" "COMPACT_STRINGS" "Z" (.int 1) A U H
end
section
/-- what a running method knows -/
def Act (g : GG) (M : MD) (A : Nat → Prop) (p : Program) (s : State) (m : MethodId) (args : Array Value) (meth : Method) (c : Code) : Prop :=
  p.tables.exec = Jvm.exec ∧ c.code = M.2.1 ∧ c.maxLocals = M.2.2.1 ∧ s.vm.findClass M.1.cls = some m.cls ∧ (∀ w ∈ Ts, w.before args s = true) ∧ meth.sig.returnType = M.2.2.2.1 ∧ meth.locks = false ∧ va_K g.2.1 vwCl (tysG g) s ∧ Nst s ∧ Sx g A s s.heap ∧ ∀ q, s.heap.size ≤ q → A q
def Qg (g : GG) (A : Nat → Prop) (Post : Option Value → List va_E → Prop) : Array Value → State → Outcome → State → Prop := fun _ st oc t => (∃ (v : Option Value) (hp : List va_E), oc = .returned (v.map (cv g.2.2.1)) ∧ Post v hp ∧ va_P g.2.1 vwCl (wd g hp) t.heap ∧ va_K g.2.1 vwCl (tysG g) t ∧ va_D A (wd g hp)) ∧ va_F A st t
def lvc (g : GG) (lv : List (Nat × Value)) : List (Nat × Value) := lv.map (fun q => (q.1, cv g.2.2.1 q.2))
/-- from here the method comes to its end, with Post -/
def Ev (g : GG) (M : MD) (pc : Nat) (lv : List (Nat × Value)) (st : List Value) (hp : List va_E) (Post : Option Value → List va_E → Prop) : Prop :=
  ∀ (p : Program) (e : Env) (s : State) (m : MethodId) (args : Array Value) (below : List Frame) (meth : Method) (c : Code) (A : Nat → Prop) (H : Heap) (locs : List Loc) (ls : Array Slot), Act g M A p s m args meth c → va_P g.2.1 vwCl (wd g hp) H → va_D A (wd g hp) → va_S A s.heap H locs → lv_has ls M.2.2.1 (lvc g lv) →
    W p g.1 e M.2.2.2.2 s m args below meth c H locs 0 0 (MQ below (Qg g A Post) args s 0 0 A) (F0 m pc ls (st.map (cv g.2.2.1)))
def wsM (M : MD) : List Cond := Cond.code M.1 M.2.1 M.2.2.1 M.2.2.2.1 :: Ts
/-- a method's contract -/
def Ct (g : GG) (M : MD) (as : List Value) (hp : List va_E) (Post : Option Value → List va_E → Prop) : Prop :=
  ∀ sz : Nat, Met g.1 M.1 (wsM M) M.2.2.2.2 (va_Pc (as.map (cv g.2.2.1)) (fun U => U.heap.size = sz ∧ va_P g.2.1 vwCl (wd g hp) U.heap ∧ va_K g.2.1 vwCl (tysG g) U ∧ va_D (fun _ => True) (wd g hp) ∧ Nst U ∧ Sx g (va_A (wd g hp) sz) U U.heap)) (Qg g (va_A (wd g hp) sz) Post) 0 0 (va_A (wd g hp) sz)
def lvGet (lv : List (Nat × Value)) (i : Nat) : Option Value := (lv.find? (fun q => q.1 == i)).map (fun q => q.2)
def lvIns : List (Nat × Value) → Nat → Value → List (Nat × Value)
  | [], i, v => [(i, v)]
  | (j, w) :: t, i, v => if Nat.blt j i then (j, w) :: lvIns t i v else if Nat.beq j i then (i, v) :: t else (i, v) :: (j, w) :: t
def lvSt (lv : List (Nat × Value)) (i : Nat) (v : Value) : List (Nat × Value) := lvIns (lv.filter (fun q => !(q.1 == i) && (!(q.1 == i + 1) && !(q.1 + 1 == i && q.2.category == 2)))) i v
def lvSt1 (lv : List (Nat × Value)) (i : Nat) (v : Value) : List (Nat × Value) := lvIns (lv.filter (fun q => !(q.1 == i) && !(q.1 + 1 == i && q.2.category == 2))) i v
theorem lvIns_mem : ∀ (l : List (Nat × Value)) (i : Nat) (v : Value) (q : Nat × Value), q ∈ lvIns l i v → q = (i, v) ∨ q ∈ l
  | [], i, v, q, h => by simp [lvIns] at h; exact Or.inl h
  | (j, w) :: t, i, v, q, h => by
    unfold lvIns at h
    split at h
    · rcases List.mem_cons.mp h with h | h
      · exact Or.inr (by rw [h]; exact List.mem_cons_self)
      · rcases lvIns_mem t i v q h with h | h
        · exact Or.inl h
        · exact Or.inr (List.mem_cons_of_mem _ h)
    · split at h
      · rcases List.mem_cons.mp h with h | h
        · exact Or.inl h
        · exact Or.inr (List.mem_cons_of_mem _ h)
      · rcases List.mem_cons.mp h with h | h
        · exact Or.inl h
        · exact Or.inr h
theorem lv_memG {ls : Array Slot} {n : Nat} {l l' : List (Nat × Value)} (h : lv_has ls n l) (hs : ∀ q ∈ l', q ∈ l) : lv_has ls n l' := ⟨h.1, h.2.1, fun q hq => h.2.2 q (hs q hq)⟩
theorem lvGet_has {g : GG} {ls : Array Slot} {n : Nat} {lv : List (Nat × Value)} {i : Nat} {v : Value} (h : lv_has ls n (lvc g lv)) (hg : lvGet lv i = some v) : ls[i]? = some (.val (cv g.2.2.1 v)) := by
  unfold lvGet at hg
  cases hf : lv.find? (fun q => q.1 == i) with
  | none => rw [hf] at hg; cases hg
  | some q =>
    rw [hf] at hg
    have h1 := List.mem_of_find?_eq_some hf
    have h2 := List.find?_some hf
    have h3 : q.2 = v := Option.some.inj hg
    have h4 : q.1 = i := by simpa using h2
    have h5 := h.2.2 (q.1, cv g.2.2.1 q.2) (List.mem_map.mpr ⟨q, h1, rfl⟩)
    rw [h3, h4] at h5
    exact h5
theorem lvc_st1 {g : GG} {lv : List (Nat × Value)} {i : Nat} {v : Value} : ∀ q ∈ lvc g (lvSt1 lv i v), q ∈ (i, cv g.2.2.1 v) :: (lvc g lv).filter (fun q => !(q.1 == i) && !(q.1 + 1 == i && q.2.category == 2)) := by
  intro q hq
  obtain ⟨r, hr, rfl⟩ := List.mem_map.mp hq
  rcases lvIns_mem _ _ _ _ hr with h | h
  · rw [h]; exact List.mem_cons_self
  · obtain ⟨h1, h2⟩ := List.mem_filter.mp h
    refine List.mem_cons_of_mem _ (List.mem_filter.mpr ⟨List.mem_map.mpr ⟨r, h1, rfl⟩, ?_⟩)
    rw [cv_cat]
    exact h2
theorem lvc_st2 {g : GG} {lv : List (Nat × Value)} {i : Nat} {v : Value} : ∀ q ∈ lvc g (lvSt lv i v), q ∈ (i, cv g.2.2.1 v) :: (lvc g lv).filter (fun q => !(q.1 == i) && (!(q.1 == i + 1) && !(q.1 + 1 == i && q.2.category == 2))) := by
  intro q hq
  obtain ⟨r, hr, rfl⟩ := List.mem_map.mp hq
  rcases lvIns_mem _ _ _ _ hr with h | h
  · rw [h]; exact List.mem_cons_self
  · obtain ⟨h1, h2⟩ := List.mem_filter.mp h
    refine List.mem_cons_of_mem _ (List.mem_filter.mpr ⟨List.mem_map.mpr ⟨r, h1, rfl⟩, ?_⟩)
    rw [cv_cat]
    exact h2
section EVR
variable {g : GG} {M : MD} {pc : Nat} {lv : List (Nat × Value)} {st : List Value} {hp : List va_E} {Post : Option Value → List va_E → Prop}
theorem ev_post {Post' : Option Value → List va_E → Prop} (h : ∀ v q, Post' v q → Post v q) (k : Ev g M pc lv st hp Post') : Ev g M pc lv st hp Post := by
  intro p e s m args below meth c A H locs ls hA hP hD hS hl T hT X
  obtain ⟨t, a, o, b1, b2, ⟨⟨v, q, c1, c2, c3⟩, c4⟩, b4⟩ := k p e s m args below meth c A H locs ls hA hP hD hS hl T hT X
  exact ⟨t, a, o, b1, b2, ⟨⟨v, q, c1, h v q c2, c3⟩, c4⟩, b4⟩
theorem ev_lv {lv' : List (Nat × Value)} (h : ∀ q ∈ lv', q ∈ lv) (k : Ev g M pc lv' st hp Post) : Ev g M pc lv st hp Post := by
  intro p e s m args below meth c A H locs ls hA hP hD hS hl
  exact k p e s m args below meth c A H locs ls hA hP hD hS (lv_memG hl (fun q hq => by obtain ⟨r, hr, rfl⟩ := List.mem_map.mp hq; exact List.mem_map.mpr ⟨r, h r hr, rfl⟩))

theorem ev_iadd {x y : Int32} (d : decode M.2.1 pc = .ok (.iadd, 1)) (k : Ev g M (pc + 1) lv (.int (x + y) :: st) hp Post) : Ev g M pc lv (.int y :: .int x :: st) hp Post := by
  intro p e s m args below meth c A H locs ls hA hP hD hS hl
  exact lv_iadd hA.1 hA.2.1 d (k p e s m args below meth c A H locs ls hA hP hD hS hl)
theorem ev_isub {x y : Int32} (d : decode M.2.1 pc = .ok (.isub, 1)) (k : Ev g M (pc + 1) lv (.int (x - y) :: st) hp Post) : Ev g M pc lv (.int y :: .int x :: st) hp Post := by
  intro p e s m args below meth c A H locs ls hA hP hD hS hl
  exact lv_isub hA.1 hA.2.1 d (k p e s m args below meth c A H locs ls hA hP hD hS hl)
theorem ev_imul {x y : Int32} (d : decode M.2.1 pc = .ok (.imul, 1)) (k : Ev g M (pc + 1) lv (.int (x * y) :: st) hp Post) : Ev g M pc lv (.int y :: .int x :: st) hp Post := by
  intro p e s m args below meth c A H locs ls hA hP hD hS hl
  exact lv_imul hA.1 hA.2.1 d (k p e s m args below meth c A H locs ls hA hP hD hS hl)
theorem ev_iand {x y : Int32} (d : decode M.2.1 pc = .ok (.iand, 1)) (k : Ev g M (pc + 1) lv (.int (x &&& y) :: st) hp Post) : Ev g M pc lv (.int y :: .int x :: st) hp Post := by
  intro p e s m args below meth c A H locs ls hA hP hD hS hl
  exact lv_iand hA.1 hA.2.1 d (k p e s m args below meth c A H locs ls hA hP hD hS hl)
theorem ev_ior {x y : Int32} (d : decode M.2.1 pc = .ok (.ior, 1)) (k : Ev g M (pc + 1) lv (.int (x ||| y) :: st) hp Post) : Ev g M pc lv (.int y :: .int x :: st) hp Post := by
  intro p e s m args below meth c A H locs ls hA hP hD hS hl
  exact lv_ior hA.1 hA.2.1 d (k p e s m args below meth c A H locs ls hA hP hD hS hl)
theorem ev_ishl {x y : Int32} (d : decode M.2.1 pc = .ok (.ishl, 1)) (k : Ev g M (pc + 1) lv (.int (x <<< (y &&& 31)) :: st) hp Post) : Ev g M pc lv (.int y :: .int x :: st) hp Post := by
  intro p e s m args below meth c A H locs ls hA hP hD hS hl
  exact lv_ishl hA.1 hA.2.1 d (k p e s m args below meth c A H locs ls hA hP hD hS hl)
theorem ev_ishr {x y : Int32} (d : decode M.2.1 pc = .ok (.ishr, 1)) (k : Ev g M (pc + 1) lv (.int (x >>> (y &&& 31)) :: st) hp Post) : Ev g M pc lv (.int y :: .int x :: st) hp Post := by
  intro p e s m args below meth c A H locs ls hA hP hD hS hl
  exact lv_ishr hA.1 hA.2.1 d (k p e s m args below meth c A H locs ls hA hP hD hS hl)
theorem ev_ladd {x y : Int64} (d : decode M.2.1 pc = .ok (.ladd, 1)) (k : Ev g M (pc + 1) lv (.long (x + y) :: st) hp Post) : Ev g M pc lv (.long y :: .long x :: st) hp Post := by
  intro p e s m args below meth c A H locs ls hA hP hD hS hl
  exact lv_ladd hA.1 hA.2.1 d (k p e s m args below meth c A H locs ls hA hP hD hS hl)
theorem ev_lsub {x y : Int64} (d : decode M.2.1 pc = .ok (.lsub, 1)) (k : Ev g M (pc + 1) lv (.long (x - y) :: st) hp Post) : Ev g M pc lv (.long y :: .long x :: st) hp Post := by
  intro p e s m args below meth c A H locs ls hA hP hD hS hl
  exact lv_lsub hA.1 hA.2.1 d (k p e s m args below meth c A H locs ls hA hP hD hS hl)
theorem ev_lmul {x y : Int64} (d : decode M.2.1 pc = .ok (.lmul, 1)) (k : Ev g M (pc + 1) lv (.long (x * y) :: st) hp Post) : Ev g M pc lv (.long y :: .long x :: st) hp Post := by
  intro p e s m args below meth c A H locs ls hA hP hD hS hl
  exact lv_lmul hA.1 hA.2.1 d (k p e s m args below meth c A H locs ls hA hP hD hS hl)
theorem ev_ldiv {x y : Int64} (d : decode M.2.1 pc = .ok (.ldiv, 1)) (h : ¬ y = 0) (k : Ev g M (pc + 1) lv (.long (x / y) :: st) hp Post) : Ev g M pc lv (.long y :: .long x :: st) hp Post := by
  intro p e s m args below meth c A H locs ls hA hP hD hS hl
  exact lv_ldiv hA.1 hA.2.1 d h (k p e s m args below meth c A H locs ls hA hP hD hS hl)
theorem ev_ineg {x : Int32} (d : decode M.2.1 pc = .ok (.ineg, 1)) (k : Ev g M (pc + 1) lv (.int (-x) :: st) hp Post) : Ev g M pc lv (.int x :: st) hp Post := by
  intro p e s m args below meth c A H locs ls hA hP hD hS hl
  exact lv_ineg hA.1 hA.2.1 d (k p e s m args below meth c A H locs ls hA hP hD hS hl)
theorem ev_i2l {x : Int32} (d : decode M.2.1 pc = .ok (.i2l, 1)) (k : Ev g M (pc + 1) lv (.long x.toInt64 :: st) hp Post) : Ev g M pc lv (.int x :: st) hp Post := by
  intro p e s m args below meth c A H locs ls hA hP hD hS hl
  exact lv_i2l hA.1 hA.2.1 d rfl (k p e s m args below meth c A H locs ls hA hP hD hS hl)
theorem ev_l2i {x : Int64} (d : decode M.2.1 pc = .ok (.l2i, 1)) (k : Ev g M (pc + 1) lv (.int x.toInt32 :: st) hp Post) : Ev g M pc lv (.long x :: st) hp Post := by
  intro p e s m args below meth c A H locs ls hA hP hD hS hl
  exact lv_l2i hA.1 hA.2.1 d rfl (k p e s m args below meth c A H locs ls hA hP hD hS hl)
theorem ev_i2c {x : Int32} (d : decode M.2.1 pc = .ok (.i2c, 1)) (k : Ev g M (pc + 1) lv (.int (x.toUInt32 % 65536).toInt32 :: st) hp Post) : Ev g M pc lv (.int x :: st) hp Post := by
  intro p e s m args below meth c A H locs ls hA hP hD hS hl
  exact lv_i2c hA.1 hA.2.1 d rfl (k p e s m args below meth c A H locs ls hA hP hD hS hl)
theorem ev_iushr {x y : Int32} (d : decode M.2.1 pc = .ok (.iushr, 1)) (k : Ev g M (pc + 1) lv (.int (x.toUInt32 >>> (y.toUInt32 &&& Int32.toUInt32 31)).toInt32 :: st) hp Post) : Ev g M pc lv (.int y :: .int x :: st) hp Post := by
  intro p e s m args below meth c A H locs ls hA hP hD hS hl
  exact lv_iushr hA.1 hA.2.1 d rfl (k p e s m args below meth c A H locs ls hA hP hD hS hl)
theorem ev_lshr {x : Int64} {y : Int32} (d : decode M.2.1 pc = .ok (.lshr, 1)) (k : Ev g M (pc + 1) lv (.long (x >>> (y.toInt64 &&& 63)) :: st) hp Post) : Ev g M pc lv (.int y :: .long x :: st) hp Post := by
  intro p e s m args below meth c A H locs ls hA hP hD hS hl
  exact lv_lshr hA.1 hA.2.1 d rfl (k p e s m args below meth c A H locs ls hA hP hD hS hl)
theorem ev_lcmp {x y : Int64} (d : decode M.2.1 pc = .ok (.lcmp, 1)) (k : Ev g M (pc + 1) lv (.int (lg_cmp x y) :: st) hp Post) : Ev g M pc lv (.long y :: .long x :: st) hp Post := by
  intro p e s m args below meth c A H locs ls hA hP hD hS hl
  exact W.lcmp hA.1 hA.2.1 d (k p e s m args below meth c A H locs ls hA hP hD hS hl)
theorem ev_iconst {n : Int} {v : Int32} (d : decode M.2.1 pc = .ok (.iconst n, 1)) (h : Int32.ofInt n = v) (k : Ev g M (pc + 1) lv (.int v :: st) hp Post) : Ev g M pc lv (st) hp Post := by
  intro p e s m args below meth c A H locs ls hA hP hD hS hl
  exact lv_iconst hA.1 hA.2.1 d h (k p e s m args below meth c A H locs ls hA hP hD hS hl)
theorem ev_bipush {n : Int} {v : Int32} (d : decode M.2.1 pc = .ok (.bipush n, 2)) (h : (Int8.ofInt n).toInt32 = v) (k : Ev g M (pc + 2) lv (.int v :: st) hp Post) : Ev g M pc lv (st) hp Post := by
  intro p e s m args below meth c A H locs ls hA hP hD hS hl
  exact lv_bipush hA.1 hA.2.1 d h (k p e s m args below meth c A H locs ls hA hP hD hS hl)
theorem ev_sipush {n : Int} {v : Int32} (d : decode M.2.1 pc = .ok (.sipush n, 3)) (h : (Int16.ofInt n).toInt32 = v) (k : Ev g M (pc + 3) lv (.int v :: st) hp Post) : Ev g M pc lv (st) hp Post := by
  intro p e s m args below meth c A H locs ls hA hP hD hS hl
  exact lv_sipush hA.1 hA.2.1 d h (k p e s m args below meth c A H locs ls hA hP hD hS hl)
theorem ev_lconst {n : Fin 2} {v : Int64} (d : decode M.2.1 pc = .ok (.lconst n, 1)) (h : Int64.ofNat (n : Nat) = v) (k : Ev g M (pc + 1) lv (.long v :: st) hp Post) : Ev g M pc lv (st) hp Post := by
  intro p e s m args below meth c A H locs ls hA hP hD hS hl
  exact lv_lconst hA.1 hA.2.1 d h (k p e s m args below meth c A H locs ls hA hP hD hS hl)
theorem ev_ldc {i : Nat} {v : Int32} (d : decode M.2.1 pc = .ok (.ldc i, 2)) (h : Cond.constant M.1.cls i v ∈ Ts) (k : Ev g M (pc + 2) lv (.int v :: st) hp Post) : Ev g M pc lv st hp Post := by
  intro p e s m args below meth c A H locs ls hA hP hD hS hl
  exact lv_ldc hA.1 hA.2.1 hA.2.2.2.1 (hA.2.2.2.2.1 _ h) d (k p e s m args below meth c A H locs ls hA hP hD hS hl)
theorem ev_ldcw {i : Nat} {v : Int32} (d : decode M.2.1 pc = .ok (.ldc_w i, 3)) (h : Cond.constant M.1.cls i v ∈ Ts) (k : Ev g M (pc + 3) lv (.int v :: st) hp Post) : Ev g M pc lv st hp Post := by
  intro p e s m args below meth c A H locs ls hA hP hD hS hl
  exact lv_ldcw hA.1 hA.2.1 hA.2.2.2.1 (hA.2.2.2.2.1 _ h) d (k p e s m args below meth c A H locs ls hA hP hD hS hl)
theorem ev_ldc2 {i : Nat} {v : Int64} (d : decode M.2.1 pc = .ok (.ldc2_w i, 3)) (h : Cond.constantLong M.1.cls i v ∈ Ts) (k : Ev g M (pc + 3) lv (.long v :: st) hp Post) : Ev g M pc lv st hp Post := by
  intro p e s m args below meth c A H locs ls hA hP hD hS hl
  exact lv_ldc2 hA.1 hA.2.1 hA.2.2.2.1 (hA.2.2.2.2.1 _ h) d (k p e s m args below meth c A H locs ls hA hP hD hS hl)
theorem ev_iload_n {k : Fin 4} {x : Int32} (d : decode M.2.1 pc = .ok (.iload_n k, 1)) (h : lvGet lv k.1 = some (.int x)) (kk : Ev g M (pc + 1) lv (.int x :: st) hp Post) : Ev g M pc lv st hp Post := by
  intro p e s m args below meth c A H locs ls hA hP hD hS hl
  exact lv_iload_n hA.1 hA.2.1 d rfl (lvGet_has hl h) (kk p e s m args below meth c A H locs ls hA hP hD hS hl)
theorem ev_iload {i : Nat} {x : Int32} (d : decode M.2.1 pc = .ok (.iload i, 2)) (h : lvGet lv i = some (.int x)) (kk : Ev g M (pc + 2) lv (.int x :: st) hp Post) : Ev g M pc lv st hp Post := by
  intro p e s m args below meth c A H locs ls hA hP hD hS hl
  exact lv_iload hA.1 hA.2.1 d (lvGet_has hl h) (kk p e s m args below meth c A H locs ls hA hP hD hS hl)
theorem ev_istore_n {k : Fin 4} {x : Int32} {lv' : List (Nat × Value)} (d : decode M.2.1 pc = .ok (.istore_n k, 1)) (hn : k.1 < M.2.2.1) (h : lvSt1 lv k.1 (.int x) = lv') (kk : Ev g M (pc + 1) lv' st hp Post) : Ev g M pc lv (.int x :: st) hp Post := by
  intro p e s m args below meth c A H locs ls hA hP hD hS hl
  subst h
  exact lv_istore_n hA.1 hA.2.1 d rfl hl hn rfl (fun ls' hl' => kk p e s m args below meth c A H locs ls' hA hP hD hS (lv_memG hl' lvc_st1))
theorem ev_istore {i : Nat} {x : Int32} {lv' : List (Nat × Value)} (d : decode M.2.1 pc = .ok (.istore i, 2)) (hn : i < M.2.2.1) (h : lvSt1 lv i (.int x) = lv') (kk : Ev g M (pc + 2) lv' st hp Post) : Ev g M pc lv (.int x :: st) hp Post := by
  intro p e s m args below meth c A H locs ls hA hP hD hS hl
  subst h
  exact lv_istore hA.1 hA.2.1 d hl hn rfl (fun ls' hl' => kk p e s m args below meth c A H locs ls' hA hP hD hS (lv_memG hl' lvc_st1))
theorem ev_lload_n {k : Fin 4} {x : Int64} (d : decode M.2.1 pc = .ok (.lload_n k, 1)) (h : lvGet lv k.1 = some (.long x)) (kk : Ev g M (pc + 1) lv (.long x :: st) hp Post) : Ev g M pc lv st hp Post := by
  intro p e s m args below meth c A H locs ls hA hP hD hS hl
  exact lv_lload_n hA.1 hA.2.1 d rfl (lvGet_has hl h) (kk p e s m args below meth c A H locs ls hA hP hD hS hl)
theorem ev_lload {i : Nat} {x : Int64} (d : decode M.2.1 pc = .ok (.lload i, 2)) (h : lvGet lv i = some (.long x)) (kk : Ev g M (pc + 2) lv (.long x :: st) hp Post) : Ev g M pc lv st hp Post := by
  intro p e s m args below meth c A H locs ls hA hP hD hS hl
  exact lv_lload hA.1 hA.2.1 d (lvGet_has hl h) (kk p e s m args below meth c A H locs ls hA hP hD hS hl)
theorem ev_lstore_n {k : Fin 4} {x : Int64} {lv' : List (Nat × Value)} (d : decode M.2.1 pc = .ok (.lstore_n k, 1)) (hn : k.1 + 1 < M.2.2.1) (h : lvSt lv k.1 (.long x) = lv') (kk : Ev g M (pc + 1) lv' st hp Post) : Ev g M pc lv (.long x :: st) hp Post := by
  intro p e s m args below meth c A H locs ls hA hP hD hS hl
  subst h
  exact lv_lstore_n hA.1 hA.2.1 d rfl hl hn rfl (fun ls' hl' => kk p e s m args below meth c A H locs ls' hA hP hD hS (lv_memG hl' lvc_st2))
theorem ev_lstore {i : Nat} {x : Int64} {lv' : List (Nat × Value)} (d : decode M.2.1 pc = .ok (.lstore i, 2)) (hn : i + 1 < M.2.2.1) (h : lvSt lv i (.long x) = lv') (kk : Ev g M (pc + 2) lv' st hp Post) : Ev g M pc lv (.long x :: st) hp Post := by
  intro p e s m args below meth c A H locs ls hA hP hD hS hl
  subst h
  exact lv_lstore hA.1 hA.2.1 d hl hn rfl (fun ls' hl' => kk p e s m args below meth c A H locs ls' hA hP hD hS (lv_memG hl' lvc_st2))
theorem ev_aload_n {k : Fin 4} {x : Nat} (d : decode M.2.1 pc = .ok (.aload_n k, 1)) (h : lvGet lv k.1 = some (.ref x)) (kk : Ev g M (pc + 1) lv (.ref x :: st) hp Post) : Ev g M pc lv st hp Post := by
  intro p e s m args below meth c A H locs ls hA hP hD hS hl
  exact lv_aload_n hA.1 hA.2.1 d rfl (lvGet_has hl h) (kk p e s m args below meth c A H locs ls hA hP hD hS hl)
theorem ev_aload {i : Nat} {x : Nat} (d : decode M.2.1 pc = .ok (.aload i, 2)) (h : lvGet lv i = some (.ref x)) (kk : Ev g M (pc + 2) lv (.ref x :: st) hp Post) : Ev g M pc lv st hp Post := by
  intro p e s m args below meth c A H locs ls hA hP hD hS hl
  exact lv_aload hA.1 hA.2.1 d (lvGet_has hl h) (kk p e s m args below meth c A H locs ls hA hP hD hS hl)
theorem ev_astore_n {k : Fin 4} {x : Nat} {lv' : List (Nat × Value)} (d : decode M.2.1 pc = .ok (.astore_n k, 1)) (hn : k.1 < M.2.2.1) (h : lvSt1 lv k.1 (.ref x) = lv') (kk : Ev g M (pc + 1) lv' st hp Post) : Ev g M pc lv (.ref x :: st) hp Post := by
  intro p e s m args below meth c A H locs ls hA hP hD hS hl
  subst h
  exact lv_astore_n hA.1 hA.2.1 d rfl hl hn rfl (fun ls' hl' => kk p e s m args below meth c A H locs ls' hA hP hD hS (lv_memG hl' lvc_st1))
theorem ev_astore {i : Nat} {x : Nat} {lv' : List (Nat × Value)} (d : decode M.2.1 pc = .ok (.astore i, 2)) (hn : i < M.2.2.1) (h : lvSt1 lv i (.ref x) = lv') (kk : Ev g M (pc + 2) lv' st hp Post) : Ev g M pc lv (.ref x :: st) hp Post := by
  intro p e s m args below meth c A H locs ls hA hP hD hS hl
  subst h
  exact lv_astore hA.1 hA.2.1 d hl hn rfl (fun ls' hl' => kk p e s m args below meth c A H locs ls' hA hP hD hS (lv_memG hl' lvc_st1))
theorem lvc_get {lv : List (Nat × Value)} {i : Nat} {v : Value} (hg : lvGet lv i = some v) : ∃ k : Nat, (lvc g lv)[k]? = some (i, cv g.2.2.1 v) := by
  unfold lvGet at hg
  cases hf : lv.find? (fun q => q.1 == i) with
  | none => rw [hf] at hg; cases hg
  | some q =>
    rw [hf] at hg
    have h1 := List.mem_of_find?_eq_some hf
    have h2 := List.find?_some hf
    have h3 : q.2 = v := Option.some.inj hg
    have h4 : q.1 = i := by simpa using h2
    have h5 : (i, cv g.2.2.1 v) ∈ lvc g lv := List.mem_map.mpr ⟨q, h1, by rw [h3, h4]⟩
    exact List.getElem?_of_mem h5
theorem ev_iinc {i : Nat} {n : Int} {x : Int32} {lv' : List (Nat × Value)} (d : decode M.2.1 pc = .ok (.iinc i n, 3)) (hx : lvGet lv i = some (.int x)) (hn : i < M.2.2.1) (h : lvSt1 lv i (.int (x + Int32.ofInt n)) = lv') (kk : Ev g M (pc + 3) lv' st hp Post) : Ev g M pc lv st hp Post := by
  intro p e s m args below meth c A H locs ls hA hP hD hS hl
  subst h
  obtain ⟨k, hk⟩ := lvc_get (g := g) hx
  exact lv_iinc hA.1 hA.2.1 d hl hk rfl hn rfl (fun ls' hl' => kk p e s m args below meth c A H locs ls' hA hP hD hS (lv_memG hl' lvc_st1))
theorem ev_dup {v : Value} (d : decode M.2.1 pc = .ok (.dup, 1)) (h : v.category = 1) (k : Ev g M (pc + 1) lv (v :: v :: st) hp Post) : Ev g M pc lv (v :: st) hp Post := by
  intro p e s m args below meth c A H locs ls hA hP hD hS hl
  exact lv_dup hA.1 hA.2.1 d ((cv_cat _ _).trans h) (k p e s m args below meth c A H locs ls hA hP hD hS hl)
theorem ev_pop {v : Value} (d : decode M.2.1 pc = .ok (.pop, 1)) (h : v.category = 1) (k : Ev g M (pc + 1) lv st hp Post) : Ev g M pc lv (v :: st) hp Post := by
  intro p e s m args below meth c A H locs ls hA hP hD hS hl
  exact lv_pop hA.1 hA.2.1 d ((cv_cat _ _).trans h) (k p e s m args below meth c A H locs ls hA hP hD hS hl)
theorem ev_dup2 {v u : Value} (d : decode M.2.1 pc = .ok (.dup2, 1)) (h : v.category = 1) (h2 : u.category = 1) (k : Ev g M (pc + 1) lv (v :: u :: v :: u :: st) hp Post) : Ev g M pc lv (v :: u :: st) hp Post := by
  intro p e s m args below meth c A H locs ls hA hP hD hS hl
  exact lv_dup2_11 hA.1 hA.2.1 d ((cv_cat _ _).trans h) ((cv_cat _ _).trans h2) (k p e s m args below meth c A H locs ls hA hP hD hS hl)
theorem ev_if_eq {x : Int32} {off : Int} {tgt : Nat} (d : decode M.2.1 pc = .ok (.ifCond .eq off, 3)) (ht : (pc : Int) + off = (tgt : Int)) (kt : x = 0 → Ev g M tgt lv st hp Post) (kf : ¬ (x = 0) → Ev g M (pc + 3) lv st hp Post) : Ev g M pc lv (.int x :: st) hp Post := by
  intro p e s m args below meth c A H locs ls hA hP hD hS hl
  exact lv_if_eq hA.1 hA.2.1 d ht (fun q => kt q p e s m args below meth c A H locs ls hA hP hD hS hl) (fun q => kf q p e s m args below meth c A H locs ls hA hP hD hS hl)
theorem ev_icmp_eq {x y : Int32} {off : Int} {tgt : Nat} (d : decode M.2.1 pc = .ok (.if_icmp .eq off, 3)) (ht : (pc : Int) + off = (tgt : Int)) (kt : x = y → Ev g M tgt lv st hp Post) (kf : ¬ (x = y) → Ev g M (pc + 3) lv st hp Post) : Ev g M pc lv (.int y :: .int x :: st) hp Post := by
  intro p e s m args below meth c A H locs ls hA hP hD hS hl
  exact lv_icmp_eq hA.1 hA.2.1 d ht (fun q => kt q p e s m args below meth c A H locs ls hA hP hD hS hl) (fun q => kf q p e s m args below meth c A H locs ls hA hP hD hS hl)
theorem ev_if_ne {x : Int32} {off : Int} {tgt : Nat} (d : decode M.2.1 pc = .ok (.ifCond .ne off, 3)) (ht : (pc : Int) + off = (tgt : Int)) (kt : ¬ x = 0 → Ev g M tgt lv st hp Post) (kf : x = 0 → Ev g M (pc + 3) lv st hp Post) : Ev g M pc lv (.int x :: st) hp Post := by
  intro p e s m args below meth c A H locs ls hA hP hD hS hl
  exact lv_if_ne hA.1 hA.2.1 d ht (fun q => kt q p e s m args below meth c A H locs ls hA hP hD hS hl) (fun q => kf q p e s m args below meth c A H locs ls hA hP hD hS hl)
theorem ev_icmp_ne {x y : Int32} {off : Int} {tgt : Nat} (d : decode M.2.1 pc = .ok (.if_icmp .ne off, 3)) (ht : (pc : Int) + off = (tgt : Int)) (kt : ¬ x = y → Ev g M tgt lv st hp Post) (kf : x = y → Ev g M (pc + 3) lv st hp Post) : Ev g M pc lv (.int y :: .int x :: st) hp Post := by
  intro p e s m args below meth c A H locs ls hA hP hD hS hl
  exact lv_icmp_ne hA.1 hA.2.1 d ht (fun q => kt q p e s m args below meth c A H locs ls hA hP hD hS hl) (fun q => kf q p e s m args below meth c A H locs ls hA hP hD hS hl)
theorem ev_if_lt {x : Int32} {off : Int} {tgt : Nat} (d : decode M.2.1 pc = .ok (.ifCond .lt off, 3)) (ht : (pc : Int) + off = (tgt : Int)) (kt : x < 0 → Ev g M tgt lv st hp Post) (kf : ¬ (x < 0) → Ev g M (pc + 3) lv st hp Post) : Ev g M pc lv (.int x :: st) hp Post := by
  intro p e s m args below meth c A H locs ls hA hP hD hS hl
  exact lv_if_lt hA.1 hA.2.1 d ht (fun q => kt q p e s m args below meth c A H locs ls hA hP hD hS hl) (fun q => kf q p e s m args below meth c A H locs ls hA hP hD hS hl)
theorem ev_icmp_lt {x y : Int32} {off : Int} {tgt : Nat} (d : decode M.2.1 pc = .ok (.if_icmp .lt off, 3)) (ht : (pc : Int) + off = (tgt : Int)) (kt : x < y → Ev g M tgt lv st hp Post) (kf : ¬ (x < y) → Ev g M (pc + 3) lv st hp Post) : Ev g M pc lv (.int y :: .int x :: st) hp Post := by
  intro p e s m args below meth c A H locs ls hA hP hD hS hl
  exact lv_icmp_lt hA.1 hA.2.1 d ht (fun q => kt q p e s m args below meth c A H locs ls hA hP hD hS hl) (fun q => kf q p e s m args below meth c A H locs ls hA hP hD hS hl)
theorem ev_if_ge {x : Int32} {off : Int} {tgt : Nat} (d : decode M.2.1 pc = .ok (.ifCond .ge off, 3)) (ht : (pc : Int) + off = (tgt : Int)) (kt : 0 ≤ x → Ev g M tgt lv st hp Post) (kf : ¬ (0 ≤ x) → Ev g M (pc + 3) lv st hp Post) : Ev g M pc lv (.int x :: st) hp Post := by
  intro p e s m args below meth c A H locs ls hA hP hD hS hl
  exact lv_if_ge hA.1 hA.2.1 d ht (fun q => kt q p e s m args below meth c A H locs ls hA hP hD hS hl) (fun q => kf q p e s m args below meth c A H locs ls hA hP hD hS hl)
theorem ev_icmp_ge {x y : Int32} {off : Int} {tgt : Nat} (d : decode M.2.1 pc = .ok (.if_icmp .ge off, 3)) (ht : (pc : Int) + off = (tgt : Int)) (kt : y ≤ x → Ev g M tgt lv st hp Post) (kf : ¬ (y ≤ x) → Ev g M (pc + 3) lv st hp Post) : Ev g M pc lv (.int y :: .int x :: st) hp Post := by
  intro p e s m args below meth c A H locs ls hA hP hD hS hl
  exact lv_icmp_ge hA.1 hA.2.1 d ht (fun q => kt q p e s m args below meth c A H locs ls hA hP hD hS hl) (fun q => kf q p e s m args below meth c A H locs ls hA hP hD hS hl)
theorem ev_if_gt {x : Int32} {off : Int} {tgt : Nat} (d : decode M.2.1 pc = .ok (.ifCond .gt off, 3)) (ht : (pc : Int) + off = (tgt : Int)) (kt : 0 < x → Ev g M tgt lv st hp Post) (kf : ¬ (0 < x) → Ev g M (pc + 3) lv st hp Post) : Ev g M pc lv (.int x :: st) hp Post := by
  intro p e s m args below meth c A H locs ls hA hP hD hS hl
  exact lv_if_gt hA.1 hA.2.1 d ht (fun q => kt q p e s m args below meth c A H locs ls hA hP hD hS hl) (fun q => kf q p e s m args below meth c A H locs ls hA hP hD hS hl)
theorem ev_icmp_gt {x y : Int32} {off : Int} {tgt : Nat} (d : decode M.2.1 pc = .ok (.if_icmp .gt off, 3)) (ht : (pc : Int) + off = (tgt : Int)) (kt : y < x → Ev g M tgt lv st hp Post) (kf : ¬ (y < x) → Ev g M (pc + 3) lv st hp Post) : Ev g M pc lv (.int y :: .int x :: st) hp Post := by
  intro p e s m args below meth c A H locs ls hA hP hD hS hl
  exact lv_icmp_gt hA.1 hA.2.1 d ht (fun q => kt q p e s m args below meth c A H locs ls hA hP hD hS hl) (fun q => kf q p e s m args below meth c A H locs ls hA hP hD hS hl)
theorem ev_if_le {x : Int32} {off : Int} {tgt : Nat} (d : decode M.2.1 pc = .ok (.ifCond .le off, 3)) (ht : (pc : Int) + off = (tgt : Int)) (kt : x ≤ 0 → Ev g M tgt lv st hp Post) (kf : ¬ (x ≤ 0) → Ev g M (pc + 3) lv st hp Post) : Ev g M pc lv (.int x :: st) hp Post := by
  intro p e s m args below meth c A H locs ls hA hP hD hS hl
  exact lv_if_le hA.1 hA.2.1 d ht (fun q => kt q p e s m args below meth c A H locs ls hA hP hD hS hl) (fun q => kf q p e s m args below meth c A H locs ls hA hP hD hS hl)
theorem ev_icmp_le {x y : Int32} {off : Int} {tgt : Nat} (d : decode M.2.1 pc = .ok (.if_icmp .le off, 3)) (ht : (pc : Int) + off = (tgt : Int)) (kt : x ≤ y → Ev g M tgt lv st hp Post) (kf : ¬ (x ≤ y) → Ev g M (pc + 3) lv st hp Post) : Ev g M pc lv (.int y :: .int x :: st) hp Post := by
  intro p e s m args below meth c A H locs ls hA hP hD hS hl
  exact lv_icmp_le hA.1 hA.2.1 d ht (fun q => kt q p e s m args below meth c A H locs ls hA hP hD hS hl) (fun q => kf q p e s m args below meth c A H locs ls hA hP hD hS hl)
theorem ev_lcmp_eq {x y : Int64} {off : Int} {tgt : Nat} (d0 : decode M.2.1 pc = .ok (.lcmp, 1)) (d : decode M.2.1 (pc + 1) = .ok (.ifCond .eq off, 3)) (ht : ((pc + 1 : Nat) : Int) + off = (tgt : Int)) (kt : x = y → Ev g M tgt lv st hp Post) (kf : ¬ (x = y) → Ev g M (pc + 1 + 3) lv st hp Post) : Ev g M pc lv (.long y :: .long x :: st) hp Post := ev_lcmp d0 (ev_if_eq d ht (fun q => kt ((lg_cmp_eq x y).mp q)) (fun q => kf (fun z => q ((lg_cmp_eq x y).mpr z))))
theorem ev_lcmp_ne {x y : Int64} {off : Int} {tgt : Nat} (d0 : decode M.2.1 pc = .ok (.lcmp, 1)) (d : decode M.2.1 (pc + 1) = .ok (.ifCond .ne off, 3)) (ht : ((pc + 1 : Nat) : Int) + off = (tgt : Int)) (kt : ¬ x = y → Ev g M tgt lv st hp Post) (kf : x = y → Ev g M (pc + 1 + 3) lv st hp Post) : Ev g M pc lv (.long y :: .long x :: st) hp Post := ev_lcmp d0 (ev_if_ne d ht (fun q => kt ((not_congr (lg_cmp_eq x y)).mp q)) (fun q => kf ((lg_cmp_eq x y).mp q)))
theorem ev_lcmp_lt {x y : Int64} {off : Int} {tgt : Nat} (d0 : decode M.2.1 pc = .ok (.lcmp, 1)) (d : decode M.2.1 (pc + 1) = .ok (.ifCond .lt off, 3)) (ht : ((pc + 1 : Nat) : Int) + off = (tgt : Int)) (kt : x < y → Ev g M tgt lv st hp Post) (kf : ¬ (x < y) → Ev g M (pc + 1 + 3) lv st hp Post) : Ev g M pc lv (.long y :: .long x :: st) hp Post := ev_lcmp d0 (ev_if_lt d ht (fun q => kt ((lg_cmp_lt x y).mp q)) (fun q => kf (fun z => q ((lg_cmp_lt x y).mpr z))))
theorem ev_lcmp_ge {x y : Int64} {off : Int} {tgt : Nat} (d0 : decode M.2.1 pc = .ok (.lcmp, 1)) (d : decode M.2.1 (pc + 1) = .ok (.ifCond .ge off, 3)) (ht : ((pc + 1 : Nat) : Int) + off = (tgt : Int)) (kt : y ≤ x → Ev g M tgt lv st hp Post) (kf : ¬ (y ≤ x) → Ev g M (pc + 1 + 3) lv st hp Post) : Ev g M pc lv (.long y :: .long x :: st) hp Post := ev_lcmp d0 (ev_if_ge d ht (fun q => kt ((lg_cmp_ge x y).mp q)) (fun q => kf (fun z => q ((lg_cmp_ge x y).mpr z))))
theorem ev_lcmp_gt {x y : Int64} {off : Int} {tgt : Nat} (d0 : decode M.2.1 pc = .ok (.lcmp, 1)) (d : decode M.2.1 (pc + 1) = .ok (.ifCond .gt off, 3)) (ht : ((pc + 1 : Nat) : Int) + off = (tgt : Int)) (kt : y < x → Ev g M tgt lv st hp Post) (kf : ¬ (y < x) → Ev g M (pc + 1 + 3) lv st hp Post) : Ev g M pc lv (.long y :: .long x :: st) hp Post := ev_lcmp d0 (ev_if_gt d ht (fun q => kt ((lg_cmp_gt x y).mp q)) (fun q => kf (fun z => q ((lg_cmp_gt x y).mpr z))))
theorem ev_lcmp_le {x y : Int64} {off : Int} {tgt : Nat} (d0 : decode M.2.1 pc = .ok (.lcmp, 1)) (d : decode M.2.1 (pc + 1) = .ok (.ifCond .le off, 3)) (ht : ((pc + 1 : Nat) : Int) + off = (tgt : Int)) (kt : x ≤ y → Ev g M tgt lv st hp Post) (kf : ¬ (x ≤ y) → Ev g M (pc + 1 + 3) lv st hp Post) : Ev g M pc lv (.long y :: .long x :: st) hp Post := ev_lcmp d0 (ev_if_le d ht (fun q => kt ((lg_cmp_le x y).mp q)) (fun q => kf (fun z => q ((lg_cmp_le x y).mpr z))))
theorem ev_goto {off : Int} {tgt : Nat} (d : decode M.2.1 pc = .ok (.goto off, 3)) (ht : (pc : Int) + off = (tgt : Int)) (k : Ev g M tgt lv st hp Post) : Ev g M pc lv st hp Post := by
  intro p e s m args below meth c A H locs ls hA hP hD hS hl
  exact lv_goto hA.1 hA.2.1 d ht (k p e s m args below meth c A H locs ls hA hP hD hS hl)
theorem ev_tabOut {x : Int32} {dflt lo hi : Int} {offs : Array Int} {len tgt : Nat} (d : decode M.2.1 pc = .ok (.tableswitch dflt lo hi offs, len)) (h : x.toInt < lo ∨ hi < x.toInt) (ht : (pc : Int) + dflt = (tgt : Int)) (k : Ev g M tgt lv st hp Post) : Ev g M pc lv (.int x :: st) hp Post := by
  intro p e s m args below meth c A H locs ls hA hP hD hS hl
  exact lv_tableOut hA.1 hA.2.1 d h ht (k p e s m args below meth c A H locs ls hA hP hD hS hl)
theorem ev_tabIn {x : Int32} {dflt lo hi : Int} {offs : Array Int} {len tgt : Nat} {off : Int} (d : decode M.2.1 pc = .ok (.tableswitch dflt lo hi offs, len)) (h1 : ¬ x.toInt < lo) (h2 : ¬ hi < x.toInt) (ho : offs[(x.toInt - lo).toNat]? = some off) (ht : (pc : Int) + off = (tgt : Int)) (k : Ev g M tgt lv st hp Post) : Ev g M pc lv (.int x :: st) hp Post := by
  intro p e s m args below meth c A H locs ls hA hP hD hS hl
  exact lv_tableIn hA.1 hA.2.1 d h1 h2 ho ht (k p e s m args below meth c A H locs ls hA hP hD hS hl)
theorem ev_iret {v : Int32} {ty : FieldType} (d : decode M.2.1 pc = .ok (.ireturn, 1)) (hr : M.2.2.2.1 = some ty) (hn : narrow ty (.int v) = .int v) (h : Post (some (.int v)) hp) : Ev g M pc lv [.int v] hp Post := by
  intro p e s m args below meth c A H locs ls hA hP hD hS hl
  exact W.zret hA.1 hA.2.1 (hA.2.2.2.2.2.1.trans hr) hn (fun t ht hW => ⟨⟨some (.int v), hp, rfl, h, by rw [ht]; exact hP, va_K.moved hW.alike hA.2.2.2.2.2.2.2.1, hD⟩, hS.F ht⟩) hS.2.2 d hA.2.2.2.2.2.2.1
theorem ev_lret {v : Int64} (d : decode M.2.1 pc = .ok (.lreturn, 1)) (hr : M.2.2.2.1 = some .long) (h : Post (some (.long v)) hp) : Ev g M pc lv [.long v] hp Post := by
  intro p e s m args below meth c A H locs ls hA hP hD hS hl
  exact W.lret hA.1 hA.2.1 (hA.2.2.2.2.2.1.trans hr) (fun t ht hW => ⟨⟨some (.long v), hp, rfl, h, by rw [ht]; exact hP, va_K.moved hW.alike hA.2.2.2.2.2.2.2.1, hD⟩, hS.F ht⟩) hS.2.2 d hA.2.2.2.2.2.2.1
theorem ev_ret (d : decode M.2.1 pc = .ok (.return_, 1)) (hr : M.2.2.2.1 = none) (h : Post none hp) : Ev g M pc lv [] hp Post := by
  intro p e s m args below meth c A H locs ls hA hP hD hS hl
  exact W.vret hA.1 hA.2.1 (hA.2.2.2.2.2.1.trans hr) (fun t ht hW => ⟨⟨none, hp, rfl, h, by rw [ht]; exact hP, va_K.moved hW.alike hA.2.2.2.2.2.2.2.1, hD⟩, hS.F ht⟩) hS.2.2 d hA.2.2.2.2.2.2.1
end EVR
end
section
/-- a class of the world: its rows stand in the tables -/
def Cok (ci : Nat) (C : String) (T : u_T) (N : Nat) : Prop := vwCl[ci]? = some (C, T, N) ∧ (∀ w ∈ u_ws C T N, w ∈ Ts) ∧ ∃ ty0 : Nat → FieldType, (∀ k, k < N → parseFieldDescriptor (T k).2.2.1 = some (ty0 k)) ∧ (∀ a, a < N → ∀ b, b < N → a ≠ b → (T a).2.1 ≠ (T b).2.1)
/-- a field by its link -/
def Fl (own : String) (idx ci k : Nat) : Prop := ∃ (C : String) (T : u_T) (N : Nat), Cok ci C T N ∧ k < N ∧ (Cond.fieldLink own idx (T k).1 (T k).2.1 (T k).2.2.1 ∈ Ts ∨ ∃ host, Cond.fieldLinkNest own idx (T k).1 (T k).2.1 (T k).2.2.1 host ∈ Tn)
/-- a field that is not final, and its type -/
def Fp (own : String) (idx ci k : Nat) (ty : FieldType) : Prop := ∃ (C : String) (T : u_T) (N : Nat), Cok ci C T N ∧ k < N ∧ (Cond.fieldLink own idx (T k).1 (T k).2.1 (T k).2.2.1 ∈ Ts ∨ ∃ host, Cond.fieldLinkNest own idx (T k).1 (T k).2.1 (T k).2.2.1 host ∈ Tn) ∧ (T k).2.2.2 = false ∧ parseFieldDescriptor (T k).2.2.1 = some ty
theorem Fl.of {own : String} {idx ci k : Nat} {C : String} {T : u_T} {N : Nat} (h : Cok ci C T N) (hk : k < N) (hl : Cond.fieldLink own idx (T k).1 (T k).2.1 (T k).2.2.1 ∈ lw_tbl) : Fl own idx ci k := ⟨C, T, N, h, hk, Or.inl (ts_in hl rfl)⟩
theorem Fl.ofN {own host : String} {idx ci k : Nat} {C : String} {T : u_T} {N : Nat} (h : Cok ci C T N) (hk : k < N) (hl : Cond.fieldLinkNest own idx (T k).1 (T k).2.1 (T k).2.2.1 host ∈ lw_tbl) : Fl own idx ci k := ⟨C, T, N, h, hk, Or.inr ⟨host, tn_in hl rfl⟩⟩
theorem Fp.of {own : String} {idx ci k : Nat} {C : String} {T : u_T} {N : Nat} {ty : FieldType} (h : Cok ci C T N) (hk : k < N) (hl : Cond.fieldLink own idx (T k).1 (T k).2.1 (T k).2.2.1 ∈ lw_tbl) (hf : (T k).2.2.2 = false) (hd : parseFieldDescriptor (T k).2.2.1 = some ty) : Fp own idx ci k ty := ⟨C, T, N, h, hk, Or.inl (ts_in hl rfl), hf, hd⟩
theorem Fp.ofN {own host : String} {idx ci k : Nat} {C : String} {T : u_T} {N : Nat} {ty : FieldType} (h : Cok ci C T N) (hk : k < N) (hl : Cond.fieldLinkNest own idx (T k).1 (T k).2.1 (T k).2.2.1 host ∈ lw_tbl) (hf : (T k).2.2.2 = false) (hd : parseFieldDescriptor (T k).2.2.1 = some ty) : Fp own idx ci k ty := ⟨C, T, N, h, hk, Or.inr ⟨host, tn_in hl rfl⟩, hf, hd⟩
section EVH
variable {g : GG} {M : MD} {pc : Nat} {lv : List (Nat × Value)} {st : List Value} {hp : List va_E} {Post : Option Value → List va_E → Prop}
theorem map_get? {α β : Type} {f : α → β} {l : List α} {k : Nat} {v : α} (h : l[k]? = some v) : (l.map f)[k]? = some (f v) := by rw [List.getElem?_map, h]; rfl
theorem ev_getf {idx ci k q : Nat} {fs : List Value} {v : Value} (d : decode M.2.1 pc = .ok (.getfield idx, 3)) (f : Fl M.1.cls idx ci k) (he : hp[q]? = some (.inr (ci, fs))) (hv : fs[k]? = some v) (kk : Ev g M (pc + 3) lv (v :: st) hp Post) : Ev g M pc lv (.ref q :: st) hp Post := by
  intro p e s m args below meth c A H locs ls hA hP hD hS hl
  obtain ⟨C, T, N, ⟨hc, hin, -⟩, hk, h | ⟨host, h⟩⟩ := f
  · exact va_get hA.1 hA.2.1 hA.2.2.2.2.1 hin hA.2.2.2.1 hA.2.2.2.2.2.2.2.1 hP q (wd_at (g := g) he) hc k hk (hA.2.2.2.2.1 _ h) (fun _ z => z) (map_get? hv) d (kk p e s m args below meth c A H locs ls hA hP hD hS hl)
  · exact va_getN hA.1 hA.2.1 hA.2.2.2.2.1 hin hA.2.2.2.1 hA.2.2.2.2.2.2.2.1 hP q (wd_at (g := g) he) hc k hk (va_Nw.use rfl (hA.2.2.2.2.2.2.2.2.1 _ h)) (fun _ z => z) (map_get? hv) d (kk p e s m args below meth c A H locs ls hA hP hD hS hl)
theorem cz_set {ci k : Nat} {fs : List Value} {v : Value} : cz g (.inr (ci, fs.set k v)) = .inr (ci, (fs.map (cv g.2.2.1)).set k (cv g.2.2.1 v)) := by
  show Sum.inr (ci, (fs.set k v).map (cv g.2.2.1)) = _
  rw [List.map_set]
theorem ev_putf {idx ci k q : Nat} {fs : List Value} {v : Value} {ty : FieldType} {hp' : List va_E} (d : decode M.2.1 pc = .ok (.putfield idx, 3)) (f : Fp M.1.cls idx ci k ty) (he : hp[q]? = some (.inr (ci, fs))) (hkl : Nat.blt k fs.length = true) (hn : ∀ ad : Nat → Nat, narrow ty (cv ad v) = cv ad v) (hf : ∀ ad : Nat → Nat, fits ty (cv ad v) = true) (hs : hp.set q (.inr (ci, fs.set k v)) = hp') (kk : Ev g M (pc + 3) lv st hp' Post) : Ev g M pc lv (v :: .ref q :: st) hp Post := by
  intro p e s m args below meth c A H locs ls hA hP hD hS hl
  subst hs
  obtain ⟨C, T, N, ⟨hc, hin, ty0, h1, h2⟩, hk, h, hfin, hd⟩ := f
  have hlen : k < (fs.map (cv g.2.2.1)).length := by rw [List.length_map]; simpa [Nat.blt_eq] using hkl
  have fin : ∀ (H1 : Heap) (locs1 : List Loc), va_P g.2.1 vwCl ((wd g hp).set q (g.2.2.1 q, .inr (ci, (fs.map (cv g.2.2.1)).set k (cv g.2.2.1 v)))) H1 → va_D A ((wd g hp).set q (g.2.2.1 q, .inr (ci, (fs.map (cv g.2.2.1)).set k (cv g.2.2.1 v)))) → va_S A s.heap H1 locs1 → W p g.1 e M.2.2.2.2 s m args below meth c H1 locs1 0 0 (MQ below (Qg g A Post) args s 0 0 A) (F0 m (pc + 3) ls (st.map (cv g.2.2.1))) := by
    intro H1 locs1 hP1 hD1 hS1
    rw [← cz_set, wd_set] at hP1 hD1
    exact kk p e s m args below meth c A H1 locs1 ls hA hP1 hD1 hS1 hl
  rcases h with h | ⟨host, h⟩
  · exact va_put hA.1 hA.2.1 hA.2.2.2.2.1 hin ty0 h1 h2 hA.2.2.2.1 hA.2.2.2.2.2.2.2.1 hP hD hS q (wd_at (g := g) he) hc k hk (hA.2.2.2.2.1 _ h) (fun _ z => z) hfin hd (hn _) (hf _) hlen d fin
  · exact va_putN hA.1 hA.2.1 hA.2.2.2.2.1 hin ty0 h1 h2 hA.2.2.2.1 hA.2.2.2.2.2.2.2.1 hP hD hS q (wd_at (g := g) he) hc k hk (va_Nw.use rfl (hA.2.2.2.2.2.2.2.2.1 _ h)) (fun _ z => z) hfin hd (hn _) (hf _) hlen d fin
theorem ev_iald {q n : Nat} {f : Nat → Int32} {i : Int32} (d : decode M.2.1 pc = .ok (.iaload, 1)) (he : hp[q]? = some (.inl (0, n, .inl f))) (hin : vp_in i n) (kk : Ev g M (pc + 1) lv (.int (f i.toNatClampNeg) :: st) hp Post) : Ev g M pc lv (.int i :: .ref q :: st) hp Post := by
  intro p e s m args below meth c A H locs ls hA hP hD hS hl
  exact va_iald hA.1 hA.2.1 hA.2.2.2.2.2.2.2.1 hP q 0 (wd_at (g := g) he) rfl hin d (kk p e s m args below meth c A H locs ls hA hP hD hS hl)
theorem ev_lald {q n : Nat} {f : Nat → Int64} {i : Int32} (d : decode M.2.1 pc = .ok (.laload, 1)) (he : hp[q]? = some (.inl (1, n, .inr (.inl f)))) (hin : vp_in i n) (kk : Ev g M (pc + 1) lv (.long (f i.toNatClampNeg) :: st) hp Post) : Ev g M pc lv (.int i :: .ref q :: st) hp Post := by
  intro p e s m args below meth c A H locs ls hA hP hD hS hl
  exact va_lald hA.1 hA.2.1 hA.2.2.2.2.2.2.2.1 hP q 1 (wd_at (g := g) he) rfl hin d (kk p e s m args below meth c A H locs ls hA hP hD hS hl)
theorem ev_iast {q n : Nat} {f : Nat → Int32} {i x : Int32} {hp' : List va_E} (d : decode M.2.1 pc = .ok (.iastore, 1)) (he : hp[q]? = some (.inl (0, n, .inl f))) (hin : vp_in i n) (hs : hp.set q (.inl (0, n, .inl (upd f i.toNatClampNeg x))) = hp') (kk : Ev g M (pc + 1) lv st hp' Post) : Ev g M pc lv (.int x :: .int i :: .ref q :: st) hp Post := by
  intro p e s m args below meth c A H locs ls hA hP hD hS hl
  subst hs
  refine va_iast hA.1 hA.2.1 hA.2.2.2.2.2.2.2.1 hP hD hS q 0 (wd_at (g := g) he) rfl hin d (fun H1 locs1 hP1 hD1 hS1 => ?_)
  have z : (wd g hp).set q (g.2.2.1 q, .inl (g.2.2.2 0, n, .inl (upd f i.toNatClampNeg x))) = wd g (hp.set q (.inl (0, n, .inl (upd f i.toNatClampNeg x)))) := wd_set (g := g) (e := .inl (0, n, .inl (upd f i.toNatClampNeg x)))
  rw [z] at hP1 hD1
  exact kk p e s m args below meth c A H1 locs1 ls hA hP1 hD1 hS1 hl
theorem ev_last {q n : Nat} {f : Nat → Int64} {i : Int32} {x : Int64} {hp' : List va_E} (d : decode M.2.1 pc = .ok (.lastore, 1)) (he : hp[q]? = some (.inl (1, n, .inr (.inl f)))) (hin : vp_in i n) (hs : hp.set q (.inl (1, n, .inr (.inl (vp_updL f i.toNatClampNeg x)))) = hp') (kk : Ev g M (pc + 1) lv st hp' Post) : Ev g M pc lv (.long x :: .int i :: .ref q :: st) hp Post := by
  intro p e s m args below meth c A H locs ls hA hP hD hS hl
  subst hs
  refine va_last hA.1 hA.2.1 hA.2.2.2.2.2.2.2.1 hP hD hS q 1 (wd_at (g := g) he) rfl hin d (fun H1 locs1 hP1 hD1 hS1 => ?_)
  have z : (wd g hp).set q (g.2.2.1 q, .inl (g.2.2.2 1, n, .inr (.inl (vp_updL f i.toNatClampNeg x)))) = wd g (hp.set q (.inl (1, n, .inr (.inl (vp_updL f i.toNatClampNeg x))))) := wd_set (g := g) (e := .inl (1, n, .inr (.inl (vp_updL f i.toNatClampNeg x))))
  rw [z] at hP1 hD1
  exact kk p e s m args below meth c A H1 locs1 ls hA hP1 hD1 hS1 hl
theorem ev_alenI {q n : Nat} {f : Nat → Int32} {v : Int32} (d : decode M.2.1 pc = .ok (.arraylength, 1)) (he : hp[q]? = some (.inl (0, n, .inl f))) (hv : Int32.ofNat n = v) (kk : Ev g M (pc + 1) lv (.int v :: st) hp Post) : Ev g M pc lv (.ref q :: st) hp Post := by
  intro p e s m args below meth c A H locs ls hA hP hD hS hl
  exact va_alen hA.1 hA.2.1 hA.2.2.2.2.2.2.2.1 hP q 0 (wd_at (g := g) he) rfl hv d (kk p e s m args below meth c A H locs ls hA hP hD hS hl)
theorem ev_alenL {q n : Nat} {f : Nat → Int64} {v : Int32} (d : decode M.2.1 pc = .ok (.arraylength, 1)) (he : hp[q]? = some (.inl (1, n, .inr (.inl f)))) (hv : Int32.ofNat n = v) (kk : Ev g M (pc + 1) lv (.int v :: st) hp Post) : Ev g M pc lv (.ref q :: st) hp Post := by
  intro p e s m args below meth c A H locs ls hA hP hD hS hl
  exact va_alen hA.1 hA.2.1 hA.2.2.2.2.2.2.2.1 hP q 1 (wd_at (g := g) he) rfl hv d (kk p e s m args below meth c A H locs ls hA hP hD hS hl)
end EVH
end
section
theorem Sx.moved {g : GG} {A : Nat → Prop} {u U : State} {H : Heap} (hv : u.vm = U.vm) (h : Sx g A u H) : Sx g A U H := by
  have ha : u.vm.Alike U.vm := by rw [← hv]; exact Vm.Alike.refl _
  exact ⟨h.1.moved ha, fun i hi => (h.2.1 i hi).same hv.symm, h.2.2.moved ha⟩
theorem Sx.warm {g : GG} {A : Nat → Prop} {s U : State} {H : Heap} (hW : s.WarmedH U.vm) (h : Sx g A s H) : Sx g A U H := ⟨h.1.moved hW.alike, fun i hi => (h.2.1 i hi).warm hW, h.2.2.moved hW.alike⟩
theorem Sx.kept {g : GG} {A : Nat → Prop} {s : State} {H H1 : Heap} (h : Sx g A s H) (hq : ∀ a : Nat, a < H.size → ¬ A a → H1[a]? = H[a]?) : Sx g A s H1 := ⟨h.1.kept hq, h.2.1, h.2.2.kept hq⟩
theorem Sx.narrow {g : GG} {A B : Nat → Prop} {s : State} {H : Heap} (h : Sx g A s H) (hAB : ∀ q, B q → A q) : Sx g B s H := ⟨h.1.narrow hAB, h.2.1, h.2.2.narrow hAB⟩
theorem lvc_args {g : GG} : ∀ (as : List Value) (i : Nat), lv_args i (as.map (cv g.2.2.1)) = lvc g (lv_args i as)
  | [], _ => rfl
  | v :: vs, i => by
    show (i, cv g.2.2.1 v) :: lv_args (if (cv g.2.2.1 v).category = 2 then i + 2 else i + 1) (vs.map (cv g.2.2.1)) = (i, cv g.2.2.1 v) :: lvc g (lv_args (if v.category = 2 then i + 2 else i + 1) vs)
    rw [cv_cat, lvc_args vs]
theorem lg_sl_len {g : GG} : ∀ (as : List Value), (lg_sl (as.map (cv g.2.2.1))).length = (lg_sl as).length
  | [] => rfl
  | v :: vs => by
    have h := lg_sl_len (g := g) vs
    unfold lg_sl at h ⊢
    rw [List.map_cons, List.flatMap_cons, List.flatMap_cons, List.length_append, List.length_append, h, cv_cat]
    split <;> rfl
theorem ct_of {g : GG} {M : MD} {as : List Value} {hp : List va_E} {Post : Option Value → List va_E → Prop} (hy : plainName M.1.cls = true) (hlen : Nat.ble (lg_sl as).length M.2.2.1 = true) (h : Ev g M 0 (lv_args 0 as) [] hp Post) : Ct g M as hp Post := by
  intro sz
  refine Met.ofW (cc := M.2.1) (maxL := M.2.2.1) (ret := M.2.2.2.1) hy rfl ?_
  intro p e s m args below meth c s₁ B hml hv
  obtain ⟨rfl, hsz, hP, hK, hD0, hN, hX⟩ := hv
  have hts := atoms_spec (ws := wsM M) B.pre
  have hown : s.vm.findClass M.1.cls = some m.cls := findClass_of_methodNamed B.named
  subst hsz
  have hD := hD0.self (sz := s.heap.size)
  generalize hAe : va_A (wd g hp) s.heap.size = A at hD hX ⊢
  have hA : ∀ q : Nat, s.heap.size ≤ q → A q := fun q h => by rw [← hAe]; exact Or.inr h
  have hS : va_S A s.heap s.heap [] := va_S.rf
  have hl := lv_entry (as.map (cv g.2.2.1)) (n := M.2.2.1) (by rw [lg_sl_len]; exact Nat.le_of_ble_eq_true hlen)
  rw [lg_entry_eq]
  rw [lvc_args] at hl
  exact h p e s m _ below meth c A s.heap [] _ ⟨B.exec, B.bytes, hml, hown, fun w hw => hts w (List.mem_cons_of_mem _ hw), B.returns, B.notSynchronized, hK, hN, hX, hA⟩ hP hD hS hl
/-- a contract's end may be weakened -/
theorem ct_post {g : GG} {M : MD} {as : List Value} {hp : List va_E} {Post Post' : Option Value → List va_E → Prop} (h : ∀ v q, Post' v q → Post v q) (k : Ct g M as hp Post') : Ct g M as hp Post := by
  intro sz p e ha hc hk s m args below hf hfit hP hK
  obtain ⟨t, o, b0, b1, b2, ⟨⟨v, q, c1, c2, c3⟩, c4⟩, b4⟩ := k sz p e ha hc hk s m args below hf hfit hP hK
  exact ⟨t, o, b0, b1, b2, ⟨⟨v, q, c1, h v q c2, c3⟩, c4⟩, b4⟩
def Ml (own : String) (idx : Nat) (M' : MD) : Prop := Cond.methodLink own idx M'.1 ∈ Ts ∨ ∃ host, Cond.methodLinkNest own idx M'.1 host ∈ Tn
def Mm (M' : MD) (n : Nat) : Prop := Cond.code M'.1 M'.2.1 M'.2.2.1 M'.2.2.2.1 ∈ Ts ∧ Cond.initialized M'.1.cls ∈ Ts ∧ (M'.1.cls ≠ "java/lang/invoke/MethodHandle" ∧ M'.1.cls ≠ "java/lang/invoke/VarHandle") ∧ (parseMethodDescriptor M'.1.desc).map (fun d => d.parameters.length) = some n ∧ M'.2.2.2.2.cells = 0 ∧ M'.2.2.2.2.slots = 0
def Mv (M' : MD) (n : Nat) : Prop := Mm M' n ∧ Cond.instanceMethod M'.1 ∈ Ts ∧ Cond.selects M'.1.cls M'.1 M'.1 ∈ Ts
def Ms (M' : MD) (n : Nat) : Prop := Mm M' n ∧ Cond.static M'.1 ∈ Ts
theorem wsM_good {M' : MD} (h : Cond.code M'.1 M'.2.1 M'.2.2.1 M'.2.2.2.1 ∈ Ts) : GoodIn Ts (wsM M') := by
  intro w hw
  rcases List.mem_cons.mp hw with rfl | hw
  · exact ⟨h, good_of_word (ts_good h)⟩
  · exact ⟨hw, good_of_word (ts_good hw)⟩
section EVC
variable {g : GG} {M : MD} {pc : Nat} {lv : List (Nat × Value)} {st : List Value} {hp : List va_E} {Post : Option Value → List va_E → Prop}
theorem callG {p : Program} {l : Launch} {e : Env} {R : Room} {s : State} {m : MethodId} {args : Array Value} {below : List Frame} {meth : Method} {c : Code} {H H0 : Heap} {locs : List Loc} {Q : State → Prop} {ls : Array Slot} {rest st0 : List Value} {a : Array Value} {A A1 : Nat → Prop} {Post' : Option Value → List va_E → Prop}
    (hr : va_Run p l e R s m args below meth c H locs 0 0 0 0 (F0 m pc ls st0) rest (Qg g A1 Post' a) A1) (hS : va_S A H0 H locs) (hF : ∀ q, A1 q → A q)
    (kk : ∀ (v : Option Value) (hp' : List va_E) (t : State) (H1 : Heap) (locs1 : List Loc), t.heap = H1 → Post' v hp' → va_P g.2.1 vwCl (wd g hp') H1 → va_D A1 (wd g hp') → va_S A H0 H1 locs1 → W p l e R s m args below meth c H1 locs1 0 0 Q (F0 m (pc + 3) ls ((v.map (cv g.2.2.1)).toList ++ rest))) : W p l e R s m args below meth c H locs 0 0 Q (F0 m pc ls st0) := by
  intro T hT X
  obtain ⟨v, st₀, t, T', L, h0, X', hL, e1, e2, ⟨⟨v', hp', hv, hp, hP, hK, hD⟩, hz, hk⟩, st⟩ := hr T hT X
  cases hv
  rw [h0] at hz hk
  obtain ⟨t2, a1, b1⟩ := kk v' hp' t T'.heap (locs ++ L) e1.symm hp (by rw [e1]; exact hP) hD
    ⟨Nat.le_trans hS.1 (by rw [e1]; exact hz), fun q h1 h2 => by rw [e1, hk q (Nat.lt_of_lt_of_le h1 hS.1) (fun z => h2 (hF q z))]; exact hS.2.1 q h1 h2, fun q hq => by
      rcases List.mem_append.mp hq with h | h
      · exact hS.2.2 q h
      · exact hF _ (hL q h)⟩ T' rfl X'
  exact ⟨t2, st t2 a1, b1⟩
/-- what the callee starts from -/
theorem call_pre {p : Program} {s : State} {m : MethodId} {args : Array Value} {meth : Method} {c : Code} {A : Nat → Prop} {H : Heap} {locs : List Loc} (hA : Act g M A p s m args meth c) (hP : va_P g.2.1 vwCl (wd g hp) H) (hD : va_D A (wd g hp)) (hS : va_S A s.heap H locs) :
    (∀ q, va_A (wd g hp) H.size q → A q) ∧ ∀ U : State, U.heap = H → s.WarmedH U.vm → (U.heap.size = H.size ∧ va_P g.2.1 vwCl (wd g hp) U.heap ∧ va_K g.2.1 vwCl (tysG g) U ∧ va_D (fun _ => True) (wd g hp) ∧ Nst U ∧ Sx g (va_A (wd g hp) H.size) U U.heap) := by
  have hF : ∀ q, va_A (wd g hp) H.size q → A q := by
    intro q h
    rcases h with ⟨k, e, h⟩ | h
    · exact hD.2 k (q, e) h
    · exact hA.2.2.2.2.2.2.2.2.2.2 q (Nat.le_trans hS.1 h)
  refine ⟨hF, fun U hU hW => ⟨by rw [hU], by rw [hU]; exact hP, va_K.moved hW.alike hA.2.2.2.2.2.2.2.1, hD.weaken (fun _ _ _ _ => trivial), hA.2.2.2.2.2.2.2.2.1.warm hW, ?_⟩⟩
  rw [hU]
  exact ((hA.2.2.2.2.2.2.2.2.2.1.kept hS.2.1).warm hW).narrow hF
theorem call_blind {av : List Value} {sz : Nat} {A : Nat → Prop} : FrameBlind (va_Pc av (fun U => U.heap.size = sz ∧ va_P g.2.1 vwCl (wd g hp) U.heap ∧ va_K g.2.1 vwCl (tysG g) U ∧ va_D (fun _ => True) (wd g hp) ∧ Nst U ∧ Sx g A U U.heap)) := by
  intro a U gf mk q
  obtain ⟨q0, q1, qP, qK, qD, qN, qX⟩ := q
  exact ⟨q0, q1, qP, va_K.moved (u := U) (U := U.calling gf mk a) (Vm.Alike.refl U.vm) qK, qD, Nst.same (u := U) (U := U.calling gf mk a) rfl qN, Sx.moved (u := U) (U := U.calling gf mk a) rfl qX⟩
theorem call_B {M' : MD} {n : Nat} {R : Room} {s : State} {args : Array Value} {own : String} {idx : Nat} (mm : Mm M' n) (hts : ∀ w ∈ Ts, w.before args s = true) (hR : M'.2.2.2.2.frames + 1 ≤ R.frames ∧ 8 + (M'.2.2.1 + 11) + M'.2.2.2.2.locals ≤ R.locals) (hl : Cond.methodLink own idx M'.1 ∈ Ts) : CallB R s args own idx M'.1 M'.2.1 M'.2.2.1 M'.2.2.2.1 (wsM M') M'.2.2.2.2 0 0 n :=
  callB_of n hts (wsM_good mm.1) rfl mm.2.2.2.2.1 mm.2.2.2.2.2 (hts _ mm.2.1) (hts _ hl) ⟨mm.2.2.1.1, mm.2.2.1.2, mm.2.2.2.1⟩ hR
theorem call_N {M' : MD} {n : Nat} {R : Room} {s : State} {args : Array Value} {own host : String} {idx : Nat} (mm : Mm M' n) (hts : ∀ w ∈ Ts, w.before args s = true) (hR : M'.2.2.2.2.frames + 1 ≤ R.frames ∧ 8 + (M'.2.2.1 + 11) + M'.2.2.2.2.locals ≤ R.locals) (hl : va_Nw (.methodLinkNest own idx M'.1 host) s) : va_CN R s args own idx M'.1 host M'.2.1 M'.2.2.1 M'.2.2.2.1 (wsM M') M'.2.2.2.2 0 0 n :=
  va_cnB n hts (wsM_good mm.1) rfl mm.2.2.2.2.1 mm.2.2.2.2.2 hl (hts _ mm.2.1) ⟨mm.2.2.1.1, mm.2.2.1.2, mm.2.2.2.1⟩ hR
theorem cat_sum (l : List Value) : ((l.map (cv g.2.2.1)).map fun v => v.category).sum = (l.map fun v => v.category).sum := by
  rw [List.map_map]
  congr 1
  exact List.map_congr_left (fun v _ => cv_cat _ v)
theorem room_of {M M' : MD} (h : (Nat.ble (M'.2.2.2.2.frames + 1) M.2.2.2.2.frames && Nat.ble (8 + (M'.2.2.1 + 11) + M'.2.2.2.2.locals) M.2.2.2.2.locals) = true) : M'.2.2.2.2.frames + 1 ≤ M.2.2.2.2.frames ∧ 8 + (M'.2.2.1 + 11) + M'.2.2.2.2.locals ≤ M.2.2.2.2.locals := by
  rw [Bool.and_eq_true] at h
  exact ⟨Nat.le_of_ble_eq_true h.1, Nat.le_of_ble_eq_true h.2⟩
theorem ev_callV {idx n q : Nat} {M' : MD} {as rest : List Value} {Post' : Option Value → List va_E → Prop} (d : decode M.2.1 pc = .ok (.invokevirtual idx, 3)) (ml : Ml M.1.cls idx M') (mv : Mv M' n) (hr : (Nat.ble (M'.2.2.2.2.frames + 1) M.2.2.2.2.frames && Nat.ble (8 + (M'.2.2.1 + 11) + M'.2.2.2.2.locals) M.2.2.2.2.locals) = true) (hn : as.length = n) (hw : Nat.ble (rest.map fun v => v.category).sum 8 = true)
    {ci : Nat} {fs : List Value} (hq : hp[q]? = some (.inr (ci, fs))) (hci : (vwCl[ci]?).map (fun z => z.1) = some M'.1.cls) (ct : Ct g M' (.ref q :: as) hp Post') (kk : ∀ v hp', Post' v hp' → Ev g M (pc + 3) lv (v.toList ++ rest) hp' Post) : Ev g M pc lv (as.reverse ++ .ref q :: rest) hp Post := by
  intro p e s m args below meth c A H locs ls hA hP hD hS hl
  obtain ⟨hF, hU⟩ := call_pre hA hP hD hS
  have hR := room_of hr
  have hcl : ∃ z, vwCl[ci]? = some z ∧ z.1 = M'.1.cls := by
    cases hz : vwCl[ci]? with
    | none => rw [hz] at hci; cases hci
    | some z => rw [hz] at hci; exact ⟨z, rfl, Option.some.inj hci⟩
  obtain ⟨z, hz, hz1⟩ := hcl
  have hrecv := va_recv hA.2.2.2.2.2.2.2.1 hP hz (wd_at (g := g) hq)
  rw [hz1] at hrecv
  have hst : ((as.reverse ++ Value.ref q :: rest).map (cv g.2.2.1)) = (as.map (cv g.2.2.1)).reverse ++ .ref (g.2.2.1 q) :: rest.map (cv g.2.2.1) := by
    rw [List.map_append, List.map_reverse, List.map_cons]; rfl
  have hsum : (((rest.map (cv g.2.2.1)).map fun v => v.category)).sum ≤ 8 := by rw [cat_sum]; exact Nat.le_of_ble_eq_true hw
  have fin : ∀ (v : Option Value) (hp' : List va_E) (t : State) (H1 : Heap) (locs1 : List Loc), t.heap = H1 → Post' v hp' → va_P g.2.1 vwCl (wd g hp') H1 → va_D (va_A (wd g hp) H.size) (wd g hp') → va_S A s.heap H1 locs1 → W p g.1 e M.2.2.2.2 s m args below meth c H1 locs1 0 0 (MQ below (Qg g A Post) args s 0 0 A) (F0 m (pc + 3) ls ((v.map (cv g.2.2.1)).toList ++ rest.map (cv g.2.2.1))) := by
    intro v hp' t H1 locs1 ht hp1 hP1 hD1 hS1
    have := kk v hp' hp1 p e s m args below meth c A H1 locs1 ls hA hP1 (hD1.weaken (fun _ _ _ h => hF _ h)) hS1 hl
    rw [List.map_append] at this
    cases v <;> exact this
  have hpre : PreV s H M'.1.cls (g.2.2.1 q) (va_Pc ((Value.ref q :: as).map (cv g.2.2.1)) (fun U => U.heap.size = H.size ∧ va_P g.2.1 vwCl (wd g hp) U.heap ∧ va_K g.2.1 vwCl (tysG g) U ∧ va_D (fun _ => True) (wd g hp) ∧ Nst U ∧ Sx g (va_A (wd g hp) H.size) U U.heap)) (as.map (cv g.2.2.1)) := ⟨call_blind, hrecv, fun U h1 h2 => ⟨rfl, hU U h1 h2⟩⟩
  rw [hst]
  rcases ml with hml | ⟨host, hml⟩
  · exact callG (va_runV (As := as.map (cv g.2.2.1)) ⟨hA.1, hA.2.1, hA.2.2.1, hA.2.2.2.1, hA.2.2.2.2.1⟩ (ct H.size) ⟨call_B mv.1 hA.2.2.2.2.1 hR hml, hA.2.2.2.2.1 _ mv.2.1, hA.2.2.2.2.1 _ mv.2.2⟩ hpre rfl (by rw [List.length_map]; exact hn) hl.1 rfl (lv_room hsum) d ⟨Nat.zero_le _, Nat.zero_le _⟩) hS hF fin
  · exact callG (va_runVN (As := as.map (cv g.2.2.1)) ⟨hA.1, hA.2.1, hA.2.2.1, hA.2.2.2.1, hA.2.2.2.2.1⟩ (ct H.size) ⟨call_N mv.1 hA.2.2.2.2.1 hR (hA.2.2.2.2.2.2.2.2.1 _ hml), hA.2.2.2.2.1 _ mv.2.1, hA.2.2.2.2.1 _ mv.2.2⟩ hpre rfl (by rw [List.length_map]; exact hn) hl.1 rfl (lv_room hsum) d ⟨Nat.zero_le _, Nat.zero_le _⟩) hS hF fin
theorem ev_callS {idx n : Nat} {M' : MD} {as rest : List Value} {Post' : Option Value → List va_E → Prop} (d : decode M.2.1 pc = .ok (.invokestatic idx, 3)) (ml : Ml M.1.cls idx M') (mv : Ms M' n) (hr : (Nat.ble (M'.2.2.2.2.frames + 1) M.2.2.2.2.frames && Nat.ble (8 + (M'.2.2.1 + 11) + M'.2.2.2.2.locals) M.2.2.2.2.locals) = true) (hn : as.length = n) (hw : Nat.ble (rest.map fun v => v.category).sum 8 = true)
    (ct : Ct g M' as hp Post') (kk : ∀ v hp', Post' v hp' → Ev g M (pc + 3) lv (v.toList ++ rest) hp' Post) : Ev g M pc lv (as.reverse ++ rest) hp Post := by
  intro p e s m args below meth c A H locs ls hA hP hD hS hl
  obtain ⟨hF, hU⟩ := call_pre hA hP hD hS
  have hR := room_of hr
  have hst : ((as.reverse ++ rest).map (cv g.2.2.1)) = (as.map (cv g.2.2.1)).reverse ++ rest.map (cv g.2.2.1) := by
    rw [List.map_append, List.map_reverse]
  have hsum : (((rest.map (cv g.2.2.1)).map fun v => v.category)).sum ≤ 8 := by rw [cat_sum]; exact Nat.le_of_ble_eq_true hw
  have fin : ∀ (v : Option Value) (hp' : List va_E) (t : State) (H1 : Heap) (locs1 : List Loc), t.heap = H1 → Post' v hp' → va_P g.2.1 vwCl (wd g hp') H1 → va_D (va_A (wd g hp) H.size) (wd g hp') → va_S A s.heap H1 locs1 → W p g.1 e M.2.2.2.2 s m args below meth c H1 locs1 0 0 (MQ below (Qg g A Post) args s 0 0 A) (F0 m (pc + 3) ls ((v.map (cv g.2.2.1)).toList ++ rest.map (cv g.2.2.1))) := by
    intro v hp' t H1 locs1 ht hp1 hP1 hD1 hS1
    have := kk v hp' hp1 p e s m args below meth c A H1 locs1 ls hA hP1 (hD1.weaken (fun _ _ _ h => hF _ h)) hS1 hl
    rw [List.map_append] at this
    cases v <;> exact this
  have hpre : PreS s H (va_Pc (as.map (cv g.2.2.1)) (fun U => U.heap.size = H.size ∧ va_P g.2.1 vwCl (wd g hp) U.heap ∧ va_K g.2.1 vwCl (tysG g) U ∧ va_D (fun _ => True) (wd g hp) ∧ Nst U ∧ Sx g (va_A (wd g hp) H.size) U U.heap)) (as.map (cv g.2.2.1)) := ⟨call_blind, fun U h1 h2 => ⟨rfl, hU U h1 h2⟩⟩
  rw [hst]
  rcases ml with hml | ⟨host, hml⟩
  · exact callG (va_runS (As := as.map (cv g.2.2.1)) ⟨hA.1, hA.2.1, hA.2.2.1, hA.2.2.2.1, hA.2.2.2.2.1⟩ (ct H.size) ⟨call_B mv.1 hA.2.2.2.2.1 hR hml, hA.2.2.2.2.1 _ mv.2⟩ hpre rfl (by rw [List.length_map]; exact hn) hl.1 rfl (lv_room hsum) d ⟨Nat.zero_le _, Nat.zero_le _⟩) hS hF fin
  · exact callG (va_runSN (As := as.map (cv g.2.2.1)) ⟨hA.1, hA.2.1, hA.2.2.1, hA.2.2.2.1, hA.2.2.2.2.1⟩ (ct H.size) ⟨call_N mv.1 hA.2.2.2.2.1 hR (hA.2.2.2.2.2.2.2.2.1 _ hml), hA.2.2.2.2.1 _ mv.2, trivial⟩ hpre rfl (by rw [List.length_map]; exact hn) hl.1 rfl (lv_room hsum) d ⟨Nat.zero_le _, Nat.zero_le _⟩) hS hF fin
end EVC
end
section
section EVS
variable {g : GG} {M : MD} {pc : Nat} {lv : List (Nat × Value)} {st : List Value} {hp : List va_E} {Post : Option Value → List va_E → Prop}
theorem ev_ldcS {idx i : Nat} (d : decode M.2.1 pc = .ok (.ldc idx, 2)) (ho : M.1.cls = RX2) (hi : i < 7) (hx : ixJS i = idx) (k : Ev g M (pc + 2) lv (.ref (100 + i) :: st) hp Post) : Ev g M pc lv st hp Post := by
  intro p e s m args below meth c A H locs ls hA hP hD hS hl
  subst hx
  have hown := hA.2.2.2.1
  rw [ho] at hown
  exact va_ldcS hA.1 hA.2.1 hown (hA.2.2.2.2.2.2.2.2.2.1.2.1 i hi) d (k p e s m args below meth c A H locs ls hA hP hD hS hl)
theorem ev_strVal {idx i : Nat} (d : decode M.2.1 pc = .ok (.getfield idx, 3)) (hl : Cond.fieldLink M.1.cls idx "java/lang/String" "value" "[B" ∈ Ts) (hi : i < 7) (k : Ev g M (pc + 3) lv (.ref (200 + i) :: st) hp Post) : Ev g M pc lv (.ref (100 + i) :: st) hp Post := by
  intro p e s m args below meth c A H locs ls hA hP hD hS hl'
  exact vk_getf hA.1 hA.2.1 (hA.2.2.2.2.2.2.2.2.2.1.1.1 i hi).2.2.1 hS hA.2.2.2.1 (hA.2.2.2.2.1 _ hl) (fun _ z => z) d (k p e s m args below meth c A H locs ls hA hP hD hS hl')
theorem ev_strCoder {idx i : Nat} (d : decode M.2.1 pc = .ok (.getfield idx, 3)) (hl : Cond.fieldLink M.1.cls idx "java/lang/String" "coder" "B" ∈ Ts) (hi : i < 7) (k : Ev g M (pc + 3) lv (.int 0 :: st) hp Post) : Ev g M pc lv (.ref (100 + i) :: st) hp Post := by
  intro p e s m args below meth c A H locs ls hA hP hD hS hl'
  exact vk_getf hA.1 hA.2.1 (hA.2.2.2.2.2.2.2.2.2.1.1.1 i hi).2.1 hS hA.2.2.2.1 (hA.2.2.2.2.1 _ hl) (fun _ z => z) d (k p e s m args below meth c A H locs ls hA hP hD hS hl')
theorem ev_compact {idx : Nat} (d : decode M.2.1 pc = .ok (.getstatic idx, 3)) (hl : Cond.fieldLink M.1.cls idx "java/lang/String" "COMPACT_STRINGS" "Z" ∈ Ts) (k : Ev g M (pc + 3) lv (.int 1 :: st) hp Post) : Ev g M pc lv st hp Post := by
  intro p e s m args below meth c A H locs ls hA hP hD hS hl'
  exact va_gets hA.1 hA.2.1 hA.2.2.2.2.2.2.2.2.2.1.2.2 hS hA.2.2.2.1 (hA.2.2.2.2.1 _ hl) (fun _ z => z) d (k p e s m args below meth c A H locs ls hA hP hD hS hl')
theorem ev_blen {i : Nat} {v : Int32} (d : decode M.2.1 pc = .ok (.arraylength, 1)) (hi : i < 7) (hv : Int32.ofNat (lenJS.getD i 0) = v) (k : Ev g M (pc + 1) lv (.int v :: st) hp Post) : Ev g M pc lv (.ref (200 + i) :: st) hp Post := by
  intro p e s m args below meth c A H locs ls hA hP hD hS hl
  exact va_tlen hA.1 hA.2.1 (hA.2.2.2.2.2.2.2.2.2.1.1.1 i hi).2.2.2 hS hv d (k p e s m args below meth c A H locs ls hA hP hD hS hl)
theorem ev_bald {i : Nat} {j : Int32} (d : decode M.2.1 pc = .ok (.baload, 1)) (hi : i < 7) (hj : vp_in j (lenJS.getD i 0)) (k : Ev g M (pc + 1) lv (.int ((bytJS.getD i []).getD j.toNatClampNeg 0) :: st) hp Post) : Ev g M pc lv (.int j :: .ref (200 + i) :: st) hp Post := by
  intro p e s m args below meth c A H locs ls hA hP hD hS hl
  exact va_tb hA.1 hA.2.1 (hA.2.2.2.2.2.2.2.2.2.1.1.1 i hi).2.2.2 hS hj rfl d (k p e s m args below meth c A H locs ls hA hP hD hS hl)
theorem ev_callT {idx n i : Nat} {M' : MD} {as rest : List Value} {Post' : Option Value → List va_E → Prop} (d : decode M.2.1 pc = .ok (.invokevirtual idx, 3)) (ml : Ml M.1.cls idx M') (mv : Mv M' n) (hr : (Nat.ble (M'.2.2.2.2.frames + 1) M.2.2.2.2.frames && Nat.ble (8 + (M'.2.2.1 + 11) + M'.2.2.2.2.locals) M.2.2.2.2.locals) = true) (hn : as.length = n) (hw : Nat.ble (rest.map fun v => v.category).sum 8 = true)
    (hi : i < 7) (hci : M'.1.cls = "java/lang/String") (ct : Ct g M' (.ref (100 + i) :: as) hp Post') (kk : ∀ v hp', Post' v hp' → Ev g M (pc + 3) lv (v.toList ++ rest) hp' Post) : Ev g M pc lv (as.reverse ++ .ref (100 + i) :: rest) hp Post := by
  intro p e s m args below meth c A H locs ls hA hP hD hS hl
  obtain ⟨hF, hU⟩ := call_pre hA hP hD hS
  have hR := room_of hr
  have hrecv := vk_recv hA.2.2.2.2.2.2.2.2.2.1.1 hi hS
  rw [← hci] at hrecv
  have hst : ((as.reverse ++ Value.ref (100 + i) :: rest).map (cv g.2.2.1)) = (as.map (cv g.2.2.1)).reverse ++ .ref (g.2.2.1 (100 + i)) :: rest.map (cv g.2.2.1) := by
    rw [List.map_append, List.map_reverse, List.map_cons]; rfl
  have hsum : (((rest.map (cv g.2.2.1)).map fun v => v.category)).sum ≤ 8 := by rw [cat_sum]; exact Nat.le_of_ble_eq_true hw
  have fin : ∀ (v : Option Value) (hp' : List va_E) (t : State) (H1 : Heap) (locs1 : List Loc), t.heap = H1 → Post' v hp' → va_P g.2.1 vwCl (wd g hp') H1 → va_D (va_A (wd g hp) H.size) (wd g hp') → va_S A s.heap H1 locs1 → W p g.1 e M.2.2.2.2 s m args below meth c H1 locs1 0 0 (MQ below (Qg g A Post) args s 0 0 A) (F0 m (pc + 3) ls ((v.map (cv g.2.2.1)).toList ++ rest.map (cv g.2.2.1))) := by
    intro v hp' t H1 locs1 ht hp1 hP1 hD1 hS1
    have := kk v hp' hp1 p e s m args below meth c A H1 locs1 ls hA hP1 (hD1.weaken (fun _ _ _ h => hF _ h)) hS1 hl
    rw [List.map_append] at this
    cases v <;> exact this
  have hpre : PreV s H M'.1.cls (g.2.2.1 (100 + i)) (va_Pc ((Value.ref (100 + i) :: as).map (cv g.2.2.1)) (fun U => U.heap.size = H.size ∧ va_P g.2.1 vwCl (wd g hp) U.heap ∧ va_K g.2.1 vwCl (tysG g) U ∧ va_D (fun _ => True) (wd g hp) ∧ Nst U ∧ Sx g (va_A (wd g hp) H.size) U U.heap)) (as.map (cv g.2.2.1)) := ⟨call_blind, hrecv, fun U h1 h2 => ⟨rfl, hU U h1 h2⟩⟩
  rw [hst]
  rcases ml with hml | ⟨host, hml⟩
  · exact callG (va_runV (As := as.map (cv g.2.2.1)) ⟨hA.1, hA.2.1, hA.2.2.1, hA.2.2.2.1, hA.2.2.2.2.1⟩ (ct H.size) ⟨call_B mv.1 hA.2.2.2.2.1 hR hml, hA.2.2.2.2.1 _ mv.2.1, hA.2.2.2.2.1 _ mv.2.2⟩ hpre rfl (by rw [List.length_map]; exact hn) hl.1 rfl (lv_room hsum) d ⟨Nat.zero_le _, Nat.zero_le _⟩) hS hF fin
  · exact callG (va_runVN (As := as.map (cv g.2.2.1)) ⟨hA.1, hA.2.1, hA.2.2.1, hA.2.2.2.1, hA.2.2.2.2.1⟩ (ct H.size) ⟨call_N mv.1 hA.2.2.2.2.1 hR (hA.2.2.2.2.2.2.2.2.1 _ hml), hA.2.2.2.2.1 _ mv.2.1, hA.2.2.2.2.1 _ mv.2.2⟩ hpre rfl (by rw [List.length_map]; exact hn) hl.1 rfl (lv_room hsum) d ⟨Nat.zero_le _, Nat.zero_le _⟩) hS hF fin
theorem ls_ml {p : Program} {s : State} {m : MethodId} {args : Array Value} {meth : Method} {c : Code} {A : Nat → Prop} {ls : Array Slot} (hA : Act g M A p s m args meth c) (hl : lv_has ls M.2.2.1 (lvc g lv)) : c.maxLocals = ls.size := hA.2.2.1.trans hl.1.symm
theorem ev_mmax {idx : Nat} {x y : Int32} (d : decode M.2.1 pc = .ok (.invokestatic idx, 3)) (h1 : Cond.methodLink M.1.cls idx Lib.Math.max.name ∈ Ts) (h2 : Cond.static Lib.Math.max.name ∈ Ts) (h3 : Cond.initialized "java/lang/Math" ∈ Ts) (h4 : Cond.code Lib.Math.max.name Lib.Math.max.code 2 (some .int) ∈ Ts) (hf : Nat.ble 1 M.2.2.2.2.frames = true) (hw : Nat.ble ((st.map fun v => v.category).sum + 13) M.2.2.2.2.locals = true) (k : Ev g M (pc + 3) lv (.int (if x < y then y else x) :: st) hp Post) : Ev g M pc lv (.int y :: .int x :: st) hp Post := by
  intro p e s m args below meth c A H locs ls hA hP hD hS hl
  exact va_mmax hA.1 hA.2.1 (ls_ml hA hl) hA.2.2.2.1 (hA.2.2.2.2.1 _ h1) (hA.2.2.2.2.1 _ h2) (hA.2.2.2.2.1 _ h3) (hA.2.2.2.2.1 _ h4) (Nat.le_of_ble_eq_true hf) (by rw [cat_sum]; exact Nat.le_of_ble_eq_true hw) (Nat.zero_le _) (Nat.zero_le _) d (k p e s m args below meth c A H locs ls hA hP hD hS hl)
theorem ev_mmin {idx : Nat} {x y : Int32} (d : decode M.2.1 pc = .ok (.invokestatic idx, 3)) (h1 : Cond.methodLink M.1.cls idx Lib.Math.min.name ∈ Ts) (h2 : Cond.static Lib.Math.min.name ∈ Ts) (h3 : Cond.initialized "java/lang/Math" ∈ Ts) (h4 : Cond.code Lib.Math.min.name Lib.Math.min.code 2 (some .int) ∈ Ts) (hf : Nat.ble 1 M.2.2.2.2.frames = true) (hw : Nat.ble ((st.map fun v => v.category).sum + 13) M.2.2.2.2.locals = true) (k : Ev g M (pc + 3) lv (.int (if y < x then y else x) :: st) hp Post) : Ev g M pc lv (.int y :: .int x :: st) hp Post := by
  intro p e s m args below meth c A H locs ls hA hP hD hS hl
  exact va_mmin hA.1 hA.2.1 (ls_ml hA hl) hA.2.2.2.1 (hA.2.2.2.2.1 _ h1) (hA.2.2.2.2.1 _ h2) (hA.2.2.2.2.1 _ h3) (hA.2.2.2.2.1 _ h4) (Nat.le_of_ble_eq_true hf) (by rw [cat_sum]; exact Nat.le_of_ble_eq_true hw) (Nat.zero_le _) (Nat.zero_le _) d (k p e s m args below meth c A H locs ls hA hP hD hS hl)
theorem ev_mmax_long {idx : Nat} {x y : Int64} (d : decode M.2.1 pc = .ok (.invokestatic idx, 3)) (h1 : Cond.methodLink M.1.cls idx Lib.MathLoose.max_long.x ∈ Ts) (h2 : Cond.static Lib.MathLoose.max_long.x ∈ Ts) (h3 : Cond.initialized "java/lang/Math" ∈ Ts) (h4 : Cond.code Lib.MathLoose.max_long.x Lib.MathLoose.max_long.code 4 (some .long) ∈ Ts) (hf : Nat.ble 1 M.2.2.2.2.frames = true) (hw : Nat.ble ((st.map fun v => v.category).sum + 15) M.2.2.2.2.locals = true) (k : Ev g M (pc + 3) lv (.long (if y < x then x else y) :: st) hp Post) : Ev g M pc lv (.long y :: .long x :: st) hp Post := by
  intro p e s m args below meth c A H locs ls hA hP hD hS hl
  exact va_mmax_long hA.1 hA.2.1 (ls_ml hA hl) hA.2.2.2.1 (hA.2.2.2.2.1 _ h1) (hA.2.2.2.2.1 _ h2) (hA.2.2.2.2.1 _ h3) (hA.2.2.2.2.1 _ h4) (Nat.le_of_ble_eq_true hf) (by rw [cat_sum]; exact Nat.le_of_ble_eq_true hw) (Nat.zero_le _) (Nat.zero_le _) d (k p e s m args below meth c A H locs ls hA hP hD hS hl)
theorem ev_mmin_long {idx : Nat} {x y : Int64} (d : decode M.2.1 pc = .ok (.invokestatic idx, 3)) (h1 : Cond.methodLink M.1.cls idx Lib.MathLoose.min_long.x ∈ Ts) (h2 : Cond.static Lib.MathLoose.min_long.x ∈ Ts) (h3 : Cond.initialized "java/lang/Math" ∈ Ts) (h4 : Cond.code Lib.MathLoose.min_long.x Lib.MathLoose.min_long.code 4 (some .long) ∈ Ts) (hf : Nat.ble 1 M.2.2.2.2.frames = true) (hw : Nat.ble ((st.map fun v => v.category).sum + 15) M.2.2.2.2.locals = true) (k : Ev g M (pc + 3) lv (.long (if y < x then y else x) :: st) hp Post) : Ev g M pc lv (.long y :: .long x :: st) hp Post := by
  intro p e s m args below meth c A H locs ls hA hP hD hS hl
  exact va_mmin_long hA.1 hA.2.1 (ls_ml hA hl) hA.2.2.2.1 (hA.2.2.2.2.1 _ h1) (hA.2.2.2.2.1 _ h2) (hA.2.2.2.2.1 _ h3) (hA.2.2.2.2.1 _ h4) (Nat.le_of_ble_eq_true hf) (by rw [cat_sum]; exact Nat.le_of_ble_eq_true hw) (Nat.zero_le _) (Nat.zero_le _) d (k p e s m args below meth c A H locs ls hA hP hD hS hl)
theorem ev_copyl {idx q0 q1 n0 n1 : Nat} {f f1 : Nat → Int64} {sp dp n : Int32} {hp' : List va_E} (d : decode M.2.1 pc = .ok (.invokestatic idx, 3)) (h1 : Cond.methodLink M.1.cls idx arraycopyName ∈ Ts) (h2 : Cond.native arraycopyName ∈ Ts) (h3 : Cond.static arraycopyName ∈ Ts) (h4 : Cond.initialized "java/lang/System" ∈ Ts)
    (he0 : hp[q0]? = some (.inl (1, n0, .inr (.inl f)))) (he1 : hp[q1]? = some (.inl (1, n1, .inr (.inl f1)))) (g1 : ¬ sp < 0) (g2 : ¬ dp < 0) (g3 : ¬ n < 0) (g4 : sp.toNatClampNeg + n.toNatClampNeg ≤ n0) (g5 : dp.toNatClampNeg + n.toNatClampNeg ≤ n1) (hf : Nat.ble 1 M.2.2.2.2.frames = true) (hw : Nat.ble ((st.map fun v => v.category).sum + (nativeFrameWords "java/lang/System" "arraycopy" 5 + 11)) M.2.2.2.2.locals = true)
    (hs : hp.set q1 (.inl (1, n1, .inr (.inl (va_cpy f f1 sp.toNatClampNeg dp.toNatClampNeg n.toNatClampNeg)))) = hp') (k : Ev g M (pc + 3) lv st hp' Post) : Ev g M pc lv (.int n :: .int dp :: .ref q1 :: .int sp :: .ref q0 :: st) hp Post := by
  intro p e s m args below meth c A H locs ls hA hP hD hS hl
  subst hs
  refine va_copyl hA.1 hA.2.1 (ls_ml hA hl) hA.2.2.2.1 (hA.2.2.2.2.1 _ h1) (hA.2.2.2.2.1 _ h2) (hA.2.2.2.2.1 _ h3) (hA.2.2.2.2.1 _ h4) hA.2.2.2.2.2.2.2.1 hP hD hS q0 q1 1 1 (wd_at (g := g) he0) (wd_at (g := g) he1) rfl rfl rfl g1 g2 g3 g4 g5 (fun _ _ => rfl) (Nat.le_of_ble_eq_true hf) (by rw [cat_sum]; exact Nat.le_of_ble_eq_true hw) d (fun H1 locs1 hP1 hD1 hS1 => ?_)
  have z : (wd g hp).set q1 (g.2.2.1 q1, .inl (g.2.2.2 1, n1, .inr (.inl (va_cpy f f1 sp.toNatClampNeg dp.toNatClampNeg n.toNatClampNeg)))) = wd g (hp.set q1 (.inl (1, n1, .inr (.inl (va_cpy f f1 sp.toNatClampNeg dp.toNatClampNeg n.toNatClampNeg))))) := wd_set (g := g) (e := .inl (1, n1, .inr (.inl (va_cpy f f1 sp.toNatClampNeg dp.toNatClampNeg n.toNatClampNeg))))
  rw [z] at hP1 hD1
  exact k p e s m args below meth c A H1 locs1 ls hA hP1 hD1 hS1 hl
theorem pl1 : plainName "java/lang/String" = true := by decide +kernel
theorem pl2 : plainName "java/lang/StringLatin1" = true := by decide +kernel
theorem pl4 : plainName "java/util/Arrays" = true := by decide +kernel
end EVS
end
section
/-- what the world's cells hold: ints, int rows, longs, long rows, references that move -/
abbrev St : Type := (Nat → Int32) × (Nat → Nat → Int32) × (Nat → Int64) × (Nat → Nat → Int64) × (Nat → Nat)
def setI (S : St) (n : Nat) (x : Int32) : St := (va_up S.1 n x, S.2)
def setA (S : St) (n : Nat) (f : Nat → Int32) : St := (S.1, va_up S.2.1 n f, S.2.2)
def setL (S : St) (n : Nat) (x : Int64) : St := (S.1, S.2.1, va_up S.2.2.1 n x, S.2.2.2)
def setB (S : St) (n : Nat) (f : Nat → Int64) : St := (S.1, S.2.1, S.2.2.1, va_up S.2.2.2.1 n f, S.2.2.2.2)
def setP (S : St) (n : Nat) (q : Nat) : St := (S.1, S.2.1, S.2.2.1, S.2.2.2.1, va_up S.2.2.2.2 n q)
/-- the cells -/
def hC (S : St) : List va_E := [
  .inr (9, [.ref 1, .ref 5, .ref 9, .ref 14, .ref 16, .ref 17, .ref 26, .ref 30, .ref (S.2.2.2.2 0), .ref (S.2.2.2.2 1), .int (S.1 0), .int (S.1 1)]),
  .inr (4, [.ref 2, .ref 3, .ref 4, .int (S.1 2)]),
  .inl (0, 40, .inl (S.2.1 0)),
  .inl (0, 40, .inl (S.2.1 1)),
  .inl (0, 40, .inl (S.2.1 2)),
  .inr (3, [.ref 6, .ref 7, .ref 8, .int (S.1 3)]),
  .inl (0, 200, .inl (S.2.1 3)),
  .inl (0, 200, .inl (S.2.1 4)),
  .inl (0, 200, .inl (S.2.1 5)),
  .inr (0, [.ref 10, .ref 11, .ref 12, .ref 13, .int (S.1 4), .int (S.1 5)]),
  .inl (0, 300, .inl (S.2.1 6)),
  .inl (0, 300, .inl (S.2.1 7)),
  .inl (0, 300, .inl (S.2.1 8)),
  .inl (0, 300, .inl (S.2.1 9)),
  .inr (7, [.ref 15, .int (S.1 6)]),
  .inl (0, 200, .inl (S.2.1 10)),
  .inr (2, [.ref 14, .ref (S.2.2.2.2 2), .int (S.1 7), .int (S.1 8), .int (S.1 9)]),
  .inr (1, [.ref 18, .ref 19, .ref 20, .ref 21, .ref 22, .ref 23, .ref 24, .ref 25, .long (S.2.2.1 0), .long (S.2.2.1 1), .long (S.2.2.1 2)]),
  .inl (1, 40, .inr (.inl (S.2.2.2.1 0))),
  .inl (1, 40, .inr (.inl (S.2.2.2.1 1))),
  .inl (1, 40, .inr (.inl (S.2.2.2.1 2))),
  .inl (1, 40, .inr (.inl (S.2.2.2.1 3))),
  .inl (1, 40, .inr (.inl (S.2.2.2.1 4))),
  .inl (1, 40, .inr (.inl (S.2.2.2.1 5))),
  .inl (1, 40, .inr (.inl (S.2.2.2.1 6))),
  .inl (1, 40, .inr (.inl (S.2.2.2.1 7))),
  .inr (5, [.ref 27, .ref 28, .ref 29, .int (S.1 10), .int (S.1 11)]),
  .inl (0, 60, .inl (S.2.1 11)),
  .inl (0, 60, .inl (S.2.1 12)),
  .inl (0, 60, .inl (S.2.1 13)),
  .inr (6, [.ref 31, .ref 32, .ref 33, .ref 34, .int (S.1 12), .int (S.1 13), .int (S.1 14), .int (S.1 15)]),
  .inl (0, 16, .inl (S.2.1 14)),
  .inl (0, 16, .inl (S.2.1 15)),
  .inl (0, 2754, .inl (S.2.1 16)),
  .inl (0, 17, .inl (S.2.1 17)),
  .inr (8, [.ref 36, .ref 37, .ref 38, .int (S.1 16), .int (S.1 18)]),
  .inl (0, 5, .inl (S.2.1 18)),
  .inl (0, 4, .inl (S.2.1 20)),
  .inl (0, 4, .inl (S.2.1 22)),
  .inr (8, [.ref 40, .ref 41, .ref 42, .int (S.1 17), .int (S.1 19)]),
  .inl (0, 5, .inl (S.2.1 19)),
  .inl (0, 4, .inl (S.2.1 21)),
  .inl (0, 4, .inl (S.2.1 23)),
  .inr (10, [.int (S.1 20), .int (S.1 21), .int (S.1 22), .ref 44, .ref 45, .ref 46, .int (S.1 23), .ref 47, .ref 48, .ref 49, .int (S.1 24), .ref 50, .ref 51, .ref 52, .ref 53, .int (S.1 25), .ref 54, .int (S.1 26), .ref 55, .ref 56, .int (S.1 27), .ref 57, .int (S.1 28), .ref 58, .ref 59, .ref 60, .int (S.1 29), .int (S.1 30), .int (S.1 31), .int (S.1 32), .long (S.2.2.1 3), .int (S.1 33), .int (S.1 34), .ref 61, .ref 62, .ref 63, .ref 64, .ref 65, .ref 66, .ref 67, .ref 68, .ref 69, .int (S.1 35), .int (S.1 36), .ref 70, .ref 71, .ref 72, .int (S.1 37), .ref 73, .ref 74, .int (S.1 38), .ref 75, .ref 76]),
  .inl (0, 40, .inl (S.2.1 24)),
  .inl (0, 40, .inl (S.2.1 25)),
  .inl (0, 40, .inl (S.2.1 26)),
  .inl (0, 200, .inl (S.2.1 27)),
  .inl (0, 200, .inl (S.2.1 28)),
  .inl (0, 200, .inl (S.2.1 29)),
  .inl (0, 300, .inl (S.2.1 30)),
  .inl (0, 300, .inl (S.2.1 31)),
  .inl (0, 300, .inl (S.2.1 32)),
  .inl (0, 300, .inl (S.2.1 33)),
  .inl (0, 5, .inl (S.2.1 34)),
  .inl (0, 4, .inl (S.2.1 35)),
  .inl (0, 4, .inl (S.2.1 36)),
  .inl (0, 5, .inl (S.2.1 37)),
  .inl (0, 4, .inl (S.2.1 38)),
  .inl (0, 4, .inl (S.2.1 39)),
  .inl (0, 200, .inl (S.2.1 40)),
  .inl (1, 40, .inr (.inl (S.2.2.2.1 8))),
  .inl (1, 40, .inr (.inl (S.2.2.2.1 9))),
  .inl (1, 40, .inr (.inl (S.2.2.2.1 10))),
  .inl (1, 40, .inr (.inl (S.2.2.2.1 11))),
  .inl (1, 40, .inr (.inl (S.2.2.2.1 12))),
  .inl (1, 40, .inr (.inl (S.2.2.2.1 13))),
  .inl (1, 40, .inr (.inl (S.2.2.2.1 14))),
  .inl (1, 40, .inr (.inl (S.2.2.2.1 15))),
  .inl (1, 40, .inr (.inl (S.2.2.2.1 16))),
  .inl (0, 60, .inl (S.2.1 41)),
  .inl (0, 60, .inl (S.2.1 42)),
  .inl (0, 60, .inl (S.2.1 43)),
  .inl (0, 16, .inl (S.2.1 44)),
  .inl (0, 16, .inl (S.2.1 45)),
  .inl (0, 17, .inl (S.2.1 46)),
  .inl (0, 9826, .inl (S.2.1 47))]
section EVL
variable {g : GG} {M : MD} {pc : Nat} {lv : List (Nat × Value)} {st : List Value} {S : St} {Post : Option Value → List va_E → Prop}
theorem get_MF_farmers {idx : Nat} (d : decode M.2.1 pc = .ok (.getfield idx, 3)) (f : Fl M.1.cls idx 9 0) (kk : Ev g M (pc + 3) lv (.ref 1 :: st) (hC S) Post) : Ev g M pc lv (.ref 0 :: st) (hC S) Post := ev_getf d f rfl rfl kk
theorem get_MF_credits {idx : Nat} (d : decode M.2.1 pc = .ok (.getfield idx, 3)) (f : Fl M.1.cls idx 9 1) (kk : Ev g M (pc + 3) lv (.ref 5 :: st) (hC S) Post) : Ev g M pc lv (.ref 0 :: st) (hC S) Post := ev_getf d f rfl rfl kk
theorem get_MF_baskets {idx : Nat} (d : decode M.2.1 pc = .ok (.getfield idx, 3)) (f : Fl M.1.cls idx 9 2) (kk : Ev g M (pc + 3) lv (.ref 9 :: st) (hC S) Post) : Ev g M pc lv (.ref 0 :: st) (hC S) Post := ev_getf d f rfl rfl kk
theorem get_MF_tape {idx : Nat} (d : decode M.2.1 pc = .ok (.getfield idx, 3)) (f : Fl M.1.cls idx 9 3) (kk : Ev g M (pc + 3) lv (.ref 14 :: st) (hC S) Post) : Ev g M pc lv (.ref 0 :: st) (hC S) Post := ev_getf d f rfl rfl kk
theorem get_MF_reader {idx : Nat} (d : decode M.2.1 pc = .ok (.getfield idx, 3)) (f : Fl M.1.cls idx 9 4) (kk : Ev g M (pc + 3) lv (.ref 16 :: st) (hC S) Post) : Ev g M pc lv (.ref 0 :: st) (hC S) Post := ev_getf d f rfl rfl kk
theorem get_MF_books {idx : Nat} (d : decode M.2.1 pc = .ok (.getfield idx, 3)) (f : Fl M.1.cls idx 9 5) (kk : Ev g M (pc + 3) lv (.ref 17 :: st) (hC S) Post) : Ev g M pc lv (.ref 0 :: st) (hC S) Post := ev_getf d f rfl rfl kk
theorem get_MF_land {idx : Nat} (d : decode M.2.1 pc = .ok (.getfield idx, 3)) (f : Fl M.1.cls idx 9 6) (kk : Ev g M (pc + 3) lv (.ref 26 :: st) (hC S) Post) : Ev g M pc lv (.ref 0 :: st) (hC S) Post := ev_getf d f rfl rfl kk
theorem get_MF_road {idx : Nat} (d : decode M.2.1 pc = .ok (.getfield idx, 3)) (f : Fl M.1.cls idx 9 7) (kk : Ev g M (pc + 3) lv (.ref 30 :: st) (hC S) Post) : Ev g M pc lv (.ref 0 :: st) (hC S) Post := ev_getf d f rfl rfl kk
theorem get_MF_terms {idx : Nat} {x : Nat} (d : decode M.2.1 pc = .ok (.getfield idx, 3)) (f : Fl M.1.cls idx 9 8) (h : S.2.2.2.2 0 = x) (kk : Ev g M (pc + 3) lv (.ref x :: st) (hC S) Post) : Ev g M pc lv (.ref 0 :: st) (hC S) Post := by subst h; exact ev_getf d f rfl rfl kk
theorem put_MF_terms {idx : Nat} {x : Nat} (d : decode M.2.1 pc = .ok (.putfield idx, 3)) (f : Fp M.1.cls idx 9 8 (.object "MillFarmers$Terms")) (kk : Ev g M (pc + 3) lv st (hC (setP S 0 x)) Post) : Ev g M pc lv (.ref x :: .ref 0 :: st) (hC S) Post := ev_putf d f rfl rfl (fun _ => rfl) (fun _ => rfl) rfl kk
theorem get_MF_draft {idx : Nat} {x : Nat} (d : decode M.2.1 pc = .ok (.getfield idx, 3)) (f : Fl M.1.cls idx 9 9) (h : S.2.2.2.2 1 = x) (kk : Ev g M (pc + 3) lv (.ref x :: st) (hC S) Post) : Ev g M pc lv (.ref 0 :: st) (hC S) Post := by subst h; exact ev_getf d f rfl rfl kk
theorem put_MF_draft {idx : Nat} {x : Nat} (d : decode M.2.1 pc = .ok (.putfield idx, 3)) (f : Fp M.1.cls idx 9 9 (.object "MillFarmers$Terms")) (kk : Ev g M (pc + 3) lv st (hC (setP S 1 x)) Post) : Ev g M pc lv (.ref x :: .ref 0 :: st) (hC S) Post := ev_putf d f rfl rfl (fun _ => rfl) (fun _ => rfl) rfl kk
theorem get_MF_faultPlace {idx : Nat} {x : Int32} (d : decode M.2.1 pc = .ok (.getfield idx, 3)) (f : Fl M.1.cls idx 9 10) (h : S.1 0 = x) (kk : Ev g M (pc + 3) lv (.int x :: st) (hC S) Post) : Ev g M pc lv (.ref 0 :: st) (hC S) Post := by subst h; exact ev_getf d f rfl rfl kk
theorem put_MF_faultPlace {idx : Nat} {x : Int32} (d : decode M.2.1 pc = .ok (.putfield idx, 3)) (f : Fp M.1.cls idx 9 10 .int) (kk : Ev g M (pc + 3) lv st (hC (setI S 0 x)) Post) : Ev g M pc lv (.int x :: .ref 0 :: st) (hC S) Post := ev_putf d f rfl rfl (fun _ => rfl) (fun _ => rfl) rfl kk
theorem get_MF_refusal {idx : Nat} {x : Int32} (d : decode M.2.1 pc = .ok (.getfield idx, 3)) (f : Fl M.1.cls idx 9 11) (h : S.1 1 = x) (kk : Ev g M (pc + 3) lv (.int x :: st) (hC S) Post) : Ev g M pc lv (.ref 0 :: st) (hC S) Post := by subst h; exact ev_getf d f rfl rfl kk
theorem put_MF_refusal {idx : Nat} {x : Int32} (d : decode M.2.1 pc = .ok (.putfield idx, 3)) (f : Fp M.1.cls idx 9 11 .int) (kk : Ev g M (pc + 3) lv st (hC (setI S 1 x)) Post) : Ev g M pc lv (.int x :: .ref 0 :: st) (hC S) Post := ev_putf d f rfl rfl (fun _ => rfl) (fun _ => rfl) rfl kk
theorem get_F_group {idx : Nat} (d : decode M.2.1 pc = .ok (.getfield idx, 3)) (f : Fl M.1.cls idx 4 0) (kk : Ev g M (pc + 3) lv (.ref 2 :: st) (hC S) Post) : Ev g M pc lv (.ref 1 :: st) (hC S) Post := ev_getf d f rfl rfl kk
theorem get_F_place {idx : Nat} (d : decode M.2.1 pc = .ok (.getfield idx, 3)) (f : Fl M.1.cls idx 4 1) (kk : Ev g M (pc + 3) lv (.ref 3 :: st) (hC S) Post) : Ev g M pc lv (.ref 1 :: st) (hC S) Post := ev_getf d f rfl rfl kk
theorem get_F_fields {idx : Nat} (d : decode M.2.1 pc = .ok (.getfield idx, 3)) (f : Fl M.1.cls idx 4 2) (kk : Ev g M (pc + 3) lv (.ref 4 :: st) (hC S) Post) : Ev g M pc lv (.ref 1 :: st) (hC S) Post := ev_getf d f rfl rfl kk
theorem get_F_size {idx : Nat} {x : Int32} (d : decode M.2.1 pc = .ok (.getfield idx, 3)) (f : Fl M.1.cls idx 4 3) (h : S.1 2 = x) (kk : Ev g M (pc + 3) lv (.int x :: st) (hC S) Post) : Ev g M pc lv (.ref 1 :: st) (hC S) Post := by subst h; exact ev_getf d f rfl rfl kk
theorem put_F_size {idx : Nat} {x : Int32} (d : decode M.2.1 pc = .ok (.putfield idx, 3)) (f : Fp M.1.cls idx 4 3 .int) (kk : Ev g M (pc + 3) lv st (hC (setI S 2 x)) Post) : Ev g M pc lv (.int x :: .ref 1 :: st) (hC S) Post := ev_putf d f rfl rfl (fun _ => rfl) (fun _ => rfl) rfl kk
theorem ld_F_group {i : Int32} {x : Int32} (d : decode M.2.1 pc = .ok (.iaload, 1)) (hin : vp_in i 40) (h : S.2.1 0 i.toNatClampNeg = x) (kk : Ev g M (pc + 1) lv (.int x :: st) (hC S) Post) : Ev g M pc lv (.int i :: .ref 2 :: st) (hC S) Post := by subst h; exact ev_iald d rfl hin kk
theorem ldN_F_group {k : Nat} {x : Int32} (d : decode M.2.1 pc = .ok (.iaload, 1)) (hk : k < 40) (h : S.2.1 0 k = x) (kk : Ev g M (pc + 1) lv (.int x :: st) (hC S) Post) : Ev g M pc lv (.int (nI k) :: .ref 2 :: st) (hC S) Post := ld_F_group d (vp_in_nI hk (by decide)) (by rw [nI_clamp (by omega)]; exact h) kk
theorem as_F_group {i : Int32} {x : Int32} (d : decode M.2.1 pc = .ok (.iastore, 1)) (hin : vp_in i 40) (kk : Ev g M (pc + 1) lv st (hC (setA S 0 (upd (S.2.1 0) i.toNatClampNeg x))) Post) : Ev g M pc lv (.int x :: .int i :: .ref 2 :: st) (hC S) Post := ev_iast d rfl hin rfl kk
theorem asN_F_group {k : Nat} {x : Int32} (d : decode M.2.1 pc = .ok (.iastore, 1)) (hk : k < 40) (kk : Ev g M (pc + 1) lv st (hC (setA S 0 (upd (S.2.1 0) k x))) Post) : Ev g M pc lv (.int x :: .int (nI k) :: .ref 2 :: st) (hC S) Post := as_F_group d (vp_in_nI hk (by decide)) (by rw [nI_clamp (by omega)]; exact kk)
theorem ld_F_place {i : Int32} {x : Int32} (d : decode M.2.1 pc = .ok (.iaload, 1)) (hin : vp_in i 40) (h : S.2.1 1 i.toNatClampNeg = x) (kk : Ev g M (pc + 1) lv (.int x :: st) (hC S) Post) : Ev g M pc lv (.int i :: .ref 3 :: st) (hC S) Post := by subst h; exact ev_iald d rfl hin kk
theorem ldN_F_place {k : Nat} {x : Int32} (d : decode M.2.1 pc = .ok (.iaload, 1)) (hk : k < 40) (h : S.2.1 1 k = x) (kk : Ev g M (pc + 1) lv (.int x :: st) (hC S) Post) : Ev g M pc lv (.int (nI k) :: .ref 3 :: st) (hC S) Post := ld_F_place d (vp_in_nI hk (by decide)) (by rw [nI_clamp (by omega)]; exact h) kk
theorem as_F_place {i : Int32} {x : Int32} (d : decode M.2.1 pc = .ok (.iastore, 1)) (hin : vp_in i 40) (kk : Ev g M (pc + 1) lv st (hC (setA S 1 (upd (S.2.1 1) i.toNatClampNeg x))) Post) : Ev g M pc lv (.int x :: .int i :: .ref 3 :: st) (hC S) Post := ev_iast d rfl hin rfl kk
theorem asN_F_place {k : Nat} {x : Int32} (d : decode M.2.1 pc = .ok (.iastore, 1)) (hk : k < 40) (kk : Ev g M (pc + 1) lv st (hC (setA S 1 (upd (S.2.1 1) k x))) Post) : Ev g M pc lv (.int x :: .int (nI k) :: .ref 3 :: st) (hC S) Post := as_F_place d (vp_in_nI hk (by decide)) (by rw [nI_clamp (by omega)]; exact kk)
theorem ld_F_fields {i : Int32} {x : Int32} (d : decode M.2.1 pc = .ok (.iaload, 1)) (hin : vp_in i 40) (h : S.2.1 2 i.toNatClampNeg = x) (kk : Ev g M (pc + 1) lv (.int x :: st) (hC S) Post) : Ev g M pc lv (.int i :: .ref 4 :: st) (hC S) Post := by subst h; exact ev_iald d rfl hin kk
theorem ldN_F_fields {k : Nat} {x : Int32} (d : decode M.2.1 pc = .ok (.iaload, 1)) (hk : k < 40) (h : S.2.1 2 k = x) (kk : Ev g M (pc + 1) lv (.int x :: st) (hC S) Post) : Ev g M pc lv (.int (nI k) :: .ref 4 :: st) (hC S) Post := ld_F_fields d (vp_in_nI hk (by decide)) (by rw [nI_clamp (by omega)]; exact h) kk
theorem as_F_fields {i : Int32} {x : Int32} (d : decode M.2.1 pc = .ok (.iastore, 1)) (hin : vp_in i 40) (kk : Ev g M (pc + 1) lv st (hC (setA S 2 (upd (S.2.1 2) i.toNatClampNeg x))) Post) : Ev g M pc lv (.int x :: .int i :: .ref 4 :: st) (hC S) Post := ev_iast d rfl hin rfl kk
theorem asN_F_fields {k : Nat} {x : Int32} (d : decode M.2.1 pc = .ok (.iastore, 1)) (hk : k < 40) (kk : Ev g M (pc + 1) lv st (hC (setA S 2 (upd (S.2.1 2) k x))) Post) : Ev g M pc lv (.int x :: .int (nI k) :: .ref 4 :: st) (hC S) Post := as_F_fields d (vp_in_nI hk (by decide)) (by rw [nI_clamp (by omega)]; exact kk)
theorem get_C_farmer {idx : Nat} (d : decode M.2.1 pc = .ok (.getfield idx, 3)) (f : Fl M.1.cls idx 3 0) (kk : Ev g M (pc + 3) lv (.ref 6 :: st) (hC S) Post) : Ev g M pc lv (.ref 5 :: st) (hC S) Post := ev_getf d f rfl rfl kk
theorem get_C_amount {idx : Nat} (d : decode M.2.1 pc = .ok (.getfield idx, 3)) (f : Fl M.1.cls idx 3 1) (kk : Ev g M (pc + 3) lv (.ref 7 :: st) (hC S) Post) : Ev g M pc lv (.ref 5 :: st) (hC S) Post := ev_getf d f rfl rfl kk
theorem get_C_known {idx : Nat} (d : decode M.2.1 pc = .ok (.getfield idx, 3)) (f : Fl M.1.cls idx 3 2) (kk : Ev g M (pc + 3) lv (.ref 8 :: st) (hC S) Post) : Ev g M pc lv (.ref 5 :: st) (hC S) Post := ev_getf d f rfl rfl kk
theorem get_C_size {idx : Nat} {x : Int32} (d : decode M.2.1 pc = .ok (.getfield idx, 3)) (f : Fl M.1.cls idx 3 3) (h : S.1 3 = x) (kk : Ev g M (pc + 3) lv (.int x :: st) (hC S) Post) : Ev g M pc lv (.ref 5 :: st) (hC S) Post := by subst h; exact ev_getf d f rfl rfl kk
theorem put_C_size {idx : Nat} {x : Int32} (d : decode M.2.1 pc = .ok (.putfield idx, 3)) (f : Fp M.1.cls idx 3 3 .int) (kk : Ev g M (pc + 3) lv st (hC (setI S 3 x)) Post) : Ev g M pc lv (.int x :: .ref 5 :: st) (hC S) Post := ev_putf d f rfl rfl (fun _ => rfl) (fun _ => rfl) rfl kk
theorem ld_C_farmer {i : Int32} {x : Int32} (d : decode M.2.1 pc = .ok (.iaload, 1)) (hin : vp_in i 200) (h : S.2.1 3 i.toNatClampNeg = x) (kk : Ev g M (pc + 1) lv (.int x :: st) (hC S) Post) : Ev g M pc lv (.int i :: .ref 6 :: st) (hC S) Post := by subst h; exact ev_iald d rfl hin kk
theorem ldN_C_farmer {k : Nat} {x : Int32} (d : decode M.2.1 pc = .ok (.iaload, 1)) (hk : k < 200) (h : S.2.1 3 k = x) (kk : Ev g M (pc + 1) lv (.int x :: st) (hC S) Post) : Ev g M pc lv (.int (nI k) :: .ref 6 :: st) (hC S) Post := ld_C_farmer d (vp_in_nI hk (by decide)) (by rw [nI_clamp (by omega)]; exact h) kk
theorem as_C_farmer {i : Int32} {x : Int32} (d : decode M.2.1 pc = .ok (.iastore, 1)) (hin : vp_in i 200) (kk : Ev g M (pc + 1) lv st (hC (setA S 3 (upd (S.2.1 3) i.toNatClampNeg x))) Post) : Ev g M pc lv (.int x :: .int i :: .ref 6 :: st) (hC S) Post := ev_iast d rfl hin rfl kk
theorem asN_C_farmer {k : Nat} {x : Int32} (d : decode M.2.1 pc = .ok (.iastore, 1)) (hk : k < 200) (kk : Ev g M (pc + 1) lv st (hC (setA S 3 (upd (S.2.1 3) k x))) Post) : Ev g M pc lv (.int x :: .int (nI k) :: .ref 6 :: st) (hC S) Post := as_C_farmer d (vp_in_nI hk (by decide)) (by rw [nI_clamp (by omega)]; exact kk)
theorem ld_C_amount {i : Int32} {x : Int32} (d : decode M.2.1 pc = .ok (.iaload, 1)) (hin : vp_in i 200) (h : S.2.1 4 i.toNatClampNeg = x) (kk : Ev g M (pc + 1) lv (.int x :: st) (hC S) Post) : Ev g M pc lv (.int i :: .ref 7 :: st) (hC S) Post := by subst h; exact ev_iald d rfl hin kk
theorem ldN_C_amount {k : Nat} {x : Int32} (d : decode M.2.1 pc = .ok (.iaload, 1)) (hk : k < 200) (h : S.2.1 4 k = x) (kk : Ev g M (pc + 1) lv (.int x :: st) (hC S) Post) : Ev g M pc lv (.int (nI k) :: .ref 7 :: st) (hC S) Post := ld_C_amount d (vp_in_nI hk (by decide)) (by rw [nI_clamp (by omega)]; exact h) kk
theorem as_C_amount {i : Int32} {x : Int32} (d : decode M.2.1 pc = .ok (.iastore, 1)) (hin : vp_in i 200) (kk : Ev g M (pc + 1) lv st (hC (setA S 4 (upd (S.2.1 4) i.toNatClampNeg x))) Post) : Ev g M pc lv (.int x :: .int i :: .ref 7 :: st) (hC S) Post := ev_iast d rfl hin rfl kk
theorem asN_C_amount {k : Nat} {x : Int32} (d : decode M.2.1 pc = .ok (.iastore, 1)) (hk : k < 200) (kk : Ev g M (pc + 1) lv st (hC (setA S 4 (upd (S.2.1 4) k x))) Post) : Ev g M pc lv (.int x :: .int (nI k) :: .ref 7 :: st) (hC S) Post := as_C_amount d (vp_in_nI hk (by decide)) (by rw [nI_clamp (by omega)]; exact kk)
theorem ld_C_known {i : Int32} {x : Int32} (d : decode M.2.1 pc = .ok (.iaload, 1)) (hin : vp_in i 200) (h : S.2.1 5 i.toNatClampNeg = x) (kk : Ev g M (pc + 1) lv (.int x :: st) (hC S) Post) : Ev g M pc lv (.int i :: .ref 8 :: st) (hC S) Post := by subst h; exact ev_iald d rfl hin kk
theorem ldN_C_known {k : Nat} {x : Int32} (d : decode M.2.1 pc = .ok (.iaload, 1)) (hk : k < 200) (h : S.2.1 5 k = x) (kk : Ev g M (pc + 1) lv (.int x :: st) (hC S) Post) : Ev g M pc lv (.int (nI k) :: .ref 8 :: st) (hC S) Post := ld_C_known d (vp_in_nI hk (by decide)) (by rw [nI_clamp (by omega)]; exact h) kk
theorem as_C_known {i : Int32} {x : Int32} (d : decode M.2.1 pc = .ok (.iastore, 1)) (hin : vp_in i 200) (kk : Ev g M (pc + 1) lv st (hC (setA S 5 (upd (S.2.1 5) i.toNatClampNeg x))) Post) : Ev g M pc lv (.int x :: .int i :: .ref 8 :: st) (hC S) Post := ev_iast d rfl hin rfl kk
theorem asN_C_known {k : Nat} {x : Int32} (d : decode M.2.1 pc = .ok (.iastore, 1)) (hk : k < 200) (kk : Ev g M (pc + 1) lv st (hC (setA S 5 (upd (S.2.1 5) k x))) Post) : Ev g M pc lv (.int x :: .int (nI k) :: .ref 8 :: st) (hC S) Post := as_C_known d (vp_in_nI hk (by decide)) (by rw [nI_clamp (by omega)]; exact kk)
theorem get_K_farmer {idx : Nat} (d : decode M.2.1 pc = .ok (.getfield idx, 3)) (f : Fl M.1.cls idx 0 0) (kk : Ev g M (pc + 3) lv (.ref 10 :: st) (hC S) Post) : Ev g M pc lv (.ref 9 :: st) (hC S) Post := ev_getf d f rfl rfl kk
theorem get_K_weight {idx : Nat} (d : decode M.2.1 pc = .ok (.getfield idx, 3)) (f : Fl M.1.cls idx 0 1) (kk : Ev g M (pc + 3) lv (.ref 11 :: st) (hC S) Post) : Ev g M pc lv (.ref 9 :: st) (hC S) Post := ev_getf d f rfl rfl kk
theorem get_K_grade {idx : Nat} (d : decode M.2.1 pc = .ok (.getfield idx, 3)) (f : Fl M.1.cls idx 0 2) (kk : Ev g M (pc + 3) lv (.ref 12 :: st) (hC S) Post) : Ev g M pc lv (.ref 9 :: st) (hC S) Post := ev_getf d f rfl rfl kk
theorem get_K_known {idx : Nat} (d : decode M.2.1 pc = .ok (.getfield idx, 3)) (f : Fl M.1.cls idx 0 3) (kk : Ev g M (pc + 3) lv (.ref 13 :: st) (hC S) Post) : Ev g M pc lv (.ref 9 :: st) (hC S) Post := ev_getf d f rfl rfl kk
theorem get_K_size {idx : Nat} {x : Int32} (d : decode M.2.1 pc = .ok (.getfield idx, 3)) (f : Fl M.1.cls idx 0 4) (h : S.1 4 = x) (kk : Ev g M (pc + 3) lv (.int x :: st) (hC S) Post) : Ev g M pc lv (.ref 9 :: st) (hC S) Post := by subst h; exact ev_getf d f rfl rfl kk
theorem put_K_size {idx : Nat} {x : Int32} (d : decode M.2.1 pc = .ok (.putfield idx, 3)) (f : Fp M.1.cls idx 0 4 .int) (kk : Ev g M (pc + 3) lv st (hC (setI S 4 x)) Post) : Ev g M pc lv (.int x :: .ref 9 :: st) (hC S) Post := ev_putf d f rfl rfl (fun _ => rfl) (fun _ => rfl) rfl kk
theorem get_K_weightTogether {idx : Nat} {x : Int32} (d : decode M.2.1 pc = .ok (.getfield idx, 3)) (f : Fl M.1.cls idx 0 5) (h : S.1 5 = x) (kk : Ev g M (pc + 3) lv (.int x :: st) (hC S) Post) : Ev g M pc lv (.ref 9 :: st) (hC S) Post := by subst h; exact ev_getf d f rfl rfl kk
theorem put_K_weightTogether {idx : Nat} {x : Int32} (d : decode M.2.1 pc = .ok (.putfield idx, 3)) (f : Fp M.1.cls idx 0 5 .int) (kk : Ev g M (pc + 3) lv st (hC (setI S 5 x)) Post) : Ev g M pc lv (.int x :: .ref 9 :: st) (hC S) Post := ev_putf d f rfl rfl (fun _ => rfl) (fun _ => rfl) rfl kk
theorem ld_K_farmer {i : Int32} {x : Int32} (d : decode M.2.1 pc = .ok (.iaload, 1)) (hin : vp_in i 300) (h : S.2.1 6 i.toNatClampNeg = x) (kk : Ev g M (pc + 1) lv (.int x :: st) (hC S) Post) : Ev g M pc lv (.int i :: .ref 10 :: st) (hC S) Post := by subst h; exact ev_iald d rfl hin kk
theorem ldN_K_farmer {k : Nat} {x : Int32} (d : decode M.2.1 pc = .ok (.iaload, 1)) (hk : k < 300) (h : S.2.1 6 k = x) (kk : Ev g M (pc + 1) lv (.int x :: st) (hC S) Post) : Ev g M pc lv (.int (nI k) :: .ref 10 :: st) (hC S) Post := ld_K_farmer d (vp_in_nI hk (by decide)) (by rw [nI_clamp (by omega)]; exact h) kk
theorem as_K_farmer {i : Int32} {x : Int32} (d : decode M.2.1 pc = .ok (.iastore, 1)) (hin : vp_in i 300) (kk : Ev g M (pc + 1) lv st (hC (setA S 6 (upd (S.2.1 6) i.toNatClampNeg x))) Post) : Ev g M pc lv (.int x :: .int i :: .ref 10 :: st) (hC S) Post := ev_iast d rfl hin rfl kk
theorem asN_K_farmer {k : Nat} {x : Int32} (d : decode M.2.1 pc = .ok (.iastore, 1)) (hk : k < 300) (kk : Ev g M (pc + 1) lv st (hC (setA S 6 (upd (S.2.1 6) k x))) Post) : Ev g M pc lv (.int x :: .int (nI k) :: .ref 10 :: st) (hC S) Post := as_K_farmer d (vp_in_nI hk (by decide)) (by rw [nI_clamp (by omega)]; exact kk)
theorem ld_K_weight {i : Int32} {x : Int32} (d : decode M.2.1 pc = .ok (.iaload, 1)) (hin : vp_in i 300) (h : S.2.1 7 i.toNatClampNeg = x) (kk : Ev g M (pc + 1) lv (.int x :: st) (hC S) Post) : Ev g M pc lv (.int i :: .ref 11 :: st) (hC S) Post := by subst h; exact ev_iald d rfl hin kk
theorem ldN_K_weight {k : Nat} {x : Int32} (d : decode M.2.1 pc = .ok (.iaload, 1)) (hk : k < 300) (h : S.2.1 7 k = x) (kk : Ev g M (pc + 1) lv (.int x :: st) (hC S) Post) : Ev g M pc lv (.int (nI k) :: .ref 11 :: st) (hC S) Post := ld_K_weight d (vp_in_nI hk (by decide)) (by rw [nI_clamp (by omega)]; exact h) kk
theorem as_K_weight {i : Int32} {x : Int32} (d : decode M.2.1 pc = .ok (.iastore, 1)) (hin : vp_in i 300) (kk : Ev g M (pc + 1) lv st (hC (setA S 7 (upd (S.2.1 7) i.toNatClampNeg x))) Post) : Ev g M pc lv (.int x :: .int i :: .ref 11 :: st) (hC S) Post := ev_iast d rfl hin rfl kk
theorem asN_K_weight {k : Nat} {x : Int32} (d : decode M.2.1 pc = .ok (.iastore, 1)) (hk : k < 300) (kk : Ev g M (pc + 1) lv st (hC (setA S 7 (upd (S.2.1 7) k x))) Post) : Ev g M pc lv (.int x :: .int (nI k) :: .ref 11 :: st) (hC S) Post := as_K_weight d (vp_in_nI hk (by decide)) (by rw [nI_clamp (by omega)]; exact kk)
theorem ld_K_grade {i : Int32} {x : Int32} (d : decode M.2.1 pc = .ok (.iaload, 1)) (hin : vp_in i 300) (h : S.2.1 8 i.toNatClampNeg = x) (kk : Ev g M (pc + 1) lv (.int x :: st) (hC S) Post) : Ev g M pc lv (.int i :: .ref 12 :: st) (hC S) Post := by subst h; exact ev_iald d rfl hin kk
theorem ldN_K_grade {k : Nat} {x : Int32} (d : decode M.2.1 pc = .ok (.iaload, 1)) (hk : k < 300) (h : S.2.1 8 k = x) (kk : Ev g M (pc + 1) lv (.int x :: st) (hC S) Post) : Ev g M pc lv (.int (nI k) :: .ref 12 :: st) (hC S) Post := ld_K_grade d (vp_in_nI hk (by decide)) (by rw [nI_clamp (by omega)]; exact h) kk
theorem as_K_grade {i : Int32} {x : Int32} (d : decode M.2.1 pc = .ok (.iastore, 1)) (hin : vp_in i 300) (kk : Ev g M (pc + 1) lv st (hC (setA S 8 (upd (S.2.1 8) i.toNatClampNeg x))) Post) : Ev g M pc lv (.int x :: .int i :: .ref 12 :: st) (hC S) Post := ev_iast d rfl hin rfl kk
theorem asN_K_grade {k : Nat} {x : Int32} (d : decode M.2.1 pc = .ok (.iastore, 1)) (hk : k < 300) (kk : Ev g M (pc + 1) lv st (hC (setA S 8 (upd (S.2.1 8) k x))) Post) : Ev g M pc lv (.int x :: .int (nI k) :: .ref 12 :: st) (hC S) Post := as_K_grade d (vp_in_nI hk (by decide)) (by rw [nI_clamp (by omega)]; exact kk)
theorem ld_K_known {i : Int32} {x : Int32} (d : decode M.2.1 pc = .ok (.iaload, 1)) (hin : vp_in i 300) (h : S.2.1 9 i.toNatClampNeg = x) (kk : Ev g M (pc + 1) lv (.int x :: st) (hC S) Post) : Ev g M pc lv (.int i :: .ref 13 :: st) (hC S) Post := by subst h; exact ev_iald d rfl hin kk
theorem ldN_K_known {k : Nat} {x : Int32} (d : decode M.2.1 pc = .ok (.iaload, 1)) (hk : k < 300) (h : S.2.1 9 k = x) (kk : Ev g M (pc + 1) lv (.int x :: st) (hC S) Post) : Ev g M pc lv (.int (nI k) :: .ref 13 :: st) (hC S) Post := ld_K_known d (vp_in_nI hk (by decide)) (by rw [nI_clamp (by omega)]; exact h) kk
theorem as_K_known {i : Int32} {x : Int32} (d : decode M.2.1 pc = .ok (.iastore, 1)) (hin : vp_in i 300) (kk : Ev g M (pc + 1) lv st (hC (setA S 9 (upd (S.2.1 9) i.toNatClampNeg x))) Post) : Ev g M pc lv (.int x :: .int i :: .ref 13 :: st) (hC S) Post := ev_iast d rfl hin rfl kk
theorem asN_K_known {k : Nat} {x : Int32} (d : decode M.2.1 pc = .ok (.iastore, 1)) (hk : k < 300) (kk : Ev g M (pc + 1) lv st (hC (setA S 9 (upd (S.2.1 9) k x))) Post) : Ev g M pc lv (.int x :: .int (nI k) :: .ref 13 :: st) (hC S) Post := as_K_known d (vp_in_nI hk (by decide)) (by rw [nI_clamp (by omega)]; exact kk)
theorem get_TP_bytes {idx : Nat} (d : decode M.2.1 pc = .ok (.getfield idx, 3)) (f : Fl M.1.cls idx 7 0) (kk : Ev g M (pc + 3) lv (.ref 15 :: st) (hC S) Post) : Ev g M pc lv (.ref 14 :: st) (hC S) Post := ev_getf d f rfl rfl kk
theorem get_TP_length {idx : Nat} {x : Int32} (d : decode M.2.1 pc = .ok (.getfield idx, 3)) (f : Fl M.1.cls idx 7 1) (h : S.1 6 = x) (kk : Ev g M (pc + 3) lv (.int x :: st) (hC S) Post) : Ev g M pc lv (.ref 14 :: st) (hC S) Post := by subst h; exact ev_getf d f rfl rfl kk
theorem put_TP_length {idx : Nat} {x : Int32} (d : decode M.2.1 pc = .ok (.putfield idx, 3)) (f : Fp M.1.cls idx 7 1 .int) (kk : Ev g M (pc + 3) lv st (hC (setI S 6 x)) Post) : Ev g M pc lv (.int x :: .ref 14 :: st) (hC S) Post := ev_putf d f rfl rfl (fun _ => rfl) (fun _ => rfl) rfl kk
theorem ld_TP_bytes {i : Int32} {x : Int32} (d : decode M.2.1 pc = .ok (.iaload, 1)) (hin : vp_in i 200) (h : S.2.1 10 i.toNatClampNeg = x) (kk : Ev g M (pc + 1) lv (.int x :: st) (hC S) Post) : Ev g M pc lv (.int i :: .ref 15 :: st) (hC S) Post := by subst h; exact ev_iald d rfl hin kk
theorem ldN_TP_bytes {k : Nat} {x : Int32} (d : decode M.2.1 pc = .ok (.iaload, 1)) (hk : k < 200) (h : S.2.1 10 k = x) (kk : Ev g M (pc + 1) lv (.int x :: st) (hC S) Post) : Ev g M pc lv (.int (nI k) :: .ref 15 :: st) (hC S) Post := ld_TP_bytes d (vp_in_nI hk (by decide)) (by rw [nI_clamp (by omega)]; exact h) kk
theorem as_TP_bytes {i : Int32} {x : Int32} (d : decode M.2.1 pc = .ok (.iastore, 1)) (hin : vp_in i 200) (kk : Ev g M (pc + 1) lv st (hC (setA S 10 (upd (S.2.1 10) i.toNatClampNeg x))) Post) : Ev g M pc lv (.int x :: .int i :: .ref 15 :: st) (hC S) Post := ev_iast d rfl hin rfl kk
theorem asN_TP_bytes {k : Nat} {x : Int32} (d : decode M.2.1 pc = .ok (.iastore, 1)) (hk : k < 200) (kk : Ev g M (pc + 1) lv st (hC (setA S 10 (upd (S.2.1 10) k x))) Post) : Ev g M pc lv (.int x :: .int (nI k) :: .ref 15 :: st) (hC S) Post := as_TP_bytes d (vp_in_nI hk (by decide)) (by rw [nI_clamp (by omega)]; exact kk)
theorem get_R_text {idx : Nat} (d : decode M.2.1 pc = .ok (.getfield idx, 3)) (f : Fl M.1.cls idx 2 0) (kk : Ev g M (pc + 3) lv (.ref 14 :: st) (hC S) Post) : Ev g M pc lv (.ref 16 :: st) (hC S) Post := ev_getf d f rfl rfl kk
theorem get_R_terms {idx : Nat} {x : Nat} (d : decode M.2.1 pc = .ok (.getfield idx, 3)) (f : Fl M.1.cls idx 2 1) (h : S.2.2.2.2 2 = x) (kk : Ev g M (pc + 3) lv (.ref x :: st) (hC S) Post) : Ev g M pc lv (.ref 16 :: st) (hC S) Post := by subst h; exact ev_getf d f rfl rfl kk
theorem put_R_terms {idx : Nat} {x : Nat} (d : decode M.2.1 pc = .ok (.putfield idx, 3)) (f : Fp M.1.cls idx 2 1 (.object "MillFarmers$Terms")) (kk : Ev g M (pc + 3) lv st (hC (setP S 2 x)) Post) : Ev g M pc lv (.ref x :: .ref 16 :: st) (hC S) Post := ev_putf d f rfl rfl (fun _ => rfl) (fun _ => rfl) rfl kk
theorem get_R_kind {idx : Nat} {x : Int32} (d : decode M.2.1 pc = .ok (.getfield idx, 3)) (f : Fl M.1.cls idx 2 2) (h : S.1 7 = x) (kk : Ev g M (pc + 3) lv (.int x :: st) (hC S) Post) : Ev g M pc lv (.ref 16 :: st) (hC S) Post := by subst h; exact ev_getf d f rfl rfl kk
theorem put_R_kind {idx : Nat} {x : Int32} (d : decode M.2.1 pc = .ok (.putfield idx, 3)) (f : Fp M.1.cls idx 2 2 .int) (kk : Ev g M (pc + 3) lv st (hC (setI S 7 x)) Post) : Ev g M pc lv (.int x :: .ref 16 :: st) (hC S) Post := ev_putf d f rfl rfl (fun _ => rfl) (fun _ => rfl) rfl kk
theorem get_R_start {idx : Nat} {x : Int32} (d : decode M.2.1 pc = .ok (.getfield idx, 3)) (f : Fl M.1.cls idx 2 3) (h : S.1 8 = x) (kk : Ev g M (pc + 3) lv (.int x :: st) (hC S) Post) : Ev g M pc lv (.ref 16 :: st) (hC S) Post := by subst h; exact ev_getf d f rfl rfl kk
theorem put_R_start {idx : Nat} {x : Int32} (d : decode M.2.1 pc = .ok (.putfield idx, 3)) (f : Fp M.1.cls idx 2 3 .int) (kk : Ev g M (pc + 3) lv st (hC (setI S 8 x)) Post) : Ev g M pc lv (.int x :: .ref 16 :: st) (hC S) Post := ev_putf d f rfl rfl (fun _ => rfl) (fun _ => rfl) rfl kk
theorem get_R_behind {idx : Nat} {x : Int32} (d : decode M.2.1 pc = .ok (.getfield idx, 3)) (f : Fl M.1.cls idx 2 4) (h : S.1 9 = x) (kk : Ev g M (pc + 3) lv (.int x :: st) (hC S) Post) : Ev g M pc lv (.ref 16 :: st) (hC S) Post := by subst h; exact ev_getf d f rfl rfl kk
theorem put_R_behind {idx : Nat} {x : Int32} (d : decode M.2.1 pc = .ok (.putfield idx, 3)) (f : Fp M.1.cls idx 2 4 .int) (kk : Ev g M (pc + 3) lv st (hC (setI S 9 x)) Post) : Ev g M pc lv (.int x :: .ref 16 :: st) (hC S) Post := ev_putf d f rfl rfl (fun _ => rfl) (fun _ => rfl) rfl kk
theorem get_BK_weight {idx : Nat} (d : decode M.2.1 pc = .ok (.getfield idx, 3)) (f : Fl M.1.cls idx 1 0) (kk : Ev g M (pc + 3) lv (.ref 18 :: st) (hC S) Post) : Ev g M pc lv (.ref 17 :: st) (hC S) Post := ev_getf d f rfl rfl kk
theorem get_BK_lent {idx : Nat} (d : decode M.2.1 pc = .ok (.getfield idx, 3)) (f : Fl M.1.cls idx 1 1) (kk : Ev g M (pc + 3) lv (.ref 19 :: st) (hC S) Post) : Ev g M pc lv (.ref 17 :: st) (hC S) Post := ev_getf d f rfl rfl kk
theorem get_BK_check {idx : Nat} (d : decode M.2.1 pc = .ok (.getfield idx, 3)) (f : Fl M.1.cls idx 1 2) (kk : Ev g M (pc + 3) lv (.ref 20 :: st) (hC S) Post) : Ev g M pc lv (.ref 17 :: st) (hC S) Post := ev_getf d f rfl rfl kk
theorem get_BK_beyond {idx : Nat} (d : decode M.2.1 pc = .ok (.getfield idx, 3)) (f : Fl M.1.cls idx 1 3) (kk : Ev g M (pc + 3) lv (.ref 21 :: st) (hC S) Post) : Ev g M pc lv (.ref 17 :: st) (hC S) Post := ev_getf d f rfl rfl kk
theorem get_BK_off {idx : Nat} (d : decode M.2.1 pc = .ok (.getfield idx, 3)) (f : Fl M.1.cls idx 1 4) (kk : Ev g M (pc + 3) lv (.ref 22 :: st) (hC S) Post) : Ev g M pc lv (.ref 17 :: st) (hC S) Post := ev_getf d f rfl rfl kk
theorem get_BK_able {idx : Nat} (d : decode M.2.1 pc = .ok (.getfield idx, 3)) (f : Fl M.1.cls idx 1 5) (kk : Ev g M (pc + 3) lv (.ref 23 :: st) (hC S) Post) : Ev g M pc lv (.ref 17 :: st) (hC S) Post := ev_getf d f rfl rfl kk
theorem get_BK_given {idx : Nat} (d : decode M.2.1 pc = .ok (.getfield idx, 3)) (f : Fl M.1.cls idx 1 6) (kk : Ev g M (pc + 3) lv (.ref 24 :: st) (hC S) Post) : Ev g M pc lv (.ref 17 :: st) (hC S) Post := ev_getf d f rfl rfl kk
theorem get_BK_paid {idx : Nat} (d : decode M.2.1 pc = .ok (.getfield idx, 3)) (f : Fl M.1.cls idx 1 7) (kk : Ev g M (pc + 3) lv (.ref 25 :: st) (hC S) Post) : Ev g M pc lv (.ref 17 :: st) (hC S) Post := ev_getf d f rfl rfl kk
theorem get_BK_owedTogether {idx : Nat} {x : Int64} (d : decode M.2.1 pc = .ok (.getfield idx, 3)) (f : Fl M.1.cls idx 1 8) (h : S.2.2.1 0 = x) (kk : Ev g M (pc + 3) lv (.long x :: st) (hC S) Post) : Ev g M pc lv (.ref 17 :: st) (hC S) Post := by subst h; exact ev_getf d f rfl rfl kk
theorem put_BK_owedTogether {idx : Nat} {x : Int64} (d : decode M.2.1 pc = .ok (.putfield idx, 3)) (f : Fp M.1.cls idx 1 8 .long) (kk : Ev g M (pc + 3) lv st (hC (setL S 0 x)) Post) : Ev g M pc lv (.long x :: .ref 17 :: st) (hC S) Post := ev_putf d f rfl rfl (fun _ => rfl) (fun _ => rfl) rfl kk
theorem get_BK_ableTogether {idx : Nat} {x : Int64} (d : decode M.2.1 pc = .ok (.getfield idx, 3)) (f : Fl M.1.cls idx 1 9) (h : S.2.2.1 1 = x) (kk : Ev g M (pc + 3) lv (.long x :: st) (hC S) Post) : Ev g M pc lv (.ref 17 :: st) (hC S) Post := by subst h; exact ev_getf d f rfl rfl kk
theorem put_BK_ableTogether {idx : Nat} {x : Int64} (d : decode M.2.1 pc = .ok (.putfield idx, 3)) (f : Fp M.1.cls idx 1 9 .long) (kk : Ev g M (pc + 3) lv st (hC (setL S 1 x)) Post) : Ev g M pc lv (.long x :: .ref 17 :: st) (hC S) Post := ev_putf d f rfl rfl (fun _ => rfl) (fun _ => rfl) rfl kk
theorem get_BK_givenTogether {idx : Nat} {x : Int64} (d : decode M.2.1 pc = .ok (.getfield idx, 3)) (f : Fl M.1.cls idx 1 10) (h : S.2.2.1 2 = x) (kk : Ev g M (pc + 3) lv (.long x :: st) (hC S) Post) : Ev g M pc lv (.ref 17 :: st) (hC S) Post := by subst h; exact ev_getf d f rfl rfl kk
theorem put_BK_givenTogether {idx : Nat} {x : Int64} (d : decode M.2.1 pc = .ok (.putfield idx, 3)) (f : Fp M.1.cls idx 1 10 .long) (kk : Ev g M (pc + 3) lv st (hC (setL S 2 x)) Post) : Ev g M pc lv (.long x :: .ref 17 :: st) (hC S) Post := ev_putf d f rfl rfl (fun _ => rfl) (fun _ => rfl) rfl kk
theorem ld_BK_weight {i : Int32} {x : Int64} (d : decode M.2.1 pc = .ok (.laload, 1)) (hin : vp_in i 40) (h : S.2.2.2.1 0 i.toNatClampNeg = x) (kk : Ev g M (pc + 1) lv (.long x :: st) (hC S) Post) : Ev g M pc lv (.int i :: .ref 18 :: st) (hC S) Post := by subst h; exact ev_lald d rfl hin kk
theorem ldN_BK_weight {k : Nat} {x : Int64} (d : decode M.2.1 pc = .ok (.laload, 1)) (hk : k < 40) (h : S.2.2.2.1 0 k = x) (kk : Ev g M (pc + 1) lv (.long x :: st) (hC S) Post) : Ev g M pc lv (.int (nI k) :: .ref 18 :: st) (hC S) Post := ld_BK_weight d (vp_in_nI hk (by decide)) (by rw [nI_clamp (by omega)]; exact h) kk
theorem as_BK_weight {i : Int32} {x : Int64} (d : decode M.2.1 pc = .ok (.lastore, 1)) (hin : vp_in i 40) (kk : Ev g M (pc + 1) lv st (hC (setB S 0 (vp_updL (S.2.2.2.1 0) i.toNatClampNeg x))) Post) : Ev g M pc lv (.long x :: .int i :: .ref 18 :: st) (hC S) Post := ev_last d rfl hin rfl kk
theorem asN_BK_weight {k : Nat} {x : Int64} (d : decode M.2.1 pc = .ok (.lastore, 1)) (hk : k < 40) (kk : Ev g M (pc + 1) lv st (hC (setB S 0 (vp_updL (S.2.2.2.1 0) k x))) Post) : Ev g M pc lv (.long x :: .int (nI k) :: .ref 18 :: st) (hC S) Post := as_BK_weight d (vp_in_nI hk (by decide)) (by rw [nI_clamp (by omega)]; exact kk)
theorem ld_BK_lent {i : Int32} {x : Int64} (d : decode M.2.1 pc = .ok (.laload, 1)) (hin : vp_in i 40) (h : S.2.2.2.1 1 i.toNatClampNeg = x) (kk : Ev g M (pc + 1) lv (.long x :: st) (hC S) Post) : Ev g M pc lv (.int i :: .ref 19 :: st) (hC S) Post := by subst h; exact ev_lald d rfl hin kk
theorem ldN_BK_lent {k : Nat} {x : Int64} (d : decode M.2.1 pc = .ok (.laload, 1)) (hk : k < 40) (h : S.2.2.2.1 1 k = x) (kk : Ev g M (pc + 1) lv (.long x :: st) (hC S) Post) : Ev g M pc lv (.int (nI k) :: .ref 19 :: st) (hC S) Post := ld_BK_lent d (vp_in_nI hk (by decide)) (by rw [nI_clamp (by omega)]; exact h) kk
theorem as_BK_lent {i : Int32} {x : Int64} (d : decode M.2.1 pc = .ok (.lastore, 1)) (hin : vp_in i 40) (kk : Ev g M (pc + 1) lv st (hC (setB S 1 (vp_updL (S.2.2.2.1 1) i.toNatClampNeg x))) Post) : Ev g M pc lv (.long x :: .int i :: .ref 19 :: st) (hC S) Post := ev_last d rfl hin rfl kk
theorem asN_BK_lent {k : Nat} {x : Int64} (d : decode M.2.1 pc = .ok (.lastore, 1)) (hk : k < 40) (kk : Ev g M (pc + 1) lv st (hC (setB S 1 (vp_updL (S.2.2.2.1 1) k x))) Post) : Ev g M pc lv (.long x :: .int (nI k) :: .ref 19 :: st) (hC S) Post := as_BK_lent d (vp_in_nI hk (by decide)) (by rw [nI_clamp (by omega)]; exact kk)
theorem ld_BK_check {i : Int32} {x : Int64} (d : decode M.2.1 pc = .ok (.laload, 1)) (hin : vp_in i 40) (h : S.2.2.2.1 2 i.toNatClampNeg = x) (kk : Ev g M (pc + 1) lv (.long x :: st) (hC S) Post) : Ev g M pc lv (.int i :: .ref 20 :: st) (hC S) Post := by subst h; exact ev_lald d rfl hin kk
theorem ldN_BK_check {k : Nat} {x : Int64} (d : decode M.2.1 pc = .ok (.laload, 1)) (hk : k < 40) (h : S.2.2.2.1 2 k = x) (kk : Ev g M (pc + 1) lv (.long x :: st) (hC S) Post) : Ev g M pc lv (.int (nI k) :: .ref 20 :: st) (hC S) Post := ld_BK_check d (vp_in_nI hk (by decide)) (by rw [nI_clamp (by omega)]; exact h) kk
theorem as_BK_check {i : Int32} {x : Int64} (d : decode M.2.1 pc = .ok (.lastore, 1)) (hin : vp_in i 40) (kk : Ev g M (pc + 1) lv st (hC (setB S 2 (vp_updL (S.2.2.2.1 2) i.toNatClampNeg x))) Post) : Ev g M pc lv (.long x :: .int i :: .ref 20 :: st) (hC S) Post := ev_last d rfl hin rfl kk
theorem asN_BK_check {k : Nat} {x : Int64} (d : decode M.2.1 pc = .ok (.lastore, 1)) (hk : k < 40) (kk : Ev g M (pc + 1) lv st (hC (setB S 2 (vp_updL (S.2.2.2.1 2) k x))) Post) : Ev g M pc lv (.long x :: .int (nI k) :: .ref 20 :: st) (hC S) Post := as_BK_check d (vp_in_nI hk (by decide)) (by rw [nI_clamp (by omega)]; exact kk)
theorem ld_BK_beyond {i : Int32} {x : Int64} (d : decode M.2.1 pc = .ok (.laload, 1)) (hin : vp_in i 40) (h : S.2.2.2.1 3 i.toNatClampNeg = x) (kk : Ev g M (pc + 1) lv (.long x :: st) (hC S) Post) : Ev g M pc lv (.int i :: .ref 21 :: st) (hC S) Post := by subst h; exact ev_lald d rfl hin kk
theorem ldN_BK_beyond {k : Nat} {x : Int64} (d : decode M.2.1 pc = .ok (.laload, 1)) (hk : k < 40) (h : S.2.2.2.1 3 k = x) (kk : Ev g M (pc + 1) lv (.long x :: st) (hC S) Post) : Ev g M pc lv (.int (nI k) :: .ref 21 :: st) (hC S) Post := ld_BK_beyond d (vp_in_nI hk (by decide)) (by rw [nI_clamp (by omega)]; exact h) kk
theorem as_BK_beyond {i : Int32} {x : Int64} (d : decode M.2.1 pc = .ok (.lastore, 1)) (hin : vp_in i 40) (kk : Ev g M (pc + 1) lv st (hC (setB S 3 (vp_updL (S.2.2.2.1 3) i.toNatClampNeg x))) Post) : Ev g M pc lv (.long x :: .int i :: .ref 21 :: st) (hC S) Post := ev_last d rfl hin rfl kk
theorem asN_BK_beyond {k : Nat} {x : Int64} (d : decode M.2.1 pc = .ok (.lastore, 1)) (hk : k < 40) (kk : Ev g M (pc + 1) lv st (hC (setB S 3 (vp_updL (S.2.2.2.1 3) k x))) Post) : Ev g M pc lv (.long x :: .int (nI k) :: .ref 21 :: st) (hC S) Post := as_BK_beyond d (vp_in_nI hk (by decide)) (by rw [nI_clamp (by omega)]; exact kk)
theorem ld_BK_off {i : Int32} {x : Int64} (d : decode M.2.1 pc = .ok (.laload, 1)) (hin : vp_in i 40) (h : S.2.2.2.1 4 i.toNatClampNeg = x) (kk : Ev g M (pc + 1) lv (.long x :: st) (hC S) Post) : Ev g M pc lv (.int i :: .ref 22 :: st) (hC S) Post := by subst h; exact ev_lald d rfl hin kk
theorem ldN_BK_off {k : Nat} {x : Int64} (d : decode M.2.1 pc = .ok (.laload, 1)) (hk : k < 40) (h : S.2.2.2.1 4 k = x) (kk : Ev g M (pc + 1) lv (.long x :: st) (hC S) Post) : Ev g M pc lv (.int (nI k) :: .ref 22 :: st) (hC S) Post := ld_BK_off d (vp_in_nI hk (by decide)) (by rw [nI_clamp (by omega)]; exact h) kk
theorem as_BK_off {i : Int32} {x : Int64} (d : decode M.2.1 pc = .ok (.lastore, 1)) (hin : vp_in i 40) (kk : Ev g M (pc + 1) lv st (hC (setB S 4 (vp_updL (S.2.2.2.1 4) i.toNatClampNeg x))) Post) : Ev g M pc lv (.long x :: .int i :: .ref 22 :: st) (hC S) Post := ev_last d rfl hin rfl kk
theorem asN_BK_off {k : Nat} {x : Int64} (d : decode M.2.1 pc = .ok (.lastore, 1)) (hk : k < 40) (kk : Ev g M (pc + 1) lv st (hC (setB S 4 (vp_updL (S.2.2.2.1 4) k x))) Post) : Ev g M pc lv (.long x :: .int (nI k) :: .ref 22 :: st) (hC S) Post := as_BK_off d (vp_in_nI hk (by decide)) (by rw [nI_clamp (by omega)]; exact kk)
theorem ld_BK_able {i : Int32} {x : Int64} (d : decode M.2.1 pc = .ok (.laload, 1)) (hin : vp_in i 40) (h : S.2.2.2.1 5 i.toNatClampNeg = x) (kk : Ev g M (pc + 1) lv (.long x :: st) (hC S) Post) : Ev g M pc lv (.int i :: .ref 23 :: st) (hC S) Post := by subst h; exact ev_lald d rfl hin kk
theorem ldN_BK_able {k : Nat} {x : Int64} (d : decode M.2.1 pc = .ok (.laload, 1)) (hk : k < 40) (h : S.2.2.2.1 5 k = x) (kk : Ev g M (pc + 1) lv (.long x :: st) (hC S) Post) : Ev g M pc lv (.int (nI k) :: .ref 23 :: st) (hC S) Post := ld_BK_able d (vp_in_nI hk (by decide)) (by rw [nI_clamp (by omega)]; exact h) kk
theorem as_BK_able {i : Int32} {x : Int64} (d : decode M.2.1 pc = .ok (.lastore, 1)) (hin : vp_in i 40) (kk : Ev g M (pc + 1) lv st (hC (setB S 5 (vp_updL (S.2.2.2.1 5) i.toNatClampNeg x))) Post) : Ev g M pc lv (.long x :: .int i :: .ref 23 :: st) (hC S) Post := ev_last d rfl hin rfl kk
theorem asN_BK_able {k : Nat} {x : Int64} (d : decode M.2.1 pc = .ok (.lastore, 1)) (hk : k < 40) (kk : Ev g M (pc + 1) lv st (hC (setB S 5 (vp_updL (S.2.2.2.1 5) k x))) Post) : Ev g M pc lv (.long x :: .int (nI k) :: .ref 23 :: st) (hC S) Post := as_BK_able d (vp_in_nI hk (by decide)) (by rw [nI_clamp (by omega)]; exact kk)
theorem ld_BK_given {i : Int32} {x : Int64} (d : decode M.2.1 pc = .ok (.laload, 1)) (hin : vp_in i 40) (h : S.2.2.2.1 6 i.toNatClampNeg = x) (kk : Ev g M (pc + 1) lv (.long x :: st) (hC S) Post) : Ev g M pc lv (.int i :: .ref 24 :: st) (hC S) Post := by subst h; exact ev_lald d rfl hin kk
theorem ldN_BK_given {k : Nat} {x : Int64} (d : decode M.2.1 pc = .ok (.laload, 1)) (hk : k < 40) (h : S.2.2.2.1 6 k = x) (kk : Ev g M (pc + 1) lv (.long x :: st) (hC S) Post) : Ev g M pc lv (.int (nI k) :: .ref 24 :: st) (hC S) Post := ld_BK_given d (vp_in_nI hk (by decide)) (by rw [nI_clamp (by omega)]; exact h) kk
theorem as_BK_given {i : Int32} {x : Int64} (d : decode M.2.1 pc = .ok (.lastore, 1)) (hin : vp_in i 40) (kk : Ev g M (pc + 1) lv st (hC (setB S 6 (vp_updL (S.2.2.2.1 6) i.toNatClampNeg x))) Post) : Ev g M pc lv (.long x :: .int i :: .ref 24 :: st) (hC S) Post := ev_last d rfl hin rfl kk
theorem asN_BK_given {k : Nat} {x : Int64} (d : decode M.2.1 pc = .ok (.lastore, 1)) (hk : k < 40) (kk : Ev g M (pc + 1) lv st (hC (setB S 6 (vp_updL (S.2.2.2.1 6) k x))) Post) : Ev g M pc lv (.long x :: .int (nI k) :: .ref 24 :: st) (hC S) Post := as_BK_given d (vp_in_nI hk (by decide)) (by rw [nI_clamp (by omega)]; exact kk)
theorem ld_BK_paid {i : Int32} {x : Int64} (d : decode M.2.1 pc = .ok (.laload, 1)) (hin : vp_in i 40) (h : S.2.2.2.1 7 i.toNatClampNeg = x) (kk : Ev g M (pc + 1) lv (.long x :: st) (hC S) Post) : Ev g M pc lv (.int i :: .ref 25 :: st) (hC S) Post := by subst h; exact ev_lald d rfl hin kk
theorem ldN_BK_paid {k : Nat} {x : Int64} (d : decode M.2.1 pc = .ok (.laload, 1)) (hk : k < 40) (h : S.2.2.2.1 7 k = x) (kk : Ev g M (pc + 1) lv (.long x :: st) (hC S) Post) : Ev g M pc lv (.int (nI k) :: .ref 25 :: st) (hC S) Post := ld_BK_paid d (vp_in_nI hk (by decide)) (by rw [nI_clamp (by omega)]; exact h) kk
theorem as_BK_paid {i : Int32} {x : Int64} (d : decode M.2.1 pc = .ok (.lastore, 1)) (hin : vp_in i 40) (kk : Ev g M (pc + 1) lv st (hC (setB S 7 (vp_updL (S.2.2.2.1 7) i.toNatClampNeg x))) Post) : Ev g M pc lv (.long x :: .int i :: .ref 25 :: st) (hC S) Post := ev_last d rfl hin rfl kk
theorem asN_BK_paid {k : Nat} {x : Int64} (d : decode M.2.1 pc = .ok (.lastore, 1)) (hk : k < 40) (kk : Ev g M (pc + 1) lv st (hC (setB S 7 (vp_updL (S.2.2.2.1 7) k x))) Post) : Ev g M pc lv (.long x :: .int (nI k) :: .ref 25 :: st) (hC S) Post := as_BK_paid d (vp_in_nI hk (by decide)) (by rw [nI_clamp (by omega)]; exact kk)
theorem get_LA_from {idx : Nat} (d : decode M.2.1 pc = .ok (.getfield idx, 3)) (f : Fl M.1.cls idx 5 0) (kk : Ev g M (pc + 3) lv (.ref 27 :: st) (hC S) Post) : Ev g M pc lv (.ref 26 :: st) (hC S) Post := ev_getf d f rfl rfl kk
theorem get_LA_to {idx : Nat} (d : decode M.2.1 pc = .ok (.getfield idx, 3)) (f : Fl M.1.cls idx 5 1) (kk : Ev g M (pc + 3) lv (.ref 28 :: st) (hC S) Post) : Ev g M pc lv (.ref 26 :: st) (hC S) Post := ev_getf d f rfl rfl kk
theorem get_LA_part {idx : Nat} (d : decode M.2.1 pc = .ok (.getfield idx, 3)) (f : Fl M.1.cls idx 5 2) (kk : Ev g M (pc + 3) lv (.ref 29 :: st) (hC S) Post) : Ev g M pc lv (.ref 26 :: st) (hC S) Post := ev_getf d f rfl rfl kk
theorem get_LA_size {idx : Nat} {x : Int32} (d : decode M.2.1 pc = .ok (.getfield idx, 3)) (f : Fl M.1.cls idx 5 3) (h : S.1 10 = x) (kk : Ev g M (pc + 3) lv (.int x :: st) (hC S) Post) : Ev g M pc lv (.ref 26 :: st) (hC S) Post := by subst h; exact ev_getf d f rfl rfl kk
theorem put_LA_size {idx : Nat} {x : Int32} (d : decode M.2.1 pc = .ok (.putfield idx, 3)) (f : Fp M.1.cls idx 5 3 .int) (kk : Ev g M (pc + 3) lv st (hC (setI S 10 x)) Post) : Ev g M pc lv (.int x :: .ref 26 :: st) (hC S) Post := ev_putf d f rfl rfl (fun _ => rfl) (fun _ => rfl) rfl kk
theorem get_LA_yieldOfField {idx : Nat} {x : Int32} (d : decode M.2.1 pc = .ok (.getfield idx, 3)) (f : Fl M.1.cls idx 5 4) (h : S.1 11 = x) (kk : Ev g M (pc + 3) lv (.int x :: st) (hC S) Post) : Ev g M pc lv (.ref 26 :: st) (hC S) Post := by subst h; exact ev_getf d f rfl rfl kk
theorem put_LA_yieldOfField {idx : Nat} {x : Int32} (d : decode M.2.1 pc = .ok (.putfield idx, 3)) (f : Fp M.1.cls idx 5 4 .int) (kk : Ev g M (pc + 3) lv st (hC (setI S 11 x)) Post) : Ev g M pc lv (.int x :: .ref 26 :: st) (hC S) Post := ev_putf d f rfl rfl (fun _ => rfl) (fun _ => rfl) rfl kk
theorem ld_LA_from {i : Int32} {x : Int32} (d : decode M.2.1 pc = .ok (.iaload, 1)) (hin : vp_in i 60) (h : S.2.1 11 i.toNatClampNeg = x) (kk : Ev g M (pc + 1) lv (.int x :: st) (hC S) Post) : Ev g M pc lv (.int i :: .ref 27 :: st) (hC S) Post := by subst h; exact ev_iald d rfl hin kk
theorem ldN_LA_from {k : Nat} {x : Int32} (d : decode M.2.1 pc = .ok (.iaload, 1)) (hk : k < 60) (h : S.2.1 11 k = x) (kk : Ev g M (pc + 1) lv (.int x :: st) (hC S) Post) : Ev g M pc lv (.int (nI k) :: .ref 27 :: st) (hC S) Post := ld_LA_from d (vp_in_nI hk (by decide)) (by rw [nI_clamp (by omega)]; exact h) kk
theorem as_LA_from {i : Int32} {x : Int32} (d : decode M.2.1 pc = .ok (.iastore, 1)) (hin : vp_in i 60) (kk : Ev g M (pc + 1) lv st (hC (setA S 11 (upd (S.2.1 11) i.toNatClampNeg x))) Post) : Ev g M pc lv (.int x :: .int i :: .ref 27 :: st) (hC S) Post := ev_iast d rfl hin rfl kk
theorem asN_LA_from {k : Nat} {x : Int32} (d : decode M.2.1 pc = .ok (.iastore, 1)) (hk : k < 60) (kk : Ev g M (pc + 1) lv st (hC (setA S 11 (upd (S.2.1 11) k x))) Post) : Ev g M pc lv (.int x :: .int (nI k) :: .ref 27 :: st) (hC S) Post := as_LA_from d (vp_in_nI hk (by decide)) (by rw [nI_clamp (by omega)]; exact kk)
theorem ld_LA_to {i : Int32} {x : Int32} (d : decode M.2.1 pc = .ok (.iaload, 1)) (hin : vp_in i 60) (h : S.2.1 12 i.toNatClampNeg = x) (kk : Ev g M (pc + 1) lv (.int x :: st) (hC S) Post) : Ev g M pc lv (.int i :: .ref 28 :: st) (hC S) Post := by subst h; exact ev_iald d rfl hin kk
theorem ldN_LA_to {k : Nat} {x : Int32} (d : decode M.2.1 pc = .ok (.iaload, 1)) (hk : k < 60) (h : S.2.1 12 k = x) (kk : Ev g M (pc + 1) lv (.int x :: st) (hC S) Post) : Ev g M pc lv (.int (nI k) :: .ref 28 :: st) (hC S) Post := ld_LA_to d (vp_in_nI hk (by decide)) (by rw [nI_clamp (by omega)]; exact h) kk
theorem as_LA_to {i : Int32} {x : Int32} (d : decode M.2.1 pc = .ok (.iastore, 1)) (hin : vp_in i 60) (kk : Ev g M (pc + 1) lv st (hC (setA S 12 (upd (S.2.1 12) i.toNatClampNeg x))) Post) : Ev g M pc lv (.int x :: .int i :: .ref 28 :: st) (hC S) Post := ev_iast d rfl hin rfl kk
theorem asN_LA_to {k : Nat} {x : Int32} (d : decode M.2.1 pc = .ok (.iastore, 1)) (hk : k < 60) (kk : Ev g M (pc + 1) lv st (hC (setA S 12 (upd (S.2.1 12) k x))) Post) : Ev g M pc lv (.int x :: .int (nI k) :: .ref 28 :: st) (hC S) Post := as_LA_to d (vp_in_nI hk (by decide)) (by rw [nI_clamp (by omega)]; exact kk)
theorem ld_LA_part {i : Int32} {x : Int32} (d : decode M.2.1 pc = .ok (.iaload, 1)) (hin : vp_in i 60) (h : S.2.1 13 i.toNatClampNeg = x) (kk : Ev g M (pc + 1) lv (.int x :: st) (hC S) Post) : Ev g M pc lv (.int i :: .ref 29 :: st) (hC S) Post := by subst h; exact ev_iald d rfl hin kk
theorem ldN_LA_part {k : Nat} {x : Int32} (d : decode M.2.1 pc = .ok (.iaload, 1)) (hk : k < 60) (h : S.2.1 13 k = x) (kk : Ev g M (pc + 1) lv (.int x :: st) (hC S) Post) : Ev g M pc lv (.int (nI k) :: .ref 29 :: st) (hC S) Post := ld_LA_part d (vp_in_nI hk (by decide)) (by rw [nI_clamp (by omega)]; exact h) kk
theorem as_LA_part {i : Int32} {x : Int32} (d : decode M.2.1 pc = .ok (.iastore, 1)) (hin : vp_in i 60) (kk : Ev g M (pc + 1) lv st (hC (setA S 13 (upd (S.2.1 13) i.toNatClampNeg x))) Post) : Ev g M pc lv (.int x :: .int i :: .ref 29 :: st) (hC S) Post := ev_iast d rfl hin rfl kk
theorem asN_LA_part {k : Nat} {x : Int32} (d : decode M.2.1 pc = .ok (.iastore, 1)) (hk : k < 60) (kk : Ev g M (pc + 1) lv st (hC (setA S 13 (upd (S.2.1 13) k x))) Post) : Ev g M pc lv (.int x :: .int (nI k) :: .ref 29 :: st) (hC S) Post := as_LA_part d (vp_in_nI hk (by decide)) (by rw [nI_clamp (by omega)]; exact kk)
theorem get_RD_place {idx : Nat} (d : decode M.2.1 pc = .ok (.getfield idx, 3)) (f : Fl M.1.cls idx 6 0) (kk : Ev g M (pc + 3) lv (.ref 31 :: st) (hC S) Post) : Ev g M pc lv (.ref 30 :: st) (hC S) Post := ev_getf d f rfl rfl kk
theorem get_RD_hour {idx : Nat} (d : decode M.2.1 pc = .ok (.getfield idx, 3)) (f : Fl M.1.cls idx 6 1) (kk : Ev g M (pc + 3) lv (.ref 32 :: st) (hC S) Post) : Ev g M pc lv (.ref 30 :: st) (hC S) Post := ev_getf d f rfl rfl kk
theorem get_RD_earliest {idx : Nat} (d : decode M.2.1 pc = .ok (.getfield idx, 3)) (f : Fl M.1.cls idx 6 2) (kk : Ev g M (pc + 3) lv (.ref 33 :: st) (hC S) Post) : Ev g M pc lv (.ref 30 :: st) (hC S) Post := ev_getf d f rfl rfl kk
theorem get_RD_hourOfCount {idx : Nat} (d : decode M.2.1 pc = .ok (.getfield idx, 3)) (f : Fl M.1.cls idx 6 3) (kk : Ev g M (pc + 3) lv (.ref 34 :: st) (hC S) Post) : Ev g M pc lv (.ref 30 :: st) (hC S) Post := ev_getf d f rfl rfl kk
theorem get_RD_size {idx : Nat} {x : Int32} (d : decode M.2.1 pc = .ok (.getfield idx, 3)) (f : Fl M.1.cls idx 6 4) (h : S.1 12 = x) (kk : Ev g M (pc + 3) lv (.int x :: st) (hC S) Post) : Ev g M pc lv (.ref 30 :: st) (hC S) Post := by subst h; exact ev_getf d f rfl rfl kk
theorem put_RD_size {idx : Nat} {x : Int32} (d : decode M.2.1 pc = .ok (.putfield idx, 3)) (f : Fp M.1.cls idx 6 4 .int) (kk : Ev g M (pc + 3) lv st (hC (setI S 12 x)) Post) : Ev g M pc lv (.int x :: .ref 30 :: st) (hC S) Post := ev_putf d f rfl rfl (fun _ => rfl) (fun _ => rfl) rfl kk
theorem get_RD_begin {idx : Nat} {x : Int32} (d : decode M.2.1 pc = .ok (.getfield idx, 3)) (f : Fl M.1.cls idx 6 5) (h : S.1 13 = x) (kk : Ev g M (pc + 3) lv (.int x :: st) (hC S) Post) : Ev g M pc lv (.ref 30 :: st) (hC S) Post := by subst h; exact ev_getf d f rfl rfl kk
theorem put_RD_begin {idx : Nat} {x : Int32} (d : decode M.2.1 pc = .ok (.putfield idx, 3)) (f : Fp M.1.cls idx 6 5 .int) (kk : Ev g M (pc + 3) lv st (hC (setI S 13 x)) Post) : Ev g M pc lv (.int x :: .ref 30 :: st) (hC S) Post := ev_putf d f rfl rfl (fun _ => rfl) (fun _ => rfl) rfl kk
theorem get_RD_left {idx : Nat} {x : Int32} (d : decode M.2.1 pc = .ok (.getfield idx, 3)) (f : Fl M.1.cls idx 6 6) (h : S.1 14 = x) (kk : Ev g M (pc + 3) lv (.int x :: st) (hC S) Post) : Ev g M pc lv (.ref 30 :: st) (hC S) Post := by subst h; exact ev_getf d f rfl rfl kk
theorem put_RD_left {idx : Nat} {x : Int32} (d : decode M.2.1 pc = .ok (.putfield idx, 3)) (f : Fp M.1.cls idx 6 6 .int) (kk : Ev g M (pc + 3) lv st (hC (setI S 14 x)) Post) : Ev g M pc lv (.int x :: .ref 30 :: st) (hC S) Post := ev_putf d f rfl rfl (fun _ => rfl) (fun _ => rfl) rfl kk
theorem get_RD_right {idx : Nat} {x : Int32} (d : decode M.2.1 pc = .ok (.getfield idx, 3)) (f : Fl M.1.cls idx 6 7) (h : S.1 15 = x) (kk : Ev g M (pc + 3) lv (.int x :: st) (hC S) Post) : Ev g M pc lv (.ref 30 :: st) (hC S) Post := by subst h; exact ev_getf d f rfl rfl kk
theorem put_RD_right {idx : Nat} {x : Int32} (d : decode M.2.1 pc = .ok (.putfield idx, 3)) (f : Fp M.1.cls idx 6 7 .int) (kk : Ev g M (pc + 3) lv st (hC (setI S 15 x)) Post) : Ev g M pc lv (.int x :: .ref 30 :: st) (hC S) Post := ev_putf d f rfl rfl (fun _ => rfl) (fun _ => rfl) rfl kk
theorem ld_RD_place {i : Int32} {x : Int32} (d : decode M.2.1 pc = .ok (.iaload, 1)) (hin : vp_in i 16) (h : S.2.1 14 i.toNatClampNeg = x) (kk : Ev g M (pc + 1) lv (.int x :: st) (hC S) Post) : Ev g M pc lv (.int i :: .ref 31 :: st) (hC S) Post := by subst h; exact ev_iald d rfl hin kk
theorem ldN_RD_place {k : Nat} {x : Int32} (d : decode M.2.1 pc = .ok (.iaload, 1)) (hk : k < 16) (h : S.2.1 14 k = x) (kk : Ev g M (pc + 1) lv (.int x :: st) (hC S) Post) : Ev g M pc lv (.int (nI k) :: .ref 31 :: st) (hC S) Post := ld_RD_place d (vp_in_nI hk (by decide)) (by rw [nI_clamp (by omega)]; exact h) kk
theorem as_RD_place {i : Int32} {x : Int32} (d : decode M.2.1 pc = .ok (.iastore, 1)) (hin : vp_in i 16) (kk : Ev g M (pc + 1) lv st (hC (setA S 14 (upd (S.2.1 14) i.toNatClampNeg x))) Post) : Ev g M pc lv (.int x :: .int i :: .ref 31 :: st) (hC S) Post := ev_iast d rfl hin rfl kk
theorem asN_RD_place {k : Nat} {x : Int32} (d : decode M.2.1 pc = .ok (.iastore, 1)) (hk : k < 16) (kk : Ev g M (pc + 1) lv st (hC (setA S 14 (upd (S.2.1 14) k x))) Post) : Ev g M pc lv (.int x :: .int (nI k) :: .ref 31 :: st) (hC S) Post := as_RD_place d (vp_in_nI hk (by decide)) (by rw [nI_clamp (by omega)]; exact kk)
theorem ld_RD_hour {i : Int32} {x : Int32} (d : decode M.2.1 pc = .ok (.iaload, 1)) (hin : vp_in i 16) (h : S.2.1 15 i.toNatClampNeg = x) (kk : Ev g M (pc + 1) lv (.int x :: st) (hC S) Post) : Ev g M pc lv (.int i :: .ref 32 :: st) (hC S) Post := by subst h; exact ev_iald d rfl hin kk
theorem ldN_RD_hour {k : Nat} {x : Int32} (d : decode M.2.1 pc = .ok (.iaload, 1)) (hk : k < 16) (h : S.2.1 15 k = x) (kk : Ev g M (pc + 1) lv (.int x :: st) (hC S) Post) : Ev g M pc lv (.int (nI k) :: .ref 32 :: st) (hC S) Post := ld_RD_hour d (vp_in_nI hk (by decide)) (by rw [nI_clamp (by omega)]; exact h) kk
theorem as_RD_hour {i : Int32} {x : Int32} (d : decode M.2.1 pc = .ok (.iastore, 1)) (hin : vp_in i 16) (kk : Ev g M (pc + 1) lv st (hC (setA S 15 (upd (S.2.1 15) i.toNatClampNeg x))) Post) : Ev g M pc lv (.int x :: .int i :: .ref 32 :: st) (hC S) Post := ev_iast d rfl hin rfl kk
theorem asN_RD_hour {k : Nat} {x : Int32} (d : decode M.2.1 pc = .ok (.iastore, 1)) (hk : k < 16) (kk : Ev g M (pc + 1) lv st (hC (setA S 15 (upd (S.2.1 15) k x))) Post) : Ev g M pc lv (.int x :: .int (nI k) :: .ref 32 :: st) (hC S) Post := as_RD_hour d (vp_in_nI hk (by decide)) (by rw [nI_clamp (by omega)]; exact kk)
theorem ld_RD_earliest {i : Int32} {x : Int32} (d : decode M.2.1 pc = .ok (.iaload, 1)) (hin : vp_in i 2754) (h : S.2.1 16 i.toNatClampNeg = x) (kk : Ev g M (pc + 1) lv (.int x :: st) (hC S) Post) : Ev g M pc lv (.int i :: .ref 33 :: st) (hC S) Post := by subst h; exact ev_iald d rfl hin kk
theorem ldN_RD_earliest {k : Nat} {x : Int32} (d : decode M.2.1 pc = .ok (.iaload, 1)) (hk : k < 2754) (h : S.2.1 16 k = x) (kk : Ev g M (pc + 1) lv (.int x :: st) (hC S) Post) : Ev g M pc lv (.int (nI k) :: .ref 33 :: st) (hC S) Post := ld_RD_earliest d (vp_in_nI hk (by decide)) (by rw [nI_clamp (by omega)]; exact h) kk
theorem as_RD_earliest {i : Int32} {x : Int32} (d : decode M.2.1 pc = .ok (.iastore, 1)) (hin : vp_in i 2754) (kk : Ev g M (pc + 1) lv st (hC (setA S 16 (upd (S.2.1 16) i.toNatClampNeg x))) Post) : Ev g M pc lv (.int x :: .int i :: .ref 33 :: st) (hC S) Post := ev_iast d rfl hin rfl kk
theorem asN_RD_earliest {k : Nat} {x : Int32} (d : decode M.2.1 pc = .ok (.iastore, 1)) (hk : k < 2754) (kk : Ev g M (pc + 1) lv st (hC (setA S 16 (upd (S.2.1 16) k x))) Post) : Ev g M pc lv (.int x :: .int (nI k) :: .ref 33 :: st) (hC S) Post := as_RD_earliest d (vp_in_nI hk (by decide)) (by rw [nI_clamp (by omega)]; exact kk)
theorem ld_RD_hourOfCount {i : Int32} {x : Int32} (d : decode M.2.1 pc = .ok (.iaload, 1)) (hin : vp_in i 17) (h : S.2.1 17 i.toNatClampNeg = x) (kk : Ev g M (pc + 1) lv (.int x :: st) (hC S) Post) : Ev g M pc lv (.int i :: .ref 34 :: st) (hC S) Post := by subst h; exact ev_iald d rfl hin kk
theorem ldN_RD_hourOfCount {k : Nat} {x : Int32} (d : decode M.2.1 pc = .ok (.iaload, 1)) (hk : k < 17) (h : S.2.1 17 k = x) (kk : Ev g M (pc + 1) lv (.int x :: st) (hC S) Post) : Ev g M pc lv (.int (nI k) :: .ref 34 :: st) (hC S) Post := ld_RD_hourOfCount d (vp_in_nI hk (by decide)) (by rw [nI_clamp (by omega)]; exact h) kk
theorem as_RD_hourOfCount {i : Int32} {x : Int32} (d : decode M.2.1 pc = .ok (.iastore, 1)) (hin : vp_in i 17) (kk : Ev g M (pc + 1) lv st (hC (setA S 17 (upd (S.2.1 17) i.toNatClampNeg x))) Post) : Ev g M pc lv (.int x :: .int i :: .ref 34 :: st) (hC S) Post := ev_iast d rfl hin rfl kk
theorem asN_RD_hourOfCount {k : Nat} {x : Int32} (d : decode M.2.1 pc = .ok (.iastore, 1)) (hk : k < 17) (kk : Ev g M (pc + 1) lv st (hC (setA S 17 (upd (S.2.1 17) k x))) Post) : Ev g M pc lv (.int x :: .int (nI k) :: .ref 34 :: st) (hC S) Post := as_RD_hourOfCount d (vp_in_nI hk (by decide)) (by rw [nI_clamp (by omega)]; exact kk)
theorem get_T0_price {idx : Nat} (d : decode M.2.1 pc = .ok (.getfield idx, 3)) (f : Fl M.1.cls idx 8 0) (kk : Ev g M (pc + 3) lv (.ref 36 :: st) (hC S) Post) : Ev g M pc lv (.ref 35 :: st) (hC S) Post := ev_getf d f rfl rfl kk
theorem get_T0_upper {idx : Nat} (d : decode M.2.1 pc = .ok (.getfield idx, 3)) (f : Fl M.1.cls idx 8 1) (kk : Ev g M (pc + 3) lv (.ref 37 :: st) (hC S) Post) : Ev g M pc lv (.ref 35 :: st) (hC S) Post := ev_getf d f rfl rfl kk
theorem get_T0_lower {idx : Nat} (d : decode M.2.1 pc = .ok (.getfield idx, 3)) (f : Fl M.1.cls idx 8 2) (kk : Ev g M (pc + 3) lv (.ref 38 :: st) (hC S) Post) : Ev g M pc lv (.ref 35 :: st) (hC S) Post := ev_getf d f rfl rfl kk
theorem get_T0_quota {idx : Nat} {x : Int32} (d : decode M.2.1 pc = .ok (.getfield idx, 3)) (f : Fl M.1.cls idx 8 3) (h : S.1 16 = x) (kk : Ev g M (pc + 3) lv (.int x :: st) (hC S) Post) : Ev g M pc lv (.ref 35 :: st) (hC S) Post := by subst h; exact ev_getf d f rfl rfl kk
theorem put_T0_quota {idx : Nat} {x : Int32} (d : decode M.2.1 pc = .ok (.putfield idx, 3)) (f : Fp M.1.cls idx 8 3 .int) (kk : Ev g M (pc + 3) lv st (hC (setI S 16 x)) Post) : Ev g M pc lv (.int x :: .ref 35 :: st) (hC S) Post := ev_putf d f rfl rfl (fun _ => rfl) (fun _ => rfl) rfl kk
theorem get_T0_clauses {idx : Nat} {x : Int32} (d : decode M.2.1 pc = .ok (.getfield idx, 3)) (f : Fl M.1.cls idx 8 4) (h : S.1 18 = x) (kk : Ev g M (pc + 3) lv (.int x :: st) (hC S) Post) : Ev g M pc lv (.ref 35 :: st) (hC S) Post := by subst h; exact ev_getf d f rfl rfl kk
theorem put_T0_clauses {idx : Nat} {x : Int32} (d : decode M.2.1 pc = .ok (.putfield idx, 3)) (f : Fp M.1.cls idx 8 4 .int) (kk : Ev g M (pc + 3) lv st (hC (setI S 18 x)) Post) : Ev g M pc lv (.int x :: .ref 35 :: st) (hC S) Post := ev_putf d f rfl rfl (fun _ => rfl) (fun _ => rfl) rfl kk
theorem ld_T0_price {i : Int32} {x : Int32} (d : decode M.2.1 pc = .ok (.iaload, 1)) (hin : vp_in i 5) (h : S.2.1 18 i.toNatClampNeg = x) (kk : Ev g M (pc + 1) lv (.int x :: st) (hC S) Post) : Ev g M pc lv (.int i :: .ref 36 :: st) (hC S) Post := by subst h; exact ev_iald d rfl hin kk
theorem ldN_T0_price {k : Nat} {x : Int32} (d : decode M.2.1 pc = .ok (.iaload, 1)) (hk : k < 5) (h : S.2.1 18 k = x) (kk : Ev g M (pc + 1) lv (.int x :: st) (hC S) Post) : Ev g M pc lv (.int (nI k) :: .ref 36 :: st) (hC S) Post := ld_T0_price d (vp_in_nI hk (by decide)) (by rw [nI_clamp (by omega)]; exact h) kk
theorem as_T0_price {i : Int32} {x : Int32} (d : decode M.2.1 pc = .ok (.iastore, 1)) (hin : vp_in i 5) (kk : Ev g M (pc + 1) lv st (hC (setA S 18 (upd (S.2.1 18) i.toNatClampNeg x))) Post) : Ev g M pc lv (.int x :: .int i :: .ref 36 :: st) (hC S) Post := ev_iast d rfl hin rfl kk
theorem asN_T0_price {k : Nat} {x : Int32} (d : decode M.2.1 pc = .ok (.iastore, 1)) (hk : k < 5) (kk : Ev g M (pc + 1) lv st (hC (setA S 18 (upd (S.2.1 18) k x))) Post) : Ev g M pc lv (.int x :: .int (nI k) :: .ref 36 :: st) (hC S) Post := as_T0_price d (vp_in_nI hk (by decide)) (by rw [nI_clamp (by omega)]; exact kk)
theorem ld_T0_upper {i : Int32} {x : Int32} (d : decode M.2.1 pc = .ok (.iaload, 1)) (hin : vp_in i 4) (h : S.2.1 20 i.toNatClampNeg = x) (kk : Ev g M (pc + 1) lv (.int x :: st) (hC S) Post) : Ev g M pc lv (.int i :: .ref 37 :: st) (hC S) Post := by subst h; exact ev_iald d rfl hin kk
theorem ldN_T0_upper {k : Nat} {x : Int32} (d : decode M.2.1 pc = .ok (.iaload, 1)) (hk : k < 4) (h : S.2.1 20 k = x) (kk : Ev g M (pc + 1) lv (.int x :: st) (hC S) Post) : Ev g M pc lv (.int (nI k) :: .ref 37 :: st) (hC S) Post := ld_T0_upper d (vp_in_nI hk (by decide)) (by rw [nI_clamp (by omega)]; exact h) kk
theorem as_T0_upper {i : Int32} {x : Int32} (d : decode M.2.1 pc = .ok (.iastore, 1)) (hin : vp_in i 4) (kk : Ev g M (pc + 1) lv st (hC (setA S 20 (upd (S.2.1 20) i.toNatClampNeg x))) Post) : Ev g M pc lv (.int x :: .int i :: .ref 37 :: st) (hC S) Post := ev_iast d rfl hin rfl kk
theorem asN_T0_upper {k : Nat} {x : Int32} (d : decode M.2.1 pc = .ok (.iastore, 1)) (hk : k < 4) (kk : Ev g M (pc + 1) lv st (hC (setA S 20 (upd (S.2.1 20) k x))) Post) : Ev g M pc lv (.int x :: .int (nI k) :: .ref 37 :: st) (hC S) Post := as_T0_upper d (vp_in_nI hk (by decide)) (by rw [nI_clamp (by omega)]; exact kk)
theorem ld_T0_lower {i : Int32} {x : Int32} (d : decode M.2.1 pc = .ok (.iaload, 1)) (hin : vp_in i 4) (h : S.2.1 22 i.toNatClampNeg = x) (kk : Ev g M (pc + 1) lv (.int x :: st) (hC S) Post) : Ev g M pc lv (.int i :: .ref 38 :: st) (hC S) Post := by subst h; exact ev_iald d rfl hin kk
theorem ldN_T0_lower {k : Nat} {x : Int32} (d : decode M.2.1 pc = .ok (.iaload, 1)) (hk : k < 4) (h : S.2.1 22 k = x) (kk : Ev g M (pc + 1) lv (.int x :: st) (hC S) Post) : Ev g M pc lv (.int (nI k) :: .ref 38 :: st) (hC S) Post := ld_T0_lower d (vp_in_nI hk (by decide)) (by rw [nI_clamp (by omega)]; exact h) kk
theorem as_T0_lower {i : Int32} {x : Int32} (d : decode M.2.1 pc = .ok (.iastore, 1)) (hin : vp_in i 4) (kk : Ev g M (pc + 1) lv st (hC (setA S 22 (upd (S.2.1 22) i.toNatClampNeg x))) Post) : Ev g M pc lv (.int x :: .int i :: .ref 38 :: st) (hC S) Post := ev_iast d rfl hin rfl kk
theorem asN_T0_lower {k : Nat} {x : Int32} (d : decode M.2.1 pc = .ok (.iastore, 1)) (hk : k < 4) (kk : Ev g M (pc + 1) lv st (hC (setA S 22 (upd (S.2.1 22) k x))) Post) : Ev g M pc lv (.int x :: .int (nI k) :: .ref 38 :: st) (hC S) Post := as_T0_lower d (vp_in_nI hk (by decide)) (by rw [nI_clamp (by omega)]; exact kk)
theorem get_T1_price {idx : Nat} (d : decode M.2.1 pc = .ok (.getfield idx, 3)) (f : Fl M.1.cls idx 8 0) (kk : Ev g M (pc + 3) lv (.ref 40 :: st) (hC S) Post) : Ev g M pc lv (.ref 39 :: st) (hC S) Post := ev_getf d f rfl rfl kk
theorem get_T1_upper {idx : Nat} (d : decode M.2.1 pc = .ok (.getfield idx, 3)) (f : Fl M.1.cls idx 8 1) (kk : Ev g M (pc + 3) lv (.ref 41 :: st) (hC S) Post) : Ev g M pc lv (.ref 39 :: st) (hC S) Post := ev_getf d f rfl rfl kk
theorem get_T1_lower {idx : Nat} (d : decode M.2.1 pc = .ok (.getfield idx, 3)) (f : Fl M.1.cls idx 8 2) (kk : Ev g M (pc + 3) lv (.ref 42 :: st) (hC S) Post) : Ev g M pc lv (.ref 39 :: st) (hC S) Post := ev_getf d f rfl rfl kk
theorem get_T1_quota {idx : Nat} {x : Int32} (d : decode M.2.1 pc = .ok (.getfield idx, 3)) (f : Fl M.1.cls idx 8 3) (h : S.1 17 = x) (kk : Ev g M (pc + 3) lv (.int x :: st) (hC S) Post) : Ev g M pc lv (.ref 39 :: st) (hC S) Post := by subst h; exact ev_getf d f rfl rfl kk
theorem put_T1_quota {idx : Nat} {x : Int32} (d : decode M.2.1 pc = .ok (.putfield idx, 3)) (f : Fp M.1.cls idx 8 3 .int) (kk : Ev g M (pc + 3) lv st (hC (setI S 17 x)) Post) : Ev g M pc lv (.int x :: .ref 39 :: st) (hC S) Post := ev_putf d f rfl rfl (fun _ => rfl) (fun _ => rfl) rfl kk
theorem get_T1_clauses {idx : Nat} {x : Int32} (d : decode M.2.1 pc = .ok (.getfield idx, 3)) (f : Fl M.1.cls idx 8 4) (h : S.1 19 = x) (kk : Ev g M (pc + 3) lv (.int x :: st) (hC S) Post) : Ev g M pc lv (.ref 39 :: st) (hC S) Post := by subst h; exact ev_getf d f rfl rfl kk
theorem put_T1_clauses {idx : Nat} {x : Int32} (d : decode M.2.1 pc = .ok (.putfield idx, 3)) (f : Fp M.1.cls idx 8 4 .int) (kk : Ev g M (pc + 3) lv st (hC (setI S 19 x)) Post) : Ev g M pc lv (.int x :: .ref 39 :: st) (hC S) Post := ev_putf d f rfl rfl (fun _ => rfl) (fun _ => rfl) rfl kk
theorem ld_T1_price {i : Int32} {x : Int32} (d : decode M.2.1 pc = .ok (.iaload, 1)) (hin : vp_in i 5) (h : S.2.1 19 i.toNatClampNeg = x) (kk : Ev g M (pc + 1) lv (.int x :: st) (hC S) Post) : Ev g M pc lv (.int i :: .ref 40 :: st) (hC S) Post := by subst h; exact ev_iald d rfl hin kk
theorem ldN_T1_price {k : Nat} {x : Int32} (d : decode M.2.1 pc = .ok (.iaload, 1)) (hk : k < 5) (h : S.2.1 19 k = x) (kk : Ev g M (pc + 1) lv (.int x :: st) (hC S) Post) : Ev g M pc lv (.int (nI k) :: .ref 40 :: st) (hC S) Post := ld_T1_price d (vp_in_nI hk (by decide)) (by rw [nI_clamp (by omega)]; exact h) kk
theorem as_T1_price {i : Int32} {x : Int32} (d : decode M.2.1 pc = .ok (.iastore, 1)) (hin : vp_in i 5) (kk : Ev g M (pc + 1) lv st (hC (setA S 19 (upd (S.2.1 19) i.toNatClampNeg x))) Post) : Ev g M pc lv (.int x :: .int i :: .ref 40 :: st) (hC S) Post := ev_iast d rfl hin rfl kk
theorem asN_T1_price {k : Nat} {x : Int32} (d : decode M.2.1 pc = .ok (.iastore, 1)) (hk : k < 5) (kk : Ev g M (pc + 1) lv st (hC (setA S 19 (upd (S.2.1 19) k x))) Post) : Ev g M pc lv (.int x :: .int (nI k) :: .ref 40 :: st) (hC S) Post := as_T1_price d (vp_in_nI hk (by decide)) (by rw [nI_clamp (by omega)]; exact kk)
theorem ld_T1_upper {i : Int32} {x : Int32} (d : decode M.2.1 pc = .ok (.iaload, 1)) (hin : vp_in i 4) (h : S.2.1 21 i.toNatClampNeg = x) (kk : Ev g M (pc + 1) lv (.int x :: st) (hC S) Post) : Ev g M pc lv (.int i :: .ref 41 :: st) (hC S) Post := by subst h; exact ev_iald d rfl hin kk
theorem ldN_T1_upper {k : Nat} {x : Int32} (d : decode M.2.1 pc = .ok (.iaload, 1)) (hk : k < 4) (h : S.2.1 21 k = x) (kk : Ev g M (pc + 1) lv (.int x :: st) (hC S) Post) : Ev g M pc lv (.int (nI k) :: .ref 41 :: st) (hC S) Post := ld_T1_upper d (vp_in_nI hk (by decide)) (by rw [nI_clamp (by omega)]; exact h) kk
theorem as_T1_upper {i : Int32} {x : Int32} (d : decode M.2.1 pc = .ok (.iastore, 1)) (hin : vp_in i 4) (kk : Ev g M (pc + 1) lv st (hC (setA S 21 (upd (S.2.1 21) i.toNatClampNeg x))) Post) : Ev g M pc lv (.int x :: .int i :: .ref 41 :: st) (hC S) Post := ev_iast d rfl hin rfl kk
theorem asN_T1_upper {k : Nat} {x : Int32} (d : decode M.2.1 pc = .ok (.iastore, 1)) (hk : k < 4) (kk : Ev g M (pc + 1) lv st (hC (setA S 21 (upd (S.2.1 21) k x))) Post) : Ev g M pc lv (.int x :: .int (nI k) :: .ref 41 :: st) (hC S) Post := as_T1_upper d (vp_in_nI hk (by decide)) (by rw [nI_clamp (by omega)]; exact kk)
theorem ld_T1_lower {i : Int32} {x : Int32} (d : decode M.2.1 pc = .ok (.iaload, 1)) (hin : vp_in i 4) (h : S.2.1 23 i.toNatClampNeg = x) (kk : Ev g M (pc + 1) lv (.int x :: st) (hC S) Post) : Ev g M pc lv (.int i :: .ref 42 :: st) (hC S) Post := by subst h; exact ev_iald d rfl hin kk
theorem ldN_T1_lower {k : Nat} {x : Int32} (d : decode M.2.1 pc = .ok (.iaload, 1)) (hk : k < 4) (h : S.2.1 23 k = x) (kk : Ev g M (pc + 1) lv (.int x :: st) (hC S) Post) : Ev g M pc lv (.int (nI k) :: .ref 42 :: st) (hC S) Post := ld_T1_lower d (vp_in_nI hk (by decide)) (by rw [nI_clamp (by omega)]; exact h) kk
theorem as_T1_lower {i : Int32} {x : Int32} (d : decode M.2.1 pc = .ok (.iastore, 1)) (hin : vp_in i 4) (kk : Ev g M (pc + 1) lv st (hC (setA S 23 (upd (S.2.1 23) i.toNatClampNeg x))) Post) : Ev g M pc lv (.int x :: .int i :: .ref 42 :: st) (hC S) Post := ev_iast d rfl hin rfl kk
theorem asN_T1_lower {k : Nat} {x : Int32} (d : decode M.2.1 pc = .ok (.iastore, 1)) (hk : k < 4) (kk : Ev g M (pc + 1) lv st (hC (setA S 23 (upd (S.2.1 23) k x))) Post) : Ev g M pc lv (.int x :: .int (nI k) :: .ref 42 :: st) (hC S) Post := as_T1_lower d (vp_in_nI hk (by decide)) (by rw [nI_clamp (by omega)]; exact kk)
theorem get_MO_thrown {idx : Nat} {x : Int32} (d : decode M.2.1 pc = .ok (.getfield idx, 3)) (f : Fl M.1.cls idx 10 0) (h : S.1 20 = x) (kk : Ev g M (pc + 3) lv (.int x :: st) (hC S) Post) : Ev g M pc lv (.ref 43 :: st) (hC S) Post := by subst h; exact ev_getf d f rfl rfl kk
theorem put_MO_thrown {idx : Nat} {x : Int32} (d : decode M.2.1 pc = .ok (.putfield idx, 3)) (f : Fp M.1.cls idx 10 0 .int) (kk : Ev g M (pc + 3) lv st (hC (setI S 20 x)) Post) : Ev g M pc lv (.int x :: .ref 43 :: st) (hC S) Post := ev_putf d f rfl rfl (fun _ => rfl) (fun _ => rfl) rfl kk
theorem get_MO_status {idx : Nat} {x : Int32} (d : decode M.2.1 pc = .ok (.getfield idx, 3)) (f : Fl M.1.cls idx 10 1) (h : S.1 21 = x) (kk : Ev g M (pc + 3) lv (.int x :: st) (hC S) Post) : Ev g M pc lv (.ref 43 :: st) (hC S) Post := by subst h; exact ev_getf d f rfl rfl kk
theorem put_MO_status {idx : Nat} {x : Int32} (d : decode M.2.1 pc = .ok (.putfield idx, 3)) (f : Fp M.1.cls idx 10 1 .int) (kk : Ev g M (pc + 3) lv st (hC (setI S 21 x)) Post) : Ev g M pc lv (.int x :: .ref 43 :: st) (hC S) Post := ev_putf d f rfl rfl (fun _ => rfl) (fun _ => rfl) rfl kk
theorem get_MO_farmers {idx : Nat} {x : Int32} (d : decode M.2.1 pc = .ok (.getfield idx, 3)) (f : Fl M.1.cls idx 10 2) (h : S.1 22 = x) (kk : Ev g M (pc + 3) lv (.int x :: st) (hC S) Post) : Ev g M pc lv (.ref 43 :: st) (hC S) Post := by subst h; exact ev_getf d f rfl rfl kk
theorem put_MO_farmers {idx : Nat} {x : Int32} (d : decode M.2.1 pc = .ok (.putfield idx, 3)) (f : Fp M.1.cls idx 10 2 .int) (kk : Ev g M (pc + 3) lv st (hC (setI S 22 x)) Post) : Ev g M pc lv (.int x :: .ref 43 :: st) (hC S) Post := ev_putf d f rfl rfl (fun _ => rfl) (fun _ => rfl) rfl kk
theorem get_MO_fGroup {idx : Nat} (d : decode M.2.1 pc = .ok (.getfield idx, 3)) (f : Fl M.1.cls idx 10 3) (kk : Ev g M (pc + 3) lv (.ref 44 :: st) (hC S) Post) : Ev g M pc lv (.ref 43 :: st) (hC S) Post := ev_getf d f rfl rfl kk
theorem get_MO_fPlace {idx : Nat} (d : decode M.2.1 pc = .ok (.getfield idx, 3)) (f : Fl M.1.cls idx 10 4) (kk : Ev g M (pc + 3) lv (.ref 45 :: st) (hC S) Post) : Ev g M pc lv (.ref 43 :: st) (hC S) Post := ev_getf d f rfl rfl kk
theorem get_MO_fFields {idx : Nat} (d : decode M.2.1 pc = .ok (.getfield idx, 3)) (f : Fl M.1.cls idx 10 5) (kk : Ev g M (pc + 3) lv (.ref 46 :: st) (hC S) Post) : Ev g M pc lv (.ref 43 :: st) (hC S) Post := ev_getf d f rfl rfl kk
theorem get_MO_credits {idx : Nat} {x : Int32} (d : decode M.2.1 pc = .ok (.getfield idx, 3)) (f : Fl M.1.cls idx 10 6) (h : S.1 23 = x) (kk : Ev g M (pc + 3) lv (.int x :: st) (hC S) Post) : Ev g M pc lv (.ref 43 :: st) (hC S) Post := by subst h; exact ev_getf d f rfl rfl kk
theorem put_MO_credits {idx : Nat} {x : Int32} (d : decode M.2.1 pc = .ok (.putfield idx, 3)) (f : Fp M.1.cls idx 10 6 .int) (kk : Ev g M (pc + 3) lv st (hC (setI S 23 x)) Post) : Ev g M pc lv (.int x :: .ref 43 :: st) (hC S) Post := ev_putf d f rfl rfl (fun _ => rfl) (fun _ => rfl) rfl kk
theorem get_MO_cFarmer {idx : Nat} (d : decode M.2.1 pc = .ok (.getfield idx, 3)) (f : Fl M.1.cls idx 10 7) (kk : Ev g M (pc + 3) lv (.ref 47 :: st) (hC S) Post) : Ev g M pc lv (.ref 43 :: st) (hC S) Post := ev_getf d f rfl rfl kk
theorem get_MO_cAmount {idx : Nat} (d : decode M.2.1 pc = .ok (.getfield idx, 3)) (f : Fl M.1.cls idx 10 8) (kk : Ev g M (pc + 3) lv (.ref 48 :: st) (hC S) Post) : Ev g M pc lv (.ref 43 :: st) (hC S) Post := ev_getf d f rfl rfl kk
theorem get_MO_cKnown {idx : Nat} (d : decode M.2.1 pc = .ok (.getfield idx, 3)) (f : Fl M.1.cls idx 10 9) (kk : Ev g M (pc + 3) lv (.ref 49 :: st) (hC S) Post) : Ev g M pc lv (.ref 43 :: st) (hC S) Post := ev_getf d f rfl rfl kk
theorem get_MO_baskets {idx : Nat} {x : Int32} (d : decode M.2.1 pc = .ok (.getfield idx, 3)) (f : Fl M.1.cls idx 10 10) (h : S.1 24 = x) (kk : Ev g M (pc + 3) lv (.int x :: st) (hC S) Post) : Ev g M pc lv (.ref 43 :: st) (hC S) Post := by subst h; exact ev_getf d f rfl rfl kk
theorem put_MO_baskets {idx : Nat} {x : Int32} (d : decode M.2.1 pc = .ok (.putfield idx, 3)) (f : Fp M.1.cls idx 10 10 .int) (kk : Ev g M (pc + 3) lv st (hC (setI S 24 x)) Post) : Ev g M pc lv (.int x :: .ref 43 :: st) (hC S) Post := ev_putf d f rfl rfl (fun _ => rfl) (fun _ => rfl) rfl kk
theorem get_MO_bFarmer {idx : Nat} (d : decode M.2.1 pc = .ok (.getfield idx, 3)) (f : Fl M.1.cls idx 10 11) (kk : Ev g M (pc + 3) lv (.ref 50 :: st) (hC S) Post) : Ev g M pc lv (.ref 43 :: st) (hC S) Post := ev_getf d f rfl rfl kk
theorem get_MO_bWeight {idx : Nat} (d : decode M.2.1 pc = .ok (.getfield idx, 3)) (f : Fl M.1.cls idx 10 12) (kk : Ev g M (pc + 3) lv (.ref 51 :: st) (hC S) Post) : Ev g M pc lv (.ref 43 :: st) (hC S) Post := ev_getf d f rfl rfl kk
theorem get_MO_bGrade {idx : Nat} (d : decode M.2.1 pc = .ok (.getfield idx, 3)) (f : Fl M.1.cls idx 10 13) (kk : Ev g M (pc + 3) lv (.ref 52 :: st) (hC S) Post) : Ev g M pc lv (.ref 43 :: st) (hC S) Post := ev_getf d f rfl rfl kk
theorem get_MO_bKnown {idx : Nat} (d : decode M.2.1 pc = .ok (.getfield idx, 3)) (f : Fl M.1.cls idx 10 14) (kk : Ev g M (pc + 3) lv (.ref 53 :: st) (hC S) Post) : Ev g M pc lv (.ref 43 :: st) (hC S) Post := ev_getf d f rfl rfl kk
theorem get_MO_clauses {idx : Nat} {x : Int32} (d : decode M.2.1 pc = .ok (.getfield idx, 3)) (f : Fl M.1.cls idx 10 15) (h : S.1 25 = x) (kk : Ev g M (pc + 3) lv (.int x :: st) (hC S) Post) : Ev g M pc lv (.ref 43 :: st) (hC S) Post := by subst h; exact ev_getf d f rfl rfl kk
theorem put_MO_clauses {idx : Nat} {x : Int32} (d : decode M.2.1 pc = .ok (.putfield idx, 3)) (f : Fp M.1.cls idx 10 15 .int) (kk : Ev g M (pc + 3) lv st (hC (setI S 25 x)) Post) : Ev g M pc lv (.int x :: .ref 43 :: st) (hC S) Post := ev_putf d f rfl rfl (fun _ => rfl) (fun _ => rfl) rfl kk
theorem get_MO_prices {idx : Nat} (d : decode M.2.1 pc = .ok (.getfield idx, 3)) (f : Fl M.1.cls idx 10 16) (kk : Ev g M (pc + 3) lv (.ref 54 :: st) (hC S) Post) : Ev g M pc lv (.ref 43 :: st) (hC S) Post := ev_getf d f rfl rfl kk
theorem get_MO_quota {idx : Nat} {x : Int32} (d : decode M.2.1 pc = .ok (.getfield idx, 3)) (f : Fl M.1.cls idx 10 17) (h : S.1 26 = x) (kk : Ev g M (pc + 3) lv (.int x :: st) (hC S) Post) : Ev g M pc lv (.ref 43 :: st) (hC S) Post := by subst h; exact ev_getf d f rfl rfl kk
theorem put_MO_quota {idx : Nat} {x : Int32} (d : decode M.2.1 pc = .ok (.putfield idx, 3)) (f : Fp M.1.cls idx 10 17 .int) (kk : Ev g M (pc + 3) lv st (hC (setI S 26 x)) Post) : Ev g M pc lv (.int x :: .ref 43 :: st) (hC S) Post := ev_putf d f rfl rfl (fun _ => rfl) (fun _ => rfl) rfl kk
theorem get_MO_partA {idx : Nat} (d : decode M.2.1 pc = .ok (.getfield idx, 3)) (f : Fl M.1.cls idx 10 18) (kk : Ev g M (pc + 3) lv (.ref 55 :: st) (hC S) Post) : Ev g M pc lv (.ref 43 :: st) (hC S) Post := ev_getf d f rfl rfl kk
theorem get_MO_partB {idx : Nat} (d : decode M.2.1 pc = .ok (.getfield idx, 3)) (f : Fl M.1.cls idx 10 19) (kk : Ev g M (pc + 3) lv (.ref 56 :: st) (hC S) Post) : Ev g M pc lv (.ref 43 :: st) (hC S) Post := ev_getf d f rfl rfl kk
theorem get_MO_nMany {idx : Nat} {x : Int32} (d : decode M.2.1 pc = .ok (.getfield idx, 3)) (f : Fl M.1.cls idx 10 20) (h : S.1 27 = x) (kk : Ev g M (pc + 3) lv (.int x :: st) (hC S) Post) : Ev g M pc lv (.ref 43 :: st) (hC S) Post := by subst h; exact ev_getf d f rfl rfl kk
theorem put_MO_nMany {idx : Nat} {x : Int32} (d : decode M.2.1 pc = .ok (.putfield idx, 3)) (f : Fp M.1.cls idx 10 20 .int) (kk : Ev g M (pc + 3) lv st (hC (setI S 27 x)) Post) : Ev g M pc lv (.int x :: .ref 43 :: st) (hC S) Post := ev_putf d f rfl rfl (fun _ => rfl) (fun _ => rfl) rfl kk
theorem get_MO_nPrices {idx : Nat} (d : decode M.2.1 pc = .ok (.getfield idx, 3)) (f : Fl M.1.cls idx 10 21) (kk : Ev g M (pc + 3) lv (.ref 57 :: st) (hC S) Post) : Ev g M pc lv (.ref 43 :: st) (hC S) Post := ev_getf d f rfl rfl kk
theorem get_MO_nQuota {idx : Nat} {x : Int32} (d : decode M.2.1 pc = .ok (.getfield idx, 3)) (f : Fl M.1.cls idx 10 22) (h : S.1 28 = x) (kk : Ev g M (pc + 3) lv (.int x :: st) (hC S) Post) : Ev g M pc lv (.ref 43 :: st) (hC S) Post := by subst h; exact ev_getf d f rfl rfl kk
theorem put_MO_nQuota {idx : Nat} {x : Int32} (d : decode M.2.1 pc = .ok (.putfield idx, 3)) (f : Fp M.1.cls idx 10 22 .int) (kk : Ev g M (pc + 3) lv st (hC (setI S 28 x)) Post) : Ev g M pc lv (.int x :: .ref 43 :: st) (hC S) Post := ev_putf d f rfl rfl (fun _ => rfl) (fun _ => rfl) rfl kk
theorem get_MO_nA {idx : Nat} (d : decode M.2.1 pc = .ok (.getfield idx, 3)) (f : Fl M.1.cls idx 10 23) (kk : Ev g M (pc + 3) lv (.ref 58 :: st) (hC S) Post) : Ev g M pc lv (.ref 43 :: st) (hC S) Post := ev_getf d f rfl rfl kk
theorem get_MO_nB {idx : Nat} (d : decode M.2.1 pc = .ok (.getfield idx, 3)) (f : Fl M.1.cls idx 10 24) (kk : Ev g M (pc + 3) lv (.ref 59 :: st) (hC S) Post) : Ev g M pc lv (.ref 43 :: st) (hC S) Post := ev_getf d f rfl rfl kk
theorem get_MO_tape {idx : Nat} (d : decode M.2.1 pc = .ok (.getfield idx, 3)) (f : Fl M.1.cls idx 10 25) (kk : Ev g M (pc + 3) lv (.ref 60 :: st) (hC S) Post) : Ev g M pc lv (.ref 43 :: st) (hC S) Post := ev_getf d f rfl rfl kk
theorem get_MO_taped {idx : Nat} {x : Int32} (d : decode M.2.1 pc = .ok (.getfield idx, 3)) (f : Fl M.1.cls idx 10 26) (h : S.1 29 = x) (kk : Ev g M (pc + 3) lv (.int x :: st) (hC S) Post) : Ev g M pc lv (.ref 43 :: st) (hC S) Post := by subst h; exact ev_getf d f rfl rfl kk
theorem put_MO_taped {idx : Nat} {x : Int32} (d : decode M.2.1 pc = .ok (.putfield idx, 3)) (f : Fp M.1.cls idx 10 26 .int) (kk : Ev g M (pc + 3) lv st (hC (setI S 29 x)) Post) : Ev g M pc lv (.int x :: .ref 43 :: st) (hC S) Post := ev_putf d f rfl rfl (fun _ => rfl) (fun _ => rfl) rfl kk
theorem get_MO_from {idx : Nat} {x : Int32} (d : decode M.2.1 pc = .ok (.getfield idx, 3)) (f : Fl M.1.cls idx 10 27) (h : S.1 30 = x) (kk : Ev g M (pc + 3) lv (.int x :: st) (hC S) Post) : Ev g M pc lv (.ref 43 :: st) (hC S) Post := by subst h; exact ev_getf d f rfl rfl kk
theorem put_MO_from {idx : Nat} {x : Int32} (d : decode M.2.1 pc = .ok (.putfield idx, 3)) (f : Fp M.1.cls idx 10 27 .int) (kk : Ev g M (pc + 3) lv st (hC (setI S 30 x)) Post) : Ev g M pc lv (.int x :: .ref 43 :: st) (hC S) Post := ev_putf d f rfl rfl (fun _ => rfl) (fun _ => rfl) rfl kk
theorem get_MO_to {idx : Nat} {x : Int32} (d : decode M.2.1 pc = .ok (.getfield idx, 3)) (f : Fl M.1.cls idx 10 28) (h : S.1 31 = x) (kk : Ev g M (pc + 3) lv (.int x :: st) (hC S) Post) : Ev g M pc lv (.ref 43 :: st) (hC S) Post := by subst h; exact ev_getf d f rfl rfl kk
theorem put_MO_to {idx : Nat} {x : Int32} (d : decode M.2.1 pc = .ok (.putfield idx, 3)) (f : Fp M.1.cls idx 10 28 .int) (kk : Ev g M (pc + 3) lv st (hC (setI S 31 x)) Post) : Ev g M pc lv (.int x :: .ref 43 :: st) (hC S) Post := ev_putf d f rfl rfl (fun _ => rfl) (fun _ => rfl) rfl kk
theorem get_MO_sort {idx : Nat} {x : Int32} (d : decode M.2.1 pc = .ok (.getfield idx, 3)) (f : Fl M.1.cls idx 10 29) (h : S.1 32 = x) (kk : Ev g M (pc + 3) lv (.int x :: st) (hC S) Post) : Ev g M pc lv (.ref 43 :: st) (hC S) Post := by subst h; exact ev_getf d f rfl rfl kk
theorem put_MO_sort {idx : Nat} {x : Int32} (d : decode M.2.1 pc = .ok (.putfield idx, 3)) (f : Fp M.1.cls idx 10 29 .int) (kk : Ev g M (pc + 3) lv st (hC (setI S 32 x)) Post) : Ev g M pc lv (.int x :: .ref 43 :: st) (hC S) Post := ev_putf d f rfl rfl (fun _ => rfl) (fun _ => rfl) rfl kk
theorem get_MO_worth {idx : Nat} {x : Int64} (d : decode M.2.1 pc = .ok (.getfield idx, 3)) (f : Fl M.1.cls idx 10 30) (h : S.2.2.1 3 = x) (kk : Ev g M (pc + 3) lv (.long x :: st) (hC S) Post) : Ev g M pc lv (.ref 43 :: st) (hC S) Post := by subst h; exact ev_getf d f rfl rfl kk
theorem put_MO_worth {idx : Nat} {x : Int64} (d : decode M.2.1 pc = .ok (.putfield idx, 3)) (f : Fp M.1.cls idx 10 30 .long) (kk : Ev g M (pc + 3) lv st (hC (setL S 3 x)) Post) : Ev g M pc lv (.long x :: .ref 43 :: st) (hC S) Post := ev_putf d f rfl rfl (fun _ => rfl) (fun _ => rfl) rfl kk
theorem get_MO_fault {idx : Nat} {x : Int32} (d : decode M.2.1 pc = .ok (.getfield idx, 3)) (f : Fl M.1.cls idx 10 31) (h : S.1 33 = x) (kk : Ev g M (pc + 3) lv (.int x :: st) (hC S) Post) : Ev g M pc lv (.ref 43 :: st) (hC S) Post := by subst h; exact ev_getf d f rfl rfl kk
theorem put_MO_fault {idx : Nat} {x : Int32} (d : decode M.2.1 pc = .ok (.putfield idx, 3)) (f : Fp M.1.cls idx 10 31 .int) (kk : Ev g M (pc + 3) lv st (hC (setI S 33 x)) Post) : Ev g M pc lv (.int x :: .ref 43 :: st) (hC S) Post := ev_putf d f rfl rfl (fun _ => rfl) (fun _ => rfl) rfl kk
theorem get_MO_bad {idx : Nat} {x : Int32} (d : decode M.2.1 pc = .ok (.getfield idx, 3)) (f : Fl M.1.cls idx 10 32) (h : S.1 34 = x) (kk : Ev g M (pc + 3) lv (.int x :: st) (hC S) Post) : Ev g M pc lv (.ref 43 :: st) (hC S) Post := by subst h; exact ev_getf d f rfl rfl kk
theorem put_MO_bad {idx : Nat} {x : Int32} (d : decode M.2.1 pc = .ok (.putfield idx, 3)) (f : Fp M.1.cls idx 10 32 .boolean) (hz : narrow .boolean (.int x) = .int x) (hf : fits .boolean (.int x) = true) (kk : Ev g M (pc + 3) lv st (hC (setI S 34 x)) Post) : Ev g M pc lv (.int x :: .ref 43 :: st) (hC S) Post := ev_putf d f rfl rfl (fun _ => hz) (fun _ => hf) rfl kk
theorem get_MO_weights {idx : Nat} (d : decode M.2.1 pc = .ok (.getfield idx, 3)) (f : Fl M.1.cls idx 10 33) (kk : Ev g M (pc + 3) lv (.ref 61 :: st) (hC S) Post) : Ev g M pc lv (.ref 43 :: st) (hC S) Post := ev_getf d f rfl rfl kk
theorem get_MO_owes {idx : Nat} (d : decode M.2.1 pc = .ok (.getfield idx, 3)) (f : Fl M.1.cls idx 10 34) (kk : Ev g M (pc + 3) lv (.ref 62 :: st) (hC S) Post) : Ev g M pc lv (.ref 43 :: st) (hC S) Post := ev_getf d f rfl rfl kk
theorem get_MO_checks {idx : Nat} (d : decode M.2.1 pc = .ok (.getfield idx, 3)) (f : Fl M.1.cls idx 10 35) (kk : Ev g M (pc + 3) lv (.ref 63 :: st) (hC S) Post) : Ev g M pc lv (.ref 43 :: st) (hC S) Post := ev_getf d f rfl rfl kk
theorem get_MO_offs {idx : Nat} (d : decode M.2.1 pc = .ok (.getfield idx, 3)) (f : Fl M.1.cls idx 10 36) (kk : Ev g M (pc + 3) lv (.ref 64 :: st) (hC S) Post) : Ev g M pc lv (.ref 43 :: st) (hC S) Post := ev_getf d f rfl rfl kk
theorem get_MO_rests {idx : Nat} (d : decode M.2.1 pc = .ok (.getfield idx, 3)) (f : Fl M.1.cls idx 10 37) (kk : Ev g M (pc + 3) lv (.ref 65 :: st) (hC S) Post) : Ev g M pc lv (.ref 43 :: st) (hC S) Post := ev_getf d f rfl rfl kk
theorem get_MO_quotas {idx : Nat} (d : decode M.2.1 pc = .ok (.getfield idx, 3)) (f : Fl M.1.cls idx 10 38) (kk : Ev g M (pc + 3) lv (.ref 66 :: st) (hC S) Post) : Ev g M pc lv (.ref 43 :: st) (hC S) Post := ev_getf d f rfl rfl kk
theorem get_MO_can {idx : Nat} (d : decode M.2.1 pc = .ok (.getfield idx, 3)) (f : Fl M.1.cls idx 10 39) (kk : Ev g M (pc + 3) lv (.ref 67 :: st) (hC S) Post) : Ev g M pc lv (.ref 43 :: st) (hC S) Post := ev_getf d f rfl rfl kk
theorem get_MO_given {idx : Nat} (d : decode M.2.1 pc = .ok (.getfield idx, 3)) (f : Fl M.1.cls idx 10 40) (kk : Ev g M (pc + 3) lv (.ref 68 :: st) (hC S) Post) : Ev g M pc lv (.ref 43 :: st) (hC S) Post := ev_getf d f rfl rfl kk
theorem get_MO_left {idx : Nat} (d : decode M.2.1 pc = .ok (.getfield idx, 3)) (f : Fl M.1.cls idx 10 41) (kk : Ev g M (pc + 3) lv (.ref 69 :: st) (hC S) Post) : Ev g M pc lv (.ref 43 :: st) (hC S) Post := ev_getf d f rfl rfl kk
theorem get_MO_bearing {idx : Nat} {x : Int32} (d : decode M.2.1 pc = .ok (.getfield idx, 3)) (f : Fl M.1.cls idx 10 42) (h : S.1 35 = x) (kk : Ev g M (pc + 3) lv (.int x :: st) (hC S) Post) : Ev g M pc lv (.ref 43 :: st) (hC S) Post := by subst h; exact ev_getf d f rfl rfl kk
theorem put_MO_bearing {idx : Nat} {x : Int32} (d : decode M.2.1 pc = .ok (.putfield idx, 3)) (f : Fp M.1.cls idx 10 42 .int) (kk : Ev g M (pc + 3) lv st (hC (setI S 35 x)) Post) : Ev g M pc lv (.int x :: .ref 43 :: st) (hC S) Post := ev_putf d f rfl rfl (fun _ => rfl) (fun _ => rfl) rfl kk
theorem get_MO_droughts {idx : Nat} {x : Int32} (d : decode M.2.1 pc = .ok (.getfield idx, 3)) (f : Fl M.1.cls idx 10 43) (h : S.1 36 = x) (kk : Ev g M (pc + 3) lv (.int x :: st) (hC S) Post) : Ev g M pc lv (.ref 43 :: st) (hC S) Post := by subst h; exact ev_getf d f rfl rfl kk
theorem put_MO_droughts {idx : Nat} {x : Int32} (d : decode M.2.1 pc = .ok (.putfield idx, 3)) (f : Fp M.1.cls idx 10 43 .int) (kk : Ev g M (pc + 3) lv st (hC (setI S 36 x)) Post) : Ev g M pc lv (.int x :: .ref 43 :: st) (hC S) Post := ev_putf d f rfl rfl (fun _ => rfl) (fun _ => rfl) rfl kk
theorem get_MO_dFrom {idx : Nat} (d : decode M.2.1 pc = .ok (.getfield idx, 3)) (f : Fl M.1.cls idx 10 44) (kk : Ev g M (pc + 3) lv (.ref 70 :: st) (hC S) Post) : Ev g M pc lv (.ref 43 :: st) (hC S) Post := ev_getf d f rfl rfl kk
theorem get_MO_dTo {idx : Nat} (d : decode M.2.1 pc = .ok (.getfield idx, 3)) (f : Fl M.1.cls idx 10 45) (kk : Ev g M (pc + 3) lv (.ref 71 :: st) (hC S) Post) : Ev g M pc lv (.ref 43 :: st) (hC S) Post := ev_getf d f rfl rfl kk
theorem get_MO_dPart {idx : Nat} (d : decode M.2.1 pc = .ok (.getfield idx, 3)) (f : Fl M.1.cls idx 10 46) (kk : Ev g M (pc + 3) lv (.ref 72 :: st) (hC S) Post) : Ev g M pc lv (.ref 43 :: st) (hC S) Post := ev_getf d f rfl rfl kk
theorem get_MO_visits {idx : Nat} {x : Int32} (d : decode M.2.1 pc = .ok (.getfield idx, 3)) (f : Fl M.1.cls idx 10 47) (h : S.1 37 = x) (kk : Ev g M (pc + 3) lv (.int x :: st) (hC S) Post) : Ev g M pc lv (.ref 43 :: st) (hC S) Post := by subst h; exact ev_getf d f rfl rfl kk
theorem put_MO_visits {idx : Nat} {x : Int32} (d : decode M.2.1 pc = .ok (.putfield idx, 3)) (f : Fp M.1.cls idx 10 47 .int) (kk : Ev g M (pc + 3) lv st (hC (setI S 37 x)) Post) : Ev g M pc lv (.int x :: .ref 43 :: st) (hC S) Post := ev_putf d f rfl rfl (fun _ => rfl) (fun _ => rfl) rfl kk
theorem get_MO_vFarmer {idx : Nat} (d : decode M.2.1 pc = .ok (.getfield idx, 3)) (f : Fl M.1.cls idx 10 48) (kk : Ev g M (pc + 3) lv (.ref 73 :: st) (hC S) Post) : Ev g M pc lv (.ref 43 :: st) (hC S) Post := ev_getf d f rfl rfl kk
theorem get_MO_vHour {idx : Nat} (d : decode M.2.1 pc = .ok (.getfield idx, 3)) (f : Fl M.1.cls idx 10 49) (kk : Ev g M (pc + 3) lv (.ref 74 :: st) (hC S) Post) : Ev g M pc lv (.ref 43 :: st) (hC S) Post := ev_getf d f rfl rfl kk
theorem get_MO_places {idx : Nat} {x : Int32} (d : decode M.2.1 pc = .ok (.getfield idx, 3)) (f : Fl M.1.cls idx 10 50) (h : S.1 38 = x) (kk : Ev g M (pc + 3) lv (.int x :: st) (hC S) Post) : Ev g M pc lv (.ref 43 :: st) (hC S) Post := by subst h; exact ev_getf d f rfl rfl kk
theorem put_MO_places {idx : Nat} {x : Int32} (d : decode M.2.1 pc = .ok (.putfield idx, 3)) (f : Fp M.1.cls idx 10 50 .int) (kk : Ev g M (pc + 3) lv st (hC (setI S 38 x)) Post) : Ev g M pc lv (.int x :: .ref 43 :: st) (hC S) Post := ev_putf d f rfl rfl (fun _ => rfl) (fun _ => rfl) rfl kk
theorem get_MO_place {idx : Nat} (d : decode M.2.1 pc = .ok (.getfield idx, 3)) (f : Fl M.1.cls idx 10 51) (kk : Ev g M (pc + 3) lv (.ref 75 :: st) (hC S) Post) : Ev g M pc lv (.ref 43 :: st) (hC S) Post := ev_getf d f rfl rfl kk
theorem get_MO_early {idx : Nat} (d : decode M.2.1 pc = .ok (.getfield idx, 3)) (f : Fl M.1.cls idx 10 52) (kk : Ev g M (pc + 3) lv (.ref 76 :: st) (hC S) Post) : Ev g M pc lv (.ref 43 :: st) (hC S) Post := ev_getf d f rfl rfl kk
theorem ld_MO_fGroup {i : Int32} {x : Int32} (d : decode M.2.1 pc = .ok (.iaload, 1)) (hin : vp_in i 40) (h : S.2.1 24 i.toNatClampNeg = x) (kk : Ev g M (pc + 1) lv (.int x :: st) (hC S) Post) : Ev g M pc lv (.int i :: .ref 44 :: st) (hC S) Post := by subst h; exact ev_iald d rfl hin kk
theorem ldN_MO_fGroup {k : Nat} {x : Int32} (d : decode M.2.1 pc = .ok (.iaload, 1)) (hk : k < 40) (h : S.2.1 24 k = x) (kk : Ev g M (pc + 1) lv (.int x :: st) (hC S) Post) : Ev g M pc lv (.int (nI k) :: .ref 44 :: st) (hC S) Post := ld_MO_fGroup d (vp_in_nI hk (by decide)) (by rw [nI_clamp (by omega)]; exact h) kk
theorem as_MO_fGroup {i : Int32} {x : Int32} (d : decode M.2.1 pc = .ok (.iastore, 1)) (hin : vp_in i 40) (kk : Ev g M (pc + 1) lv st (hC (setA S 24 (upd (S.2.1 24) i.toNatClampNeg x))) Post) : Ev g M pc lv (.int x :: .int i :: .ref 44 :: st) (hC S) Post := ev_iast d rfl hin rfl kk
theorem asN_MO_fGroup {k : Nat} {x : Int32} (d : decode M.2.1 pc = .ok (.iastore, 1)) (hk : k < 40) (kk : Ev g M (pc + 1) lv st (hC (setA S 24 (upd (S.2.1 24) k x))) Post) : Ev g M pc lv (.int x :: .int (nI k) :: .ref 44 :: st) (hC S) Post := as_MO_fGroup d (vp_in_nI hk (by decide)) (by rw [nI_clamp (by omega)]; exact kk)
theorem ld_MO_fPlace {i : Int32} {x : Int32} (d : decode M.2.1 pc = .ok (.iaload, 1)) (hin : vp_in i 40) (h : S.2.1 25 i.toNatClampNeg = x) (kk : Ev g M (pc + 1) lv (.int x :: st) (hC S) Post) : Ev g M pc lv (.int i :: .ref 45 :: st) (hC S) Post := by subst h; exact ev_iald d rfl hin kk
theorem ldN_MO_fPlace {k : Nat} {x : Int32} (d : decode M.2.1 pc = .ok (.iaload, 1)) (hk : k < 40) (h : S.2.1 25 k = x) (kk : Ev g M (pc + 1) lv (.int x :: st) (hC S) Post) : Ev g M pc lv (.int (nI k) :: .ref 45 :: st) (hC S) Post := ld_MO_fPlace d (vp_in_nI hk (by decide)) (by rw [nI_clamp (by omega)]; exact h) kk
theorem as_MO_fPlace {i : Int32} {x : Int32} (d : decode M.2.1 pc = .ok (.iastore, 1)) (hin : vp_in i 40) (kk : Ev g M (pc + 1) lv st (hC (setA S 25 (upd (S.2.1 25) i.toNatClampNeg x))) Post) : Ev g M pc lv (.int x :: .int i :: .ref 45 :: st) (hC S) Post := ev_iast d rfl hin rfl kk
theorem asN_MO_fPlace {k : Nat} {x : Int32} (d : decode M.2.1 pc = .ok (.iastore, 1)) (hk : k < 40) (kk : Ev g M (pc + 1) lv st (hC (setA S 25 (upd (S.2.1 25) k x))) Post) : Ev g M pc lv (.int x :: .int (nI k) :: .ref 45 :: st) (hC S) Post := as_MO_fPlace d (vp_in_nI hk (by decide)) (by rw [nI_clamp (by omega)]; exact kk)
theorem ld_MO_fFields {i : Int32} {x : Int32} (d : decode M.2.1 pc = .ok (.iaload, 1)) (hin : vp_in i 40) (h : S.2.1 26 i.toNatClampNeg = x) (kk : Ev g M (pc + 1) lv (.int x :: st) (hC S) Post) : Ev g M pc lv (.int i :: .ref 46 :: st) (hC S) Post := by subst h; exact ev_iald d rfl hin kk
theorem ldN_MO_fFields {k : Nat} {x : Int32} (d : decode M.2.1 pc = .ok (.iaload, 1)) (hk : k < 40) (h : S.2.1 26 k = x) (kk : Ev g M (pc + 1) lv (.int x :: st) (hC S) Post) : Ev g M pc lv (.int (nI k) :: .ref 46 :: st) (hC S) Post := ld_MO_fFields d (vp_in_nI hk (by decide)) (by rw [nI_clamp (by omega)]; exact h) kk
theorem as_MO_fFields {i : Int32} {x : Int32} (d : decode M.2.1 pc = .ok (.iastore, 1)) (hin : vp_in i 40) (kk : Ev g M (pc + 1) lv st (hC (setA S 26 (upd (S.2.1 26) i.toNatClampNeg x))) Post) : Ev g M pc lv (.int x :: .int i :: .ref 46 :: st) (hC S) Post := ev_iast d rfl hin rfl kk
theorem asN_MO_fFields {k : Nat} {x : Int32} (d : decode M.2.1 pc = .ok (.iastore, 1)) (hk : k < 40) (kk : Ev g M (pc + 1) lv st (hC (setA S 26 (upd (S.2.1 26) k x))) Post) : Ev g M pc lv (.int x :: .int (nI k) :: .ref 46 :: st) (hC S) Post := as_MO_fFields d (vp_in_nI hk (by decide)) (by rw [nI_clamp (by omega)]; exact kk)
theorem ld_MO_cFarmer {i : Int32} {x : Int32} (d : decode M.2.1 pc = .ok (.iaload, 1)) (hin : vp_in i 200) (h : S.2.1 27 i.toNatClampNeg = x) (kk : Ev g M (pc + 1) lv (.int x :: st) (hC S) Post) : Ev g M pc lv (.int i :: .ref 47 :: st) (hC S) Post := by subst h; exact ev_iald d rfl hin kk
theorem ldN_MO_cFarmer {k : Nat} {x : Int32} (d : decode M.2.1 pc = .ok (.iaload, 1)) (hk : k < 200) (h : S.2.1 27 k = x) (kk : Ev g M (pc + 1) lv (.int x :: st) (hC S) Post) : Ev g M pc lv (.int (nI k) :: .ref 47 :: st) (hC S) Post := ld_MO_cFarmer d (vp_in_nI hk (by decide)) (by rw [nI_clamp (by omega)]; exact h) kk
theorem as_MO_cFarmer {i : Int32} {x : Int32} (d : decode M.2.1 pc = .ok (.iastore, 1)) (hin : vp_in i 200) (kk : Ev g M (pc + 1) lv st (hC (setA S 27 (upd (S.2.1 27) i.toNatClampNeg x))) Post) : Ev g M pc lv (.int x :: .int i :: .ref 47 :: st) (hC S) Post := ev_iast d rfl hin rfl kk
theorem asN_MO_cFarmer {k : Nat} {x : Int32} (d : decode M.2.1 pc = .ok (.iastore, 1)) (hk : k < 200) (kk : Ev g M (pc + 1) lv st (hC (setA S 27 (upd (S.2.1 27) k x))) Post) : Ev g M pc lv (.int x :: .int (nI k) :: .ref 47 :: st) (hC S) Post := as_MO_cFarmer d (vp_in_nI hk (by decide)) (by rw [nI_clamp (by omega)]; exact kk)
theorem ld_MO_cAmount {i : Int32} {x : Int32} (d : decode M.2.1 pc = .ok (.iaload, 1)) (hin : vp_in i 200) (h : S.2.1 28 i.toNatClampNeg = x) (kk : Ev g M (pc + 1) lv (.int x :: st) (hC S) Post) : Ev g M pc lv (.int i :: .ref 48 :: st) (hC S) Post := by subst h; exact ev_iald d rfl hin kk
theorem ldN_MO_cAmount {k : Nat} {x : Int32} (d : decode M.2.1 pc = .ok (.iaload, 1)) (hk : k < 200) (h : S.2.1 28 k = x) (kk : Ev g M (pc + 1) lv (.int x :: st) (hC S) Post) : Ev g M pc lv (.int (nI k) :: .ref 48 :: st) (hC S) Post := ld_MO_cAmount d (vp_in_nI hk (by decide)) (by rw [nI_clamp (by omega)]; exact h) kk
theorem as_MO_cAmount {i : Int32} {x : Int32} (d : decode M.2.1 pc = .ok (.iastore, 1)) (hin : vp_in i 200) (kk : Ev g M (pc + 1) lv st (hC (setA S 28 (upd (S.2.1 28) i.toNatClampNeg x))) Post) : Ev g M pc lv (.int x :: .int i :: .ref 48 :: st) (hC S) Post := ev_iast d rfl hin rfl kk
theorem asN_MO_cAmount {k : Nat} {x : Int32} (d : decode M.2.1 pc = .ok (.iastore, 1)) (hk : k < 200) (kk : Ev g M (pc + 1) lv st (hC (setA S 28 (upd (S.2.1 28) k x))) Post) : Ev g M pc lv (.int x :: .int (nI k) :: .ref 48 :: st) (hC S) Post := as_MO_cAmount d (vp_in_nI hk (by decide)) (by rw [nI_clamp (by omega)]; exact kk)
theorem ld_MO_cKnown {i : Int32} {x : Int32} (d : decode M.2.1 pc = .ok (.iaload, 1)) (hin : vp_in i 200) (h : S.2.1 29 i.toNatClampNeg = x) (kk : Ev g M (pc + 1) lv (.int x :: st) (hC S) Post) : Ev g M pc lv (.int i :: .ref 49 :: st) (hC S) Post := by subst h; exact ev_iald d rfl hin kk
theorem ldN_MO_cKnown {k : Nat} {x : Int32} (d : decode M.2.1 pc = .ok (.iaload, 1)) (hk : k < 200) (h : S.2.1 29 k = x) (kk : Ev g M (pc + 1) lv (.int x :: st) (hC S) Post) : Ev g M pc lv (.int (nI k) :: .ref 49 :: st) (hC S) Post := ld_MO_cKnown d (vp_in_nI hk (by decide)) (by rw [nI_clamp (by omega)]; exact h) kk
theorem as_MO_cKnown {i : Int32} {x : Int32} (d : decode M.2.1 pc = .ok (.iastore, 1)) (hin : vp_in i 200) (kk : Ev g M (pc + 1) lv st (hC (setA S 29 (upd (S.2.1 29) i.toNatClampNeg x))) Post) : Ev g M pc lv (.int x :: .int i :: .ref 49 :: st) (hC S) Post := ev_iast d rfl hin rfl kk
theorem asN_MO_cKnown {k : Nat} {x : Int32} (d : decode M.2.1 pc = .ok (.iastore, 1)) (hk : k < 200) (kk : Ev g M (pc + 1) lv st (hC (setA S 29 (upd (S.2.1 29) k x))) Post) : Ev g M pc lv (.int x :: .int (nI k) :: .ref 49 :: st) (hC S) Post := as_MO_cKnown d (vp_in_nI hk (by decide)) (by rw [nI_clamp (by omega)]; exact kk)
theorem ld_MO_bFarmer {i : Int32} {x : Int32} (d : decode M.2.1 pc = .ok (.iaload, 1)) (hin : vp_in i 300) (h : S.2.1 30 i.toNatClampNeg = x) (kk : Ev g M (pc + 1) lv (.int x :: st) (hC S) Post) : Ev g M pc lv (.int i :: .ref 50 :: st) (hC S) Post := by subst h; exact ev_iald d rfl hin kk
theorem ldN_MO_bFarmer {k : Nat} {x : Int32} (d : decode M.2.1 pc = .ok (.iaload, 1)) (hk : k < 300) (h : S.2.1 30 k = x) (kk : Ev g M (pc + 1) lv (.int x :: st) (hC S) Post) : Ev g M pc lv (.int (nI k) :: .ref 50 :: st) (hC S) Post := ld_MO_bFarmer d (vp_in_nI hk (by decide)) (by rw [nI_clamp (by omega)]; exact h) kk
theorem as_MO_bFarmer {i : Int32} {x : Int32} (d : decode M.2.1 pc = .ok (.iastore, 1)) (hin : vp_in i 300) (kk : Ev g M (pc + 1) lv st (hC (setA S 30 (upd (S.2.1 30) i.toNatClampNeg x))) Post) : Ev g M pc lv (.int x :: .int i :: .ref 50 :: st) (hC S) Post := ev_iast d rfl hin rfl kk
theorem asN_MO_bFarmer {k : Nat} {x : Int32} (d : decode M.2.1 pc = .ok (.iastore, 1)) (hk : k < 300) (kk : Ev g M (pc + 1) lv st (hC (setA S 30 (upd (S.2.1 30) k x))) Post) : Ev g M pc lv (.int x :: .int (nI k) :: .ref 50 :: st) (hC S) Post := as_MO_bFarmer d (vp_in_nI hk (by decide)) (by rw [nI_clamp (by omega)]; exact kk)
theorem ld_MO_bWeight {i : Int32} {x : Int32} (d : decode M.2.1 pc = .ok (.iaload, 1)) (hin : vp_in i 300) (h : S.2.1 31 i.toNatClampNeg = x) (kk : Ev g M (pc + 1) lv (.int x :: st) (hC S) Post) : Ev g M pc lv (.int i :: .ref 51 :: st) (hC S) Post := by subst h; exact ev_iald d rfl hin kk
theorem ldN_MO_bWeight {k : Nat} {x : Int32} (d : decode M.2.1 pc = .ok (.iaload, 1)) (hk : k < 300) (h : S.2.1 31 k = x) (kk : Ev g M (pc + 1) lv (.int x :: st) (hC S) Post) : Ev g M pc lv (.int (nI k) :: .ref 51 :: st) (hC S) Post := ld_MO_bWeight d (vp_in_nI hk (by decide)) (by rw [nI_clamp (by omega)]; exact h) kk
theorem as_MO_bWeight {i : Int32} {x : Int32} (d : decode M.2.1 pc = .ok (.iastore, 1)) (hin : vp_in i 300) (kk : Ev g M (pc + 1) lv st (hC (setA S 31 (upd (S.2.1 31) i.toNatClampNeg x))) Post) : Ev g M pc lv (.int x :: .int i :: .ref 51 :: st) (hC S) Post := ev_iast d rfl hin rfl kk
theorem asN_MO_bWeight {k : Nat} {x : Int32} (d : decode M.2.1 pc = .ok (.iastore, 1)) (hk : k < 300) (kk : Ev g M (pc + 1) lv st (hC (setA S 31 (upd (S.2.1 31) k x))) Post) : Ev g M pc lv (.int x :: .int (nI k) :: .ref 51 :: st) (hC S) Post := as_MO_bWeight d (vp_in_nI hk (by decide)) (by rw [nI_clamp (by omega)]; exact kk)
theorem ld_MO_bGrade {i : Int32} {x : Int32} (d : decode M.2.1 pc = .ok (.iaload, 1)) (hin : vp_in i 300) (h : S.2.1 32 i.toNatClampNeg = x) (kk : Ev g M (pc + 1) lv (.int x :: st) (hC S) Post) : Ev g M pc lv (.int i :: .ref 52 :: st) (hC S) Post := by subst h; exact ev_iald d rfl hin kk
theorem ldN_MO_bGrade {k : Nat} {x : Int32} (d : decode M.2.1 pc = .ok (.iaload, 1)) (hk : k < 300) (h : S.2.1 32 k = x) (kk : Ev g M (pc + 1) lv (.int x :: st) (hC S) Post) : Ev g M pc lv (.int (nI k) :: .ref 52 :: st) (hC S) Post := ld_MO_bGrade d (vp_in_nI hk (by decide)) (by rw [nI_clamp (by omega)]; exact h) kk
theorem as_MO_bGrade {i : Int32} {x : Int32} (d : decode M.2.1 pc = .ok (.iastore, 1)) (hin : vp_in i 300) (kk : Ev g M (pc + 1) lv st (hC (setA S 32 (upd (S.2.1 32) i.toNatClampNeg x))) Post) : Ev g M pc lv (.int x :: .int i :: .ref 52 :: st) (hC S) Post := ev_iast d rfl hin rfl kk
theorem asN_MO_bGrade {k : Nat} {x : Int32} (d : decode M.2.1 pc = .ok (.iastore, 1)) (hk : k < 300) (kk : Ev g M (pc + 1) lv st (hC (setA S 32 (upd (S.2.1 32) k x))) Post) : Ev g M pc lv (.int x :: .int (nI k) :: .ref 52 :: st) (hC S) Post := as_MO_bGrade d (vp_in_nI hk (by decide)) (by rw [nI_clamp (by omega)]; exact kk)
theorem ld_MO_bKnown {i : Int32} {x : Int32} (d : decode M.2.1 pc = .ok (.iaload, 1)) (hin : vp_in i 300) (h : S.2.1 33 i.toNatClampNeg = x) (kk : Ev g M (pc + 1) lv (.int x :: st) (hC S) Post) : Ev g M pc lv (.int i :: .ref 53 :: st) (hC S) Post := by subst h; exact ev_iald d rfl hin kk
theorem ldN_MO_bKnown {k : Nat} {x : Int32} (d : decode M.2.1 pc = .ok (.iaload, 1)) (hk : k < 300) (h : S.2.1 33 k = x) (kk : Ev g M (pc + 1) lv (.int x :: st) (hC S) Post) : Ev g M pc lv (.int (nI k) :: .ref 53 :: st) (hC S) Post := ld_MO_bKnown d (vp_in_nI hk (by decide)) (by rw [nI_clamp (by omega)]; exact h) kk
theorem as_MO_bKnown {i : Int32} {x : Int32} (d : decode M.2.1 pc = .ok (.iastore, 1)) (hin : vp_in i 300) (kk : Ev g M (pc + 1) lv st (hC (setA S 33 (upd (S.2.1 33) i.toNatClampNeg x))) Post) : Ev g M pc lv (.int x :: .int i :: .ref 53 :: st) (hC S) Post := ev_iast d rfl hin rfl kk
theorem asN_MO_bKnown {k : Nat} {x : Int32} (d : decode M.2.1 pc = .ok (.iastore, 1)) (hk : k < 300) (kk : Ev g M (pc + 1) lv st (hC (setA S 33 (upd (S.2.1 33) k x))) Post) : Ev g M pc lv (.int x :: .int (nI k) :: .ref 53 :: st) (hC S) Post := as_MO_bKnown d (vp_in_nI hk (by decide)) (by rw [nI_clamp (by omega)]; exact kk)
theorem ld_MO_prices {i : Int32} {x : Int32} (d : decode M.2.1 pc = .ok (.iaload, 1)) (hin : vp_in i 5) (h : S.2.1 34 i.toNatClampNeg = x) (kk : Ev g M (pc + 1) lv (.int x :: st) (hC S) Post) : Ev g M pc lv (.int i :: .ref 54 :: st) (hC S) Post := by subst h; exact ev_iald d rfl hin kk
theorem ldN_MO_prices {k : Nat} {x : Int32} (d : decode M.2.1 pc = .ok (.iaload, 1)) (hk : k < 5) (h : S.2.1 34 k = x) (kk : Ev g M (pc + 1) lv (.int x :: st) (hC S) Post) : Ev g M pc lv (.int (nI k) :: .ref 54 :: st) (hC S) Post := ld_MO_prices d (vp_in_nI hk (by decide)) (by rw [nI_clamp (by omega)]; exact h) kk
theorem as_MO_prices {i : Int32} {x : Int32} (d : decode M.2.1 pc = .ok (.iastore, 1)) (hin : vp_in i 5) (kk : Ev g M (pc + 1) lv st (hC (setA S 34 (upd (S.2.1 34) i.toNatClampNeg x))) Post) : Ev g M pc lv (.int x :: .int i :: .ref 54 :: st) (hC S) Post := ev_iast d rfl hin rfl kk
theorem asN_MO_prices {k : Nat} {x : Int32} (d : decode M.2.1 pc = .ok (.iastore, 1)) (hk : k < 5) (kk : Ev g M (pc + 1) lv st (hC (setA S 34 (upd (S.2.1 34) k x))) Post) : Ev g M pc lv (.int x :: .int (nI k) :: .ref 54 :: st) (hC S) Post := as_MO_prices d (vp_in_nI hk (by decide)) (by rw [nI_clamp (by omega)]; exact kk)
theorem ld_MO_partA {i : Int32} {x : Int32} (d : decode M.2.1 pc = .ok (.iaload, 1)) (hin : vp_in i 4) (h : S.2.1 35 i.toNatClampNeg = x) (kk : Ev g M (pc + 1) lv (.int x :: st) (hC S) Post) : Ev g M pc lv (.int i :: .ref 55 :: st) (hC S) Post := by subst h; exact ev_iald d rfl hin kk
theorem ldN_MO_partA {k : Nat} {x : Int32} (d : decode M.2.1 pc = .ok (.iaload, 1)) (hk : k < 4) (h : S.2.1 35 k = x) (kk : Ev g M (pc + 1) lv (.int x :: st) (hC S) Post) : Ev g M pc lv (.int (nI k) :: .ref 55 :: st) (hC S) Post := ld_MO_partA d (vp_in_nI hk (by decide)) (by rw [nI_clamp (by omega)]; exact h) kk
theorem as_MO_partA {i : Int32} {x : Int32} (d : decode M.2.1 pc = .ok (.iastore, 1)) (hin : vp_in i 4) (kk : Ev g M (pc + 1) lv st (hC (setA S 35 (upd (S.2.1 35) i.toNatClampNeg x))) Post) : Ev g M pc lv (.int x :: .int i :: .ref 55 :: st) (hC S) Post := ev_iast d rfl hin rfl kk
theorem asN_MO_partA {k : Nat} {x : Int32} (d : decode M.2.1 pc = .ok (.iastore, 1)) (hk : k < 4) (kk : Ev g M (pc + 1) lv st (hC (setA S 35 (upd (S.2.1 35) k x))) Post) : Ev g M pc lv (.int x :: .int (nI k) :: .ref 55 :: st) (hC S) Post := as_MO_partA d (vp_in_nI hk (by decide)) (by rw [nI_clamp (by omega)]; exact kk)
theorem ld_MO_partB {i : Int32} {x : Int32} (d : decode M.2.1 pc = .ok (.iaload, 1)) (hin : vp_in i 4) (h : S.2.1 36 i.toNatClampNeg = x) (kk : Ev g M (pc + 1) lv (.int x :: st) (hC S) Post) : Ev g M pc lv (.int i :: .ref 56 :: st) (hC S) Post := by subst h; exact ev_iald d rfl hin kk
theorem ldN_MO_partB {k : Nat} {x : Int32} (d : decode M.2.1 pc = .ok (.iaload, 1)) (hk : k < 4) (h : S.2.1 36 k = x) (kk : Ev g M (pc + 1) lv (.int x :: st) (hC S) Post) : Ev g M pc lv (.int (nI k) :: .ref 56 :: st) (hC S) Post := ld_MO_partB d (vp_in_nI hk (by decide)) (by rw [nI_clamp (by omega)]; exact h) kk
theorem as_MO_partB {i : Int32} {x : Int32} (d : decode M.2.1 pc = .ok (.iastore, 1)) (hin : vp_in i 4) (kk : Ev g M (pc + 1) lv st (hC (setA S 36 (upd (S.2.1 36) i.toNatClampNeg x))) Post) : Ev g M pc lv (.int x :: .int i :: .ref 56 :: st) (hC S) Post := ev_iast d rfl hin rfl kk
theorem asN_MO_partB {k : Nat} {x : Int32} (d : decode M.2.1 pc = .ok (.iastore, 1)) (hk : k < 4) (kk : Ev g M (pc + 1) lv st (hC (setA S 36 (upd (S.2.1 36) k x))) Post) : Ev g M pc lv (.int x :: .int (nI k) :: .ref 56 :: st) (hC S) Post := as_MO_partB d (vp_in_nI hk (by decide)) (by rw [nI_clamp (by omega)]; exact kk)
theorem ld_MO_nPrices {i : Int32} {x : Int32} (d : decode M.2.1 pc = .ok (.iaload, 1)) (hin : vp_in i 5) (h : S.2.1 37 i.toNatClampNeg = x) (kk : Ev g M (pc + 1) lv (.int x :: st) (hC S) Post) : Ev g M pc lv (.int i :: .ref 57 :: st) (hC S) Post := by subst h; exact ev_iald d rfl hin kk
theorem ldN_MO_nPrices {k : Nat} {x : Int32} (d : decode M.2.1 pc = .ok (.iaload, 1)) (hk : k < 5) (h : S.2.1 37 k = x) (kk : Ev g M (pc + 1) lv (.int x :: st) (hC S) Post) : Ev g M pc lv (.int (nI k) :: .ref 57 :: st) (hC S) Post := ld_MO_nPrices d (vp_in_nI hk (by decide)) (by rw [nI_clamp (by omega)]; exact h) kk
theorem as_MO_nPrices {i : Int32} {x : Int32} (d : decode M.2.1 pc = .ok (.iastore, 1)) (hin : vp_in i 5) (kk : Ev g M (pc + 1) lv st (hC (setA S 37 (upd (S.2.1 37) i.toNatClampNeg x))) Post) : Ev g M pc lv (.int x :: .int i :: .ref 57 :: st) (hC S) Post := ev_iast d rfl hin rfl kk
theorem asN_MO_nPrices {k : Nat} {x : Int32} (d : decode M.2.1 pc = .ok (.iastore, 1)) (hk : k < 5) (kk : Ev g M (pc + 1) lv st (hC (setA S 37 (upd (S.2.1 37) k x))) Post) : Ev g M pc lv (.int x :: .int (nI k) :: .ref 57 :: st) (hC S) Post := as_MO_nPrices d (vp_in_nI hk (by decide)) (by rw [nI_clamp (by omega)]; exact kk)
theorem ld_MO_nA {i : Int32} {x : Int32} (d : decode M.2.1 pc = .ok (.iaload, 1)) (hin : vp_in i 4) (h : S.2.1 38 i.toNatClampNeg = x) (kk : Ev g M (pc + 1) lv (.int x :: st) (hC S) Post) : Ev g M pc lv (.int i :: .ref 58 :: st) (hC S) Post := by subst h; exact ev_iald d rfl hin kk
theorem ldN_MO_nA {k : Nat} {x : Int32} (d : decode M.2.1 pc = .ok (.iaload, 1)) (hk : k < 4) (h : S.2.1 38 k = x) (kk : Ev g M (pc + 1) lv (.int x :: st) (hC S) Post) : Ev g M pc lv (.int (nI k) :: .ref 58 :: st) (hC S) Post := ld_MO_nA d (vp_in_nI hk (by decide)) (by rw [nI_clamp (by omega)]; exact h) kk
theorem as_MO_nA {i : Int32} {x : Int32} (d : decode M.2.1 pc = .ok (.iastore, 1)) (hin : vp_in i 4) (kk : Ev g M (pc + 1) lv st (hC (setA S 38 (upd (S.2.1 38) i.toNatClampNeg x))) Post) : Ev g M pc lv (.int x :: .int i :: .ref 58 :: st) (hC S) Post := ev_iast d rfl hin rfl kk
theorem asN_MO_nA {k : Nat} {x : Int32} (d : decode M.2.1 pc = .ok (.iastore, 1)) (hk : k < 4) (kk : Ev g M (pc + 1) lv st (hC (setA S 38 (upd (S.2.1 38) k x))) Post) : Ev g M pc lv (.int x :: .int (nI k) :: .ref 58 :: st) (hC S) Post := as_MO_nA d (vp_in_nI hk (by decide)) (by rw [nI_clamp (by omega)]; exact kk)
theorem ld_MO_nB {i : Int32} {x : Int32} (d : decode M.2.1 pc = .ok (.iaload, 1)) (hin : vp_in i 4) (h : S.2.1 39 i.toNatClampNeg = x) (kk : Ev g M (pc + 1) lv (.int x :: st) (hC S) Post) : Ev g M pc lv (.int i :: .ref 59 :: st) (hC S) Post := by subst h; exact ev_iald d rfl hin kk
theorem ldN_MO_nB {k : Nat} {x : Int32} (d : decode M.2.1 pc = .ok (.iaload, 1)) (hk : k < 4) (h : S.2.1 39 k = x) (kk : Ev g M (pc + 1) lv (.int x :: st) (hC S) Post) : Ev g M pc lv (.int (nI k) :: .ref 59 :: st) (hC S) Post := ld_MO_nB d (vp_in_nI hk (by decide)) (by rw [nI_clamp (by omega)]; exact h) kk
theorem as_MO_nB {i : Int32} {x : Int32} (d : decode M.2.1 pc = .ok (.iastore, 1)) (hin : vp_in i 4) (kk : Ev g M (pc + 1) lv st (hC (setA S 39 (upd (S.2.1 39) i.toNatClampNeg x))) Post) : Ev g M pc lv (.int x :: .int i :: .ref 59 :: st) (hC S) Post := ev_iast d rfl hin rfl kk
theorem asN_MO_nB {k : Nat} {x : Int32} (d : decode M.2.1 pc = .ok (.iastore, 1)) (hk : k < 4) (kk : Ev g M (pc + 1) lv st (hC (setA S 39 (upd (S.2.1 39) k x))) Post) : Ev g M pc lv (.int x :: .int (nI k) :: .ref 59 :: st) (hC S) Post := as_MO_nB d (vp_in_nI hk (by decide)) (by rw [nI_clamp (by omega)]; exact kk)
theorem ld_MO_tape {i : Int32} {x : Int32} (d : decode M.2.1 pc = .ok (.iaload, 1)) (hin : vp_in i 200) (h : S.2.1 40 i.toNatClampNeg = x) (kk : Ev g M (pc + 1) lv (.int x :: st) (hC S) Post) : Ev g M pc lv (.int i :: .ref 60 :: st) (hC S) Post := by subst h; exact ev_iald d rfl hin kk
theorem ldN_MO_tape {k : Nat} {x : Int32} (d : decode M.2.1 pc = .ok (.iaload, 1)) (hk : k < 200) (h : S.2.1 40 k = x) (kk : Ev g M (pc + 1) lv (.int x :: st) (hC S) Post) : Ev g M pc lv (.int (nI k) :: .ref 60 :: st) (hC S) Post := ld_MO_tape d (vp_in_nI hk (by decide)) (by rw [nI_clamp (by omega)]; exact h) kk
theorem as_MO_tape {i : Int32} {x : Int32} (d : decode M.2.1 pc = .ok (.iastore, 1)) (hin : vp_in i 200) (kk : Ev g M (pc + 1) lv st (hC (setA S 40 (upd (S.2.1 40) i.toNatClampNeg x))) Post) : Ev g M pc lv (.int x :: .int i :: .ref 60 :: st) (hC S) Post := ev_iast d rfl hin rfl kk
theorem asN_MO_tape {k : Nat} {x : Int32} (d : decode M.2.1 pc = .ok (.iastore, 1)) (hk : k < 200) (kk : Ev g M (pc + 1) lv st (hC (setA S 40 (upd (S.2.1 40) k x))) Post) : Ev g M pc lv (.int x :: .int (nI k) :: .ref 60 :: st) (hC S) Post := as_MO_tape d (vp_in_nI hk (by decide)) (by rw [nI_clamp (by omega)]; exact kk)
theorem ld_MO_weights {i : Int32} {x : Int64} (d : decode M.2.1 pc = .ok (.laload, 1)) (hin : vp_in i 40) (h : S.2.2.2.1 8 i.toNatClampNeg = x) (kk : Ev g M (pc + 1) lv (.long x :: st) (hC S) Post) : Ev g M pc lv (.int i :: .ref 61 :: st) (hC S) Post := by subst h; exact ev_lald d rfl hin kk
theorem ldN_MO_weights {k : Nat} {x : Int64} (d : decode M.2.1 pc = .ok (.laload, 1)) (hk : k < 40) (h : S.2.2.2.1 8 k = x) (kk : Ev g M (pc + 1) lv (.long x :: st) (hC S) Post) : Ev g M pc lv (.int (nI k) :: .ref 61 :: st) (hC S) Post := ld_MO_weights d (vp_in_nI hk (by decide)) (by rw [nI_clamp (by omega)]; exact h) kk
theorem as_MO_weights {i : Int32} {x : Int64} (d : decode M.2.1 pc = .ok (.lastore, 1)) (hin : vp_in i 40) (kk : Ev g M (pc + 1) lv st (hC (setB S 8 (vp_updL (S.2.2.2.1 8) i.toNatClampNeg x))) Post) : Ev g M pc lv (.long x :: .int i :: .ref 61 :: st) (hC S) Post := ev_last d rfl hin rfl kk
theorem asN_MO_weights {k : Nat} {x : Int64} (d : decode M.2.1 pc = .ok (.lastore, 1)) (hk : k < 40) (kk : Ev g M (pc + 1) lv st (hC (setB S 8 (vp_updL (S.2.2.2.1 8) k x))) Post) : Ev g M pc lv (.long x :: .int (nI k) :: .ref 61 :: st) (hC S) Post := as_MO_weights d (vp_in_nI hk (by decide)) (by rw [nI_clamp (by omega)]; exact kk)
theorem ld_MO_owes {i : Int32} {x : Int64} (d : decode M.2.1 pc = .ok (.laload, 1)) (hin : vp_in i 40) (h : S.2.2.2.1 9 i.toNatClampNeg = x) (kk : Ev g M (pc + 1) lv (.long x :: st) (hC S) Post) : Ev g M pc lv (.int i :: .ref 62 :: st) (hC S) Post := by subst h; exact ev_lald d rfl hin kk
theorem ldN_MO_owes {k : Nat} {x : Int64} (d : decode M.2.1 pc = .ok (.laload, 1)) (hk : k < 40) (h : S.2.2.2.1 9 k = x) (kk : Ev g M (pc + 1) lv (.long x :: st) (hC S) Post) : Ev g M pc lv (.int (nI k) :: .ref 62 :: st) (hC S) Post := ld_MO_owes d (vp_in_nI hk (by decide)) (by rw [nI_clamp (by omega)]; exact h) kk
theorem as_MO_owes {i : Int32} {x : Int64} (d : decode M.2.1 pc = .ok (.lastore, 1)) (hin : vp_in i 40) (kk : Ev g M (pc + 1) lv st (hC (setB S 9 (vp_updL (S.2.2.2.1 9) i.toNatClampNeg x))) Post) : Ev g M pc lv (.long x :: .int i :: .ref 62 :: st) (hC S) Post := ev_last d rfl hin rfl kk
theorem asN_MO_owes {k : Nat} {x : Int64} (d : decode M.2.1 pc = .ok (.lastore, 1)) (hk : k < 40) (kk : Ev g M (pc + 1) lv st (hC (setB S 9 (vp_updL (S.2.2.2.1 9) k x))) Post) : Ev g M pc lv (.long x :: .int (nI k) :: .ref 62 :: st) (hC S) Post := as_MO_owes d (vp_in_nI hk (by decide)) (by rw [nI_clamp (by omega)]; exact kk)
theorem ld_MO_checks {i : Int32} {x : Int64} (d : decode M.2.1 pc = .ok (.laload, 1)) (hin : vp_in i 40) (h : S.2.2.2.1 10 i.toNatClampNeg = x) (kk : Ev g M (pc + 1) lv (.long x :: st) (hC S) Post) : Ev g M pc lv (.int i :: .ref 63 :: st) (hC S) Post := by subst h; exact ev_lald d rfl hin kk
theorem ldN_MO_checks {k : Nat} {x : Int64} (d : decode M.2.1 pc = .ok (.laload, 1)) (hk : k < 40) (h : S.2.2.2.1 10 k = x) (kk : Ev g M (pc + 1) lv (.long x :: st) (hC S) Post) : Ev g M pc lv (.int (nI k) :: .ref 63 :: st) (hC S) Post := ld_MO_checks d (vp_in_nI hk (by decide)) (by rw [nI_clamp (by omega)]; exact h) kk
theorem as_MO_checks {i : Int32} {x : Int64} (d : decode M.2.1 pc = .ok (.lastore, 1)) (hin : vp_in i 40) (kk : Ev g M (pc + 1) lv st (hC (setB S 10 (vp_updL (S.2.2.2.1 10) i.toNatClampNeg x))) Post) : Ev g M pc lv (.long x :: .int i :: .ref 63 :: st) (hC S) Post := ev_last d rfl hin rfl kk
theorem asN_MO_checks {k : Nat} {x : Int64} (d : decode M.2.1 pc = .ok (.lastore, 1)) (hk : k < 40) (kk : Ev g M (pc + 1) lv st (hC (setB S 10 (vp_updL (S.2.2.2.1 10) k x))) Post) : Ev g M pc lv (.long x :: .int (nI k) :: .ref 63 :: st) (hC S) Post := as_MO_checks d (vp_in_nI hk (by decide)) (by rw [nI_clamp (by omega)]; exact kk)
theorem ld_MO_offs {i : Int32} {x : Int64} (d : decode M.2.1 pc = .ok (.laload, 1)) (hin : vp_in i 40) (h : S.2.2.2.1 11 i.toNatClampNeg = x) (kk : Ev g M (pc + 1) lv (.long x :: st) (hC S) Post) : Ev g M pc lv (.int i :: .ref 64 :: st) (hC S) Post := by subst h; exact ev_lald d rfl hin kk
theorem ldN_MO_offs {k : Nat} {x : Int64} (d : decode M.2.1 pc = .ok (.laload, 1)) (hk : k < 40) (h : S.2.2.2.1 11 k = x) (kk : Ev g M (pc + 1) lv (.long x :: st) (hC S) Post) : Ev g M pc lv (.int (nI k) :: .ref 64 :: st) (hC S) Post := ld_MO_offs d (vp_in_nI hk (by decide)) (by rw [nI_clamp (by omega)]; exact h) kk
theorem as_MO_offs {i : Int32} {x : Int64} (d : decode M.2.1 pc = .ok (.lastore, 1)) (hin : vp_in i 40) (kk : Ev g M (pc + 1) lv st (hC (setB S 11 (vp_updL (S.2.2.2.1 11) i.toNatClampNeg x))) Post) : Ev g M pc lv (.long x :: .int i :: .ref 64 :: st) (hC S) Post := ev_last d rfl hin rfl kk
theorem asN_MO_offs {k : Nat} {x : Int64} (d : decode M.2.1 pc = .ok (.lastore, 1)) (hk : k < 40) (kk : Ev g M (pc + 1) lv st (hC (setB S 11 (vp_updL (S.2.2.2.1 11) k x))) Post) : Ev g M pc lv (.long x :: .int (nI k) :: .ref 64 :: st) (hC S) Post := as_MO_offs d (vp_in_nI hk (by decide)) (by rw [nI_clamp (by omega)]; exact kk)
theorem ld_MO_rests {i : Int32} {x : Int64} (d : decode M.2.1 pc = .ok (.laload, 1)) (hin : vp_in i 40) (h : S.2.2.2.1 12 i.toNatClampNeg = x) (kk : Ev g M (pc + 1) lv (.long x :: st) (hC S) Post) : Ev g M pc lv (.int i :: .ref 65 :: st) (hC S) Post := by subst h; exact ev_lald d rfl hin kk
theorem ldN_MO_rests {k : Nat} {x : Int64} (d : decode M.2.1 pc = .ok (.laload, 1)) (hk : k < 40) (h : S.2.2.2.1 12 k = x) (kk : Ev g M (pc + 1) lv (.long x :: st) (hC S) Post) : Ev g M pc lv (.int (nI k) :: .ref 65 :: st) (hC S) Post := ld_MO_rests d (vp_in_nI hk (by decide)) (by rw [nI_clamp (by omega)]; exact h) kk
theorem as_MO_rests {i : Int32} {x : Int64} (d : decode M.2.1 pc = .ok (.lastore, 1)) (hin : vp_in i 40) (kk : Ev g M (pc + 1) lv st (hC (setB S 12 (vp_updL (S.2.2.2.1 12) i.toNatClampNeg x))) Post) : Ev g M pc lv (.long x :: .int i :: .ref 65 :: st) (hC S) Post := ev_last d rfl hin rfl kk
theorem asN_MO_rests {k : Nat} {x : Int64} (d : decode M.2.1 pc = .ok (.lastore, 1)) (hk : k < 40) (kk : Ev g M (pc + 1) lv st (hC (setB S 12 (vp_updL (S.2.2.2.1 12) k x))) Post) : Ev g M pc lv (.long x :: .int (nI k) :: .ref 65 :: st) (hC S) Post := as_MO_rests d (vp_in_nI hk (by decide)) (by rw [nI_clamp (by omega)]; exact kk)
theorem ld_MO_quotas {i : Int32} {x : Int64} (d : decode M.2.1 pc = .ok (.laload, 1)) (hin : vp_in i 40) (h : S.2.2.2.1 13 i.toNatClampNeg = x) (kk : Ev g M (pc + 1) lv (.long x :: st) (hC S) Post) : Ev g M pc lv (.int i :: .ref 66 :: st) (hC S) Post := by subst h; exact ev_lald d rfl hin kk
theorem ldN_MO_quotas {k : Nat} {x : Int64} (d : decode M.2.1 pc = .ok (.laload, 1)) (hk : k < 40) (h : S.2.2.2.1 13 k = x) (kk : Ev g M (pc + 1) lv (.long x :: st) (hC S) Post) : Ev g M pc lv (.int (nI k) :: .ref 66 :: st) (hC S) Post := ld_MO_quotas d (vp_in_nI hk (by decide)) (by rw [nI_clamp (by omega)]; exact h) kk
theorem as_MO_quotas {i : Int32} {x : Int64} (d : decode M.2.1 pc = .ok (.lastore, 1)) (hin : vp_in i 40) (kk : Ev g M (pc + 1) lv st (hC (setB S 13 (vp_updL (S.2.2.2.1 13) i.toNatClampNeg x))) Post) : Ev g M pc lv (.long x :: .int i :: .ref 66 :: st) (hC S) Post := ev_last d rfl hin rfl kk
theorem asN_MO_quotas {k : Nat} {x : Int64} (d : decode M.2.1 pc = .ok (.lastore, 1)) (hk : k < 40) (kk : Ev g M (pc + 1) lv st (hC (setB S 13 (vp_updL (S.2.2.2.1 13) k x))) Post) : Ev g M pc lv (.long x :: .int (nI k) :: .ref 66 :: st) (hC S) Post := as_MO_quotas d (vp_in_nI hk (by decide)) (by rw [nI_clamp (by omega)]; exact kk)
theorem ld_MO_can {i : Int32} {x : Int64} (d : decode M.2.1 pc = .ok (.laload, 1)) (hin : vp_in i 40) (h : S.2.2.2.1 14 i.toNatClampNeg = x) (kk : Ev g M (pc + 1) lv (.long x :: st) (hC S) Post) : Ev g M pc lv (.int i :: .ref 67 :: st) (hC S) Post := by subst h; exact ev_lald d rfl hin kk
theorem ldN_MO_can {k : Nat} {x : Int64} (d : decode M.2.1 pc = .ok (.laload, 1)) (hk : k < 40) (h : S.2.2.2.1 14 k = x) (kk : Ev g M (pc + 1) lv (.long x :: st) (hC S) Post) : Ev g M pc lv (.int (nI k) :: .ref 67 :: st) (hC S) Post := ld_MO_can d (vp_in_nI hk (by decide)) (by rw [nI_clamp (by omega)]; exact h) kk
theorem as_MO_can {i : Int32} {x : Int64} (d : decode M.2.1 pc = .ok (.lastore, 1)) (hin : vp_in i 40) (kk : Ev g M (pc + 1) lv st (hC (setB S 14 (vp_updL (S.2.2.2.1 14) i.toNatClampNeg x))) Post) : Ev g M pc lv (.long x :: .int i :: .ref 67 :: st) (hC S) Post := ev_last d rfl hin rfl kk
theorem asN_MO_can {k : Nat} {x : Int64} (d : decode M.2.1 pc = .ok (.lastore, 1)) (hk : k < 40) (kk : Ev g M (pc + 1) lv st (hC (setB S 14 (vp_updL (S.2.2.2.1 14) k x))) Post) : Ev g M pc lv (.long x :: .int (nI k) :: .ref 67 :: st) (hC S) Post := as_MO_can d (vp_in_nI hk (by decide)) (by rw [nI_clamp (by omega)]; exact kk)
theorem ld_MO_given {i : Int32} {x : Int64} (d : decode M.2.1 pc = .ok (.laload, 1)) (hin : vp_in i 40) (h : S.2.2.2.1 15 i.toNatClampNeg = x) (kk : Ev g M (pc + 1) lv (.long x :: st) (hC S) Post) : Ev g M pc lv (.int i :: .ref 68 :: st) (hC S) Post := by subst h; exact ev_lald d rfl hin kk
theorem ldN_MO_given {k : Nat} {x : Int64} (d : decode M.2.1 pc = .ok (.laload, 1)) (hk : k < 40) (h : S.2.2.2.1 15 k = x) (kk : Ev g M (pc + 1) lv (.long x :: st) (hC S) Post) : Ev g M pc lv (.int (nI k) :: .ref 68 :: st) (hC S) Post := ld_MO_given d (vp_in_nI hk (by decide)) (by rw [nI_clamp (by omega)]; exact h) kk
theorem as_MO_given {i : Int32} {x : Int64} (d : decode M.2.1 pc = .ok (.lastore, 1)) (hin : vp_in i 40) (kk : Ev g M (pc + 1) lv st (hC (setB S 15 (vp_updL (S.2.2.2.1 15) i.toNatClampNeg x))) Post) : Ev g M pc lv (.long x :: .int i :: .ref 68 :: st) (hC S) Post := ev_last d rfl hin rfl kk
theorem asN_MO_given {k : Nat} {x : Int64} (d : decode M.2.1 pc = .ok (.lastore, 1)) (hk : k < 40) (kk : Ev g M (pc + 1) lv st (hC (setB S 15 (vp_updL (S.2.2.2.1 15) k x))) Post) : Ev g M pc lv (.long x :: .int (nI k) :: .ref 68 :: st) (hC S) Post := as_MO_given d (vp_in_nI hk (by decide)) (by rw [nI_clamp (by omega)]; exact kk)
theorem ld_MO_left {i : Int32} {x : Int64} (d : decode M.2.1 pc = .ok (.laload, 1)) (hin : vp_in i 40) (h : S.2.2.2.1 16 i.toNatClampNeg = x) (kk : Ev g M (pc + 1) lv (.long x :: st) (hC S) Post) : Ev g M pc lv (.int i :: .ref 69 :: st) (hC S) Post := by subst h; exact ev_lald d rfl hin kk
theorem ldN_MO_left {k : Nat} {x : Int64} (d : decode M.2.1 pc = .ok (.laload, 1)) (hk : k < 40) (h : S.2.2.2.1 16 k = x) (kk : Ev g M (pc + 1) lv (.long x :: st) (hC S) Post) : Ev g M pc lv (.int (nI k) :: .ref 69 :: st) (hC S) Post := ld_MO_left d (vp_in_nI hk (by decide)) (by rw [nI_clamp (by omega)]; exact h) kk
theorem as_MO_left {i : Int32} {x : Int64} (d : decode M.2.1 pc = .ok (.lastore, 1)) (hin : vp_in i 40) (kk : Ev g M (pc + 1) lv st (hC (setB S 16 (vp_updL (S.2.2.2.1 16) i.toNatClampNeg x))) Post) : Ev g M pc lv (.long x :: .int i :: .ref 69 :: st) (hC S) Post := ev_last d rfl hin rfl kk
theorem asN_MO_left {k : Nat} {x : Int64} (d : decode M.2.1 pc = .ok (.lastore, 1)) (hk : k < 40) (kk : Ev g M (pc + 1) lv st (hC (setB S 16 (vp_updL (S.2.2.2.1 16) k x))) Post) : Ev g M pc lv (.long x :: .int (nI k) :: .ref 69 :: st) (hC S) Post := as_MO_left d (vp_in_nI hk (by decide)) (by rw [nI_clamp (by omega)]; exact kk)
theorem ld_MO_dFrom {i : Int32} {x : Int32} (d : decode M.2.1 pc = .ok (.iaload, 1)) (hin : vp_in i 60) (h : S.2.1 41 i.toNatClampNeg = x) (kk : Ev g M (pc + 1) lv (.int x :: st) (hC S) Post) : Ev g M pc lv (.int i :: .ref 70 :: st) (hC S) Post := by subst h; exact ev_iald d rfl hin kk
theorem ldN_MO_dFrom {k : Nat} {x : Int32} (d : decode M.2.1 pc = .ok (.iaload, 1)) (hk : k < 60) (h : S.2.1 41 k = x) (kk : Ev g M (pc + 1) lv (.int x :: st) (hC S) Post) : Ev g M pc lv (.int (nI k) :: .ref 70 :: st) (hC S) Post := ld_MO_dFrom d (vp_in_nI hk (by decide)) (by rw [nI_clamp (by omega)]; exact h) kk
theorem as_MO_dFrom {i : Int32} {x : Int32} (d : decode M.2.1 pc = .ok (.iastore, 1)) (hin : vp_in i 60) (kk : Ev g M (pc + 1) lv st (hC (setA S 41 (upd (S.2.1 41) i.toNatClampNeg x))) Post) : Ev g M pc lv (.int x :: .int i :: .ref 70 :: st) (hC S) Post := ev_iast d rfl hin rfl kk
theorem asN_MO_dFrom {k : Nat} {x : Int32} (d : decode M.2.1 pc = .ok (.iastore, 1)) (hk : k < 60) (kk : Ev g M (pc + 1) lv st (hC (setA S 41 (upd (S.2.1 41) k x))) Post) : Ev g M pc lv (.int x :: .int (nI k) :: .ref 70 :: st) (hC S) Post := as_MO_dFrom d (vp_in_nI hk (by decide)) (by rw [nI_clamp (by omega)]; exact kk)
theorem ld_MO_dTo {i : Int32} {x : Int32} (d : decode M.2.1 pc = .ok (.iaload, 1)) (hin : vp_in i 60) (h : S.2.1 42 i.toNatClampNeg = x) (kk : Ev g M (pc + 1) lv (.int x :: st) (hC S) Post) : Ev g M pc lv (.int i :: .ref 71 :: st) (hC S) Post := by subst h; exact ev_iald d rfl hin kk
theorem ldN_MO_dTo {k : Nat} {x : Int32} (d : decode M.2.1 pc = .ok (.iaload, 1)) (hk : k < 60) (h : S.2.1 42 k = x) (kk : Ev g M (pc + 1) lv (.int x :: st) (hC S) Post) : Ev g M pc lv (.int (nI k) :: .ref 71 :: st) (hC S) Post := ld_MO_dTo d (vp_in_nI hk (by decide)) (by rw [nI_clamp (by omega)]; exact h) kk
theorem as_MO_dTo {i : Int32} {x : Int32} (d : decode M.2.1 pc = .ok (.iastore, 1)) (hin : vp_in i 60) (kk : Ev g M (pc + 1) lv st (hC (setA S 42 (upd (S.2.1 42) i.toNatClampNeg x))) Post) : Ev g M pc lv (.int x :: .int i :: .ref 71 :: st) (hC S) Post := ev_iast d rfl hin rfl kk
theorem asN_MO_dTo {k : Nat} {x : Int32} (d : decode M.2.1 pc = .ok (.iastore, 1)) (hk : k < 60) (kk : Ev g M (pc + 1) lv st (hC (setA S 42 (upd (S.2.1 42) k x))) Post) : Ev g M pc lv (.int x :: .int (nI k) :: .ref 71 :: st) (hC S) Post := as_MO_dTo d (vp_in_nI hk (by decide)) (by rw [nI_clamp (by omega)]; exact kk)
theorem ld_MO_dPart {i : Int32} {x : Int32} (d : decode M.2.1 pc = .ok (.iaload, 1)) (hin : vp_in i 60) (h : S.2.1 43 i.toNatClampNeg = x) (kk : Ev g M (pc + 1) lv (.int x :: st) (hC S) Post) : Ev g M pc lv (.int i :: .ref 72 :: st) (hC S) Post := by subst h; exact ev_iald d rfl hin kk
theorem ldN_MO_dPart {k : Nat} {x : Int32} (d : decode M.2.1 pc = .ok (.iaload, 1)) (hk : k < 60) (h : S.2.1 43 k = x) (kk : Ev g M (pc + 1) lv (.int x :: st) (hC S) Post) : Ev g M pc lv (.int (nI k) :: .ref 72 :: st) (hC S) Post := ld_MO_dPart d (vp_in_nI hk (by decide)) (by rw [nI_clamp (by omega)]; exact h) kk
theorem as_MO_dPart {i : Int32} {x : Int32} (d : decode M.2.1 pc = .ok (.iastore, 1)) (hin : vp_in i 60) (kk : Ev g M (pc + 1) lv st (hC (setA S 43 (upd (S.2.1 43) i.toNatClampNeg x))) Post) : Ev g M pc lv (.int x :: .int i :: .ref 72 :: st) (hC S) Post := ev_iast d rfl hin rfl kk
theorem asN_MO_dPart {k : Nat} {x : Int32} (d : decode M.2.1 pc = .ok (.iastore, 1)) (hk : k < 60) (kk : Ev g M (pc + 1) lv st (hC (setA S 43 (upd (S.2.1 43) k x))) Post) : Ev g M pc lv (.int x :: .int (nI k) :: .ref 72 :: st) (hC S) Post := as_MO_dPart d (vp_in_nI hk (by decide)) (by rw [nI_clamp (by omega)]; exact kk)
theorem ld_MO_vFarmer {i : Int32} {x : Int32} (d : decode M.2.1 pc = .ok (.iaload, 1)) (hin : vp_in i 16) (h : S.2.1 44 i.toNatClampNeg = x) (kk : Ev g M (pc + 1) lv (.int x :: st) (hC S) Post) : Ev g M pc lv (.int i :: .ref 73 :: st) (hC S) Post := by subst h; exact ev_iald d rfl hin kk
theorem ldN_MO_vFarmer {k : Nat} {x : Int32} (d : decode M.2.1 pc = .ok (.iaload, 1)) (hk : k < 16) (h : S.2.1 44 k = x) (kk : Ev g M (pc + 1) lv (.int x :: st) (hC S) Post) : Ev g M pc lv (.int (nI k) :: .ref 73 :: st) (hC S) Post := ld_MO_vFarmer d (vp_in_nI hk (by decide)) (by rw [nI_clamp (by omega)]; exact h) kk
theorem as_MO_vFarmer {i : Int32} {x : Int32} (d : decode M.2.1 pc = .ok (.iastore, 1)) (hin : vp_in i 16) (kk : Ev g M (pc + 1) lv st (hC (setA S 44 (upd (S.2.1 44) i.toNatClampNeg x))) Post) : Ev g M pc lv (.int x :: .int i :: .ref 73 :: st) (hC S) Post := ev_iast d rfl hin rfl kk
theorem asN_MO_vFarmer {k : Nat} {x : Int32} (d : decode M.2.1 pc = .ok (.iastore, 1)) (hk : k < 16) (kk : Ev g M (pc + 1) lv st (hC (setA S 44 (upd (S.2.1 44) k x))) Post) : Ev g M pc lv (.int x :: .int (nI k) :: .ref 73 :: st) (hC S) Post := as_MO_vFarmer d (vp_in_nI hk (by decide)) (by rw [nI_clamp (by omega)]; exact kk)
theorem ld_MO_vHour {i : Int32} {x : Int32} (d : decode M.2.1 pc = .ok (.iaload, 1)) (hin : vp_in i 16) (h : S.2.1 45 i.toNatClampNeg = x) (kk : Ev g M (pc + 1) lv (.int x :: st) (hC S) Post) : Ev g M pc lv (.int i :: .ref 74 :: st) (hC S) Post := by subst h; exact ev_iald d rfl hin kk
theorem ldN_MO_vHour {k : Nat} {x : Int32} (d : decode M.2.1 pc = .ok (.iaload, 1)) (hk : k < 16) (h : S.2.1 45 k = x) (kk : Ev g M (pc + 1) lv (.int x :: st) (hC S) Post) : Ev g M pc lv (.int (nI k) :: .ref 74 :: st) (hC S) Post := ld_MO_vHour d (vp_in_nI hk (by decide)) (by rw [nI_clamp (by omega)]; exact h) kk
theorem as_MO_vHour {i : Int32} {x : Int32} (d : decode M.2.1 pc = .ok (.iastore, 1)) (hin : vp_in i 16) (kk : Ev g M (pc + 1) lv st (hC (setA S 45 (upd (S.2.1 45) i.toNatClampNeg x))) Post) : Ev g M pc lv (.int x :: .int i :: .ref 74 :: st) (hC S) Post := ev_iast d rfl hin rfl kk
theorem asN_MO_vHour {k : Nat} {x : Int32} (d : decode M.2.1 pc = .ok (.iastore, 1)) (hk : k < 16) (kk : Ev g M (pc + 1) lv st (hC (setA S 45 (upd (S.2.1 45) k x))) Post) : Ev g M pc lv (.int x :: .int (nI k) :: .ref 74 :: st) (hC S) Post := as_MO_vHour d (vp_in_nI hk (by decide)) (by rw [nI_clamp (by omega)]; exact kk)
theorem ld_MO_place {i : Int32} {x : Int32} (d : decode M.2.1 pc = .ok (.iaload, 1)) (hin : vp_in i 17) (h : S.2.1 46 i.toNatClampNeg = x) (kk : Ev g M (pc + 1) lv (.int x :: st) (hC S) Post) : Ev g M pc lv (.int i :: .ref 75 :: st) (hC S) Post := by subst h; exact ev_iald d rfl hin kk
theorem ldN_MO_place {k : Nat} {x : Int32} (d : decode M.2.1 pc = .ok (.iaload, 1)) (hk : k < 17) (h : S.2.1 46 k = x) (kk : Ev g M (pc + 1) lv (.int x :: st) (hC S) Post) : Ev g M pc lv (.int (nI k) :: .ref 75 :: st) (hC S) Post := ld_MO_place d (vp_in_nI hk (by decide)) (by rw [nI_clamp (by omega)]; exact h) kk
theorem as_MO_place {i : Int32} {x : Int32} (d : decode M.2.1 pc = .ok (.iastore, 1)) (hin : vp_in i 17) (kk : Ev g M (pc + 1) lv st (hC (setA S 46 (upd (S.2.1 46) i.toNatClampNeg x))) Post) : Ev g M pc lv (.int x :: .int i :: .ref 75 :: st) (hC S) Post := ev_iast d rfl hin rfl kk
theorem asN_MO_place {k : Nat} {x : Int32} (d : decode M.2.1 pc = .ok (.iastore, 1)) (hk : k < 17) (kk : Ev g M (pc + 1) lv st (hC (setA S 46 (upd (S.2.1 46) k x))) Post) : Ev g M pc lv (.int x :: .int (nI k) :: .ref 75 :: st) (hC S) Post := as_MO_place d (vp_in_nI hk (by decide)) (by rw [nI_clamp (by omega)]; exact kk)
theorem ld_MO_early {i : Int32} {x : Int32} (d : decode M.2.1 pc = .ok (.iaload, 1)) (hin : vp_in i 9826) (h : S.2.1 47 i.toNatClampNeg = x) (kk : Ev g M (pc + 1) lv (.int x :: st) (hC S) Post) : Ev g M pc lv (.int i :: .ref 76 :: st) (hC S) Post := by subst h; exact ev_iald d rfl hin kk
theorem ldN_MO_early {k : Nat} {x : Int32} (d : decode M.2.1 pc = .ok (.iaload, 1)) (hk : k < 9826) (h : S.2.1 47 k = x) (kk : Ev g M (pc + 1) lv (.int x :: st) (hC S) Post) : Ev g M pc lv (.int (nI k) :: .ref 76 :: st) (hC S) Post := ld_MO_early d (vp_in_nI hk (by decide)) (by rw [nI_clamp (by omega)]; exact h) kk
theorem as_MO_early {i : Int32} {x : Int32} (d : decode M.2.1 pc = .ok (.iastore, 1)) (hin : vp_in i 9826) (kk : Ev g M (pc + 1) lv st (hC (setA S 47 (upd (S.2.1 47) i.toNatClampNeg x))) Post) : Ev g M pc lv (.int x :: .int i :: .ref 76 :: st) (hC S) Post := ev_iast d rfl hin rfl kk
theorem asN_MO_early {k : Nat} {x : Int32} (d : decode M.2.1 pc = .ok (.iastore, 1)) (hk : k < 9826) (kk : Ev g M (pc + 1) lv st (hC (setA S 47 (upd (S.2.1 47) k x))) Post) : Ev g M pc lv (.int x :: .int (nI k) :: .ref 76 :: st) (hC S) Post := as_MO_early d (vp_in_nI hk (by decide)) (by rw [nI_clamp (by omega)]; exact kk)
end EVL
end
section
theorem Cok_0 : Cok 0 RX0 TX0 6 := ⟨rfl, fun w hw => ts_in ((by decide +kernel : ∀ w ∈ u_ws RX0 TX0 6, w ∈ lw_tbl) w hw) ((by decide +kernel : ∀ w ∈ u_ws RX0 TX0 6, goodWord w = true) w hw), tyX0, tyX0_ok, nmX0⟩
theorem Cok_1 : Cok 1 RX1 TX1 11 := ⟨rfl, fun w hw => ts_in ((by decide +kernel : ∀ w ∈ u_ws RX1 TX1 11, w ∈ lw_tbl) w hw) ((by decide +kernel : ∀ w ∈ u_ws RX1 TX1 11, goodWord w = true) w hw), tyX1, tyX1_ok, nmX1⟩
theorem Cok_2 : Cok 2 RX2 TX2 5 := ⟨rfl, fun w hw => ts_in ((by decide +kernel : ∀ w ∈ u_ws RX2 TX2 5, w ∈ lw_tbl) w hw) ((by decide +kernel : ∀ w ∈ u_ws RX2 TX2 5, goodWord w = true) w hw), tyX2, tyX2_ok, nmX2⟩
theorem Cok_3 : Cok 3 RX3 TX3 4 := ⟨rfl, fun w hw => ts_in ((by decide +kernel : ∀ w ∈ u_ws RX3 TX3 4, w ∈ lw_tbl) w hw) ((by decide +kernel : ∀ w ∈ u_ws RX3 TX3 4, goodWord w = true) w hw), tyX3, tyX3_ok, nmX3⟩
theorem Cok_4 : Cok 4 RX4 TX4 4 := ⟨rfl, fun w hw => ts_in ((by decide +kernel : ∀ w ∈ u_ws RX4 TX4 4, w ∈ lw_tbl) w hw) ((by decide +kernel : ∀ w ∈ u_ws RX4 TX4 4, goodWord w = true) w hw), tyX4, tyX4_ok, nmX4⟩
theorem Cok_5 : Cok 5 RX5 TX5 5 := ⟨rfl, fun w hw => ts_in ((by decide +kernel : ∀ w ∈ u_ws RX5 TX5 5, w ∈ lw_tbl) w hw) ((by decide +kernel : ∀ w ∈ u_ws RX5 TX5 5, goodWord w = true) w hw), tyX5, tyX5_ok, nmX5⟩
theorem Cok_6 : Cok 6 RX6 TX6 8 := ⟨rfl, fun w hw => ts_in ((by decide +kernel : ∀ w ∈ u_ws RX6 TX6 8, w ∈ lw_tbl) w hw) ((by decide +kernel : ∀ w ∈ u_ws RX6 TX6 8, goodWord w = true) w hw), tyX6, tyX6_ok, nmX6⟩
theorem Cok_7 : Cok 7 RX7 TX7 2 := ⟨rfl, fun w hw => ts_in ((by decide +kernel : ∀ w ∈ u_ws RX7 TX7 2, w ∈ lw_tbl) w hw) ((by decide +kernel : ∀ w ∈ u_ws RX7 TX7 2, goodWord w = true) w hw), tyX7, tyX7_ok, nmX7⟩
theorem Cok_8 : Cok 8 RX8 TX8 5 := ⟨rfl, fun w hw => ts_in ((by decide +kernel : ∀ w ∈ u_ws RX8 TX8 5, w ∈ lw_tbl) w hw) ((by decide +kernel : ∀ w ∈ u_ws RX8 TX8 5, goodWord w = true) w hw), tyX8, tyX8_ok, nmX8⟩
theorem Cok_9 : Cok 9 RX9 TX9 12 := ⟨rfl, fun w hw => ts_in ((by decide +kernel : ∀ w ∈ u_ws RX9 TX9 12, w ∈ lw_tbl) w hw) ((by decide +kernel : ∀ w ∈ u_ws RX9 TX9 12, goodWord w = true) w hw), tyX9, tyX9_ok, nmX9⟩
theorem Cok_10 : Cok 10 RX10 TX10 53 := ⟨rfl, fun w hw => ts_in ((by decide +kernel : ∀ w ∈ u_ws RX10 TX10 53, w ∈ lw_tbl) w hw) ((by decide +kernel : ∀ w ∈ u_ws RX10 TX10 53, goodWord w = true) w hw), tyX10, tyX10_ok, nmX10⟩
theorem Fl_X0_15 : Fl RX0 15 0 1 := Fl.of Cok_0 (by decide) (List.mem_of_getElem? (i := 150) (by decide +kernel))
theorem Fl_X0_18 : Fl RX0 18 0 2 := Fl.of Cok_0 (by decide) (List.mem_of_getElem? (i := 152) (by decide +kernel))
theorem Fl_X0_21 : Fl RX0 21 0 3 := Fl.of Cok_0 (by decide) (List.mem_of_getElem? (i := 154) (by decide +kernel))
theorem Fl_X0_24 : Fl RX0 24 0 4 := Fl.of Cok_0 (by decide) (List.mem_of_getElem? (i := 156) (by decide +kernel))
theorem Fp_X0_24 : Fp RX0 24 0 4 .int := Fp.of Cok_0 (by decide) (List.mem_of_getElem? (i := 156) (by decide +kernel)) rfl (by decide +kernel)
theorem Fl_X0_28 : Fl RX0 28 0 5 := Fl.of Cok_0 (by decide) (List.mem_of_getElem? (i := 159) (by decide +kernel))
theorem Fp_X0_28 : Fp RX0 28 0 5 .int := Fp.of Cok_0 (by decide) (List.mem_of_getElem? (i := 159) (by decide +kernel)) rfl (by decide +kernel)
theorem Fl_X0_9 : Fl RX0 9 0 0 := Fl.of Cok_0 (by decide) (List.mem_of_getElem? (i := 148) (by decide +kernel))
theorem Fl_X1_103 : Fl RX1 103 1 8 := Fl.of Cok_1 (by decide) (List.mem_of_getElem? (i := 210) (by decide +kernel))
theorem Fp_X1_103 : Fp RX1 103 1 8 .long := Fp.of Cok_1 (by decide) (List.mem_of_getElem? (i := 210) (by decide +kernel)) rfl (by decide +kernel)
theorem Fl_X1_107 : Fl RX1 107 1 9 := Fl.of Cok_1 (by decide) (List.mem_of_getElem? (i := 212) (by decide +kernel))
theorem Fp_X1_107 : Fp RX1 107 1 9 .long := Fp.of Cok_1 (by decide) (List.mem_of_getElem? (i := 212) (by decide +kernel)) rfl (by decide +kernel)
theorem Fl_X1_134 : Fl RX1 134 1 10 := Fl.of Cok_1 (by decide) (List.mem_of_getElem? (i := 213) (by decide +kernel))
theorem Fp_X1_134 : Fp RX1 134 1 10 .long := Fp.of Cok_1 (by decide) (List.mem_of_getElem? (i := 213) (by decide +kernel)) rfl (by decide +kernel)
theorem Fl_X1_15 : Fl RX1 15 1 1 := Fl.of Cok_1 (by decide) (List.mem_of_getElem? (i := 198) (by decide +kernel))
theorem Fl_X1_18 : Fl RX1 18 1 2 := Fl.of Cok_1 (by decide) (List.mem_of_getElem? (i := 200) (by decide +kernel))
theorem Fl_X1_21 : Fl RX1 21 1 3 := Fl.of Cok_1 (by decide) (List.mem_of_getElem? (i := 202) (by decide +kernel))
theorem Fl_X1_24 : Fl RX1 24 1 4 := Fl.of Cok_1 (by decide) (List.mem_of_getElem? (i := 203) (by decide +kernel))
theorem Fl_X1_27 : Fl RX1 27 1 5 := Fl.of Cok_1 (by decide) (List.mem_of_getElem? (i := 205) (by decide +kernel))
theorem Fl_X1_30 : Fl RX1 30 1 6 := Fl.of Cok_1 (by decide) (List.mem_of_getElem? (i := 206) (by decide +kernel))
theorem Fl_X1_33 : Fl RX1 33 1 7 := Fl.of Cok_1 (by decide) (List.mem_of_getElem? (i := 208) (by decide +kernel))
theorem Fl_X1_9 : Fl RX1 9 1 0 := Fl.of Cok_1 (by decide) (List.mem_of_getElem? (i := 196) (by decide +kernel))
theorem Fl_X2_15 : Fl RX2 15 2 1 := Fl.of Cok_2 (by decide) (List.mem_of_getElem? (i := 341) (by decide +kernel))
theorem Fp_X2_15 : Fp RX2 15 2 1 (.object "MillFarmers$Terms") := Fp.of Cok_2 (by decide) (List.mem_of_getElem? (i := 341) (by decide +kernel)) rfl (by decide +kernel)
theorem Fl_X2_24 : Fl RX2 24 2 4 := Fl.of Cok_2 (by decide) (List.mem_of_getElem? (i := 344) (by decide +kernel))
theorem Fp_X2_24 : Fp RX2 24 2 4 .int := Fp.of Cok_2 (by decide) (List.mem_of_getElem? (i := 344) (by decide +kernel)) rfl (by decide +kernel)
theorem Fl_X2_31 : Fl RX2 31 2 2 := Fl.of Cok_2 (by decide) (List.mem_of_getElem? (i := 342) (by decide +kernel))
theorem Fp_X2_31 : Fp RX2 31 2 2 .int := Fp.of Cok_2 (by decide) (List.mem_of_getElem? (i := 342) (by decide +kernel)) rfl (by decide +kernel)
theorem Fl_X2_38 : Fl RX2 38 2 3 := Fl.of Cok_2 (by decide) (List.mem_of_getElem? (i := 343) (by decide +kernel))
theorem Fp_X2_38 : Fp RX2 38 2 3 .int := Fp.of Cok_2 (by decide) (List.mem_of_getElem? (i := 343) (by decide +kernel)) rfl (by decide +kernel)
theorem Fl_X2_9 : Fl RX2 9 2 0 := Fl.of Cok_2 (by decide) (List.mem_of_getElem? (i := 340) (by decide +kernel))
theorem Fl_X3_15 : Fl RX3 15 3 1 := Fl.of Cok_3 (by decide) (List.mem_of_getElem? (i := 126) (by decide +kernel))
theorem Fl_X3_18 : Fl RX3 18 3 2 := Fl.of Cok_3 (by decide) (List.mem_of_getElem? (i := 128) (by decide +kernel))
theorem Fl_X3_21 : Fl RX3 21 3 3 := Fl.of Cok_3 (by decide) (List.mem_of_getElem? (i := 130) (by decide +kernel))
theorem Fp_X3_21 : Fp RX3 21 3 3 .int := Fp.of Cok_3 (by decide) (List.mem_of_getElem? (i := 130) (by decide +kernel)) rfl (by decide +kernel)
theorem Fl_X3_9 : Fl RX3 9 3 0 := Fl.of Cok_3 (by decide) (List.mem_of_getElem? (i := 124) (by decide +kernel))
theorem Fl_X4_15 : Fl RX4 15 4 1 := Fl.of Cok_4 (by decide) (List.mem_of_getElem? (i := 100) (by decide +kernel))
theorem Fl_X4_18 : Fl RX4 18 4 2 := Fl.of Cok_4 (by decide) (List.mem_of_getElem? (i := 102) (by decide +kernel))
theorem Fl_X4_21 : Fl RX4 21 4 3 := Fl.of Cok_4 (by decide) (List.mem_of_getElem? (i := 105) (by decide +kernel))
theorem Fp_X4_21 : Fp RX4 21 4 3 .int := Fp.of Cok_4 (by decide) (List.mem_of_getElem? (i := 105) (by decide +kernel)) rfl (by decide +kernel)
theorem Fl_X4_9 : Fl RX4 9 4 0 := Fl.of Cok_4 (by decide) (List.mem_of_getElem? (i := 97) (by decide +kernel))
theorem Fl_X5_15 : Fl RX5 15 5 1 := Fl.of Cok_5 (by decide) (List.mem_of_getElem? (i := 246) (by decide +kernel))
theorem Fl_X5_18 : Fl RX5 18 5 2 := Fl.of Cok_5 (by decide) (List.mem_of_getElem? (i := 247) (by decide +kernel))
theorem Fl_X5_21 : Fl RX5 21 5 3 := Fl.of Cok_5 (by decide) (List.mem_of_getElem? (i := 248) (by decide +kernel))
theorem Fp_X5_21 : Fp RX5 21 5 3 .int := Fp.of Cok_5 (by decide) (List.mem_of_getElem? (i := 248) (by decide +kernel)) rfl (by decide +kernel)
theorem Fl_X5_25 : Fl RX5 25 5 4 := Fl.of Cok_5 (by decide) (List.mem_of_getElem? (i := 250) (by decide +kernel))
theorem Fp_X5_25 : Fp RX5 25 5 4 .int := Fp.of Cok_5 (by decide) (List.mem_of_getElem? (i := 250) (by decide +kernel)) rfl (by decide +kernel)
theorem Fl_X5_9 : Fl RX5 9 5 0 := Fl.of Cok_5 (by decide) (List.mem_of_getElem? (i := 245) (by decide +kernel))
theorem Fl_X6_15 : Fl RX6 15 6 1 := Fl.of Cok_6 (by decide) (List.mem_of_getElem? (i := 270) (by decide +kernel))
theorem Fl_X6_18 : Fl RX6 18 6 2 := Fl.of Cok_6 (by decide) (List.mem_of_getElem? (i := 271) (by decide +kernel))
theorem Fl_X6_21 : Fl RX6 21 6 3 := Fl.of Cok_6 (by decide) (List.mem_of_getElem? (i := 272) (by decide +kernel))
theorem Fl_X6_24 : Fl RX6 24 6 4 := Fl.of Cok_6 (by decide) (List.mem_of_getElem? (i := 273) (by decide +kernel))
theorem Fp_X6_24 : Fp RX6 24 6 4 .int := Fp.of Cok_6 (by decide) (List.mem_of_getElem? (i := 273) (by decide +kernel)) rfl (by decide +kernel)
theorem Fl_X6_28 : Fl RX6 28 6 5 := Fl.of Cok_6 (by decide) (List.mem_of_getElem? (i := 275) (by decide +kernel))
theorem Fp_X6_28 : Fp RX6 28 6 5 .int := Fp.of Cok_6 (by decide) (List.mem_of_getElem? (i := 275) (by decide +kernel)) rfl (by decide +kernel)
theorem Fl_X6_31 : Fl RX6 31 6 6 := Fl.of Cok_6 (by decide) (List.mem_of_getElem? (i := 276) (by decide +kernel))
theorem Fp_X6_31 : Fp RX6 31 6 6 .int := Fp.of Cok_6 (by decide) (List.mem_of_getElem? (i := 276) (by decide +kernel)) rfl (by decide +kernel)
theorem Fl_X6_34 : Fl RX6 34 6 7 := Fl.of Cok_6 (by decide) (List.mem_of_getElem? (i := 277) (by decide +kernel))
theorem Fp_X6_34 : Fp RX6 34 6 7 .int := Fp.of Cok_6 (by decide) (List.mem_of_getElem? (i := 277) (by decide +kernel)) rfl (by decide +kernel)
theorem Fl_X6_9 : Fl RX6 9 6 0 := Fl.of Cok_6 (by decide) (List.mem_of_getElem? (i := 269) (by decide +kernel))
theorem Fl_X7_15 : Fl RX7 15 7 1 := Fl.of Cok_7 (by decide) (List.mem_of_getElem? (i := 182) (by decide +kernel))
theorem Fp_X7_15 : Fp RX7 15 7 1 .int := Fp.of Cok_7 (by decide) (List.mem_of_getElem? (i := 182) (by decide +kernel)) rfl (by decide +kernel)
theorem Fl_X7_9 : Fl RX7 9 7 0 := Fl.of Cok_7 (by decide) (List.mem_of_getElem? (i := 180) (by decide +kernel))
theorem Fl_X8_15 : Fl RX8 15 8 1 := Fl.of Cok_8 (by decide) (List.mem_of_getElem? (i := 315) (by decide +kernel))
theorem Fl_X8_18 : Fl RX8 18 8 2 := Fl.of Cok_8 (by decide) (List.mem_of_getElem? (i := 316) (by decide +kernel))
theorem Fl_X8_34 : Fl RX8 34 8 3 := Fl.of Cok_8 (by decide) (List.mem_of_getElem? (i := 317) (by decide +kernel))
theorem Fp_X8_34 : Fp RX8 34 8 3 .int := Fp.of Cok_8 (by decide) (List.mem_of_getElem? (i := 317) (by decide +kernel)) rfl (by decide +kernel)
theorem Fl_X8_38 : Fl RX8 38 8 4 := Fl.of Cok_8 (by decide) (List.mem_of_getElem? (i := 320) (by decide +kernel))
theorem Fp_X8_38 : Fp RX8 38 8 4 .int := Fp.of Cok_8 (by decide) (List.mem_of_getElem? (i := 320) (by decide +kernel)) rfl (by decide +kernel)
theorem Fl_X8_9 : Fl RX8 9 8 0 := Fl.of Cok_8 (by decide) (List.mem_of_getElem? (i := 312) (by decide +kernel))
theorem Fl_X9_10 : Fl RX9 10 9 0 := Fl.of Cok_9 (by decide) (List.mem_of_getElem? (i := 356) (by decide +kernel))
theorem Fl_X9_19 : Fl RX9 19 9 1 := Fl.of Cok_9 (by decide) (List.mem_of_getElem? (i := 357) (by decide +kernel))
theorem Fl_X9_26 : Fl RX9 26 9 2 := Fl.of Cok_9 (by decide) (List.mem_of_getElem? (i := 358) (by decide +kernel))
theorem Fl_X9_33 : Fl RX9 33 9 3 := Fl.of Cok_9 (by decide) (List.mem_of_getElem? (i := 359) (by decide +kernel))
theorem Fl_X9_40 : Fl RX9 40 9 5 := Fl.of Cok_9 (by decide) (List.mem_of_getElem? (i := 361) (by decide +kernel))
theorem Fl_X9_47 : Fl RX9 47 9 6 := Fl.of Cok_9 (by decide) (List.mem_of_getElem? (i := 362) (by decide +kernel))
theorem Fl_X9_54 : Fl RX9 54 9 7 := Fl.of Cok_9 (by decide) (List.mem_of_getElem? (i := 363) (by decide +kernel))
theorem Fl_X9_61 : Fl RX9 61 9 8 := Fl.of Cok_9 (by decide) (List.mem_of_getElem? (i := 364) (by decide +kernel))
theorem Fp_X9_61 : Fp RX9 61 9 8 (.object "MillFarmers$Terms") := Fp.of Cok_9 (by decide) (List.mem_of_getElem? (i := 364) (by decide +kernel)) rfl (by decide +kernel)
theorem Fl_X9_65 : Fl RX9 65 9 9 := Fl.of Cok_9 (by decide) (List.mem_of_getElem? (i := 365) (by decide +kernel))
theorem Fp_X9_65 : Fp RX9 65 9 9 (.object "MillFarmers$Terms") := Fp.of Cok_9 (by decide) (List.mem_of_getElem? (i := 365) (by decide +kernel)) rfl (by decide +kernel)
theorem Fl_X9_73 : Fl RX9 73 9 4 := Fl.of Cok_9 (by decide) (List.mem_of_getElem? (i := 360) (by decide +kernel))
theorem Fl_X9_77 : Fl RX9 77 9 10 := Fl.of Cok_9 (by decide) (List.mem_of_getElem? (i := 366) (by decide +kernel))
theorem Fp_X9_77 : Fp RX9 77 9 10 .int := Fp.of Cok_9 (by decide) (List.mem_of_getElem? (i := 366) (by decide +kernel)) rfl (by decide +kernel)
theorem Fl_X9_81 : Fl RX9 81 9 11 := Fl.of Cok_9 (by decide) (List.mem_of_getElem? (i := 367) (by decide +kernel))
theorem Fp_X9_81 : Fp RX9 81 9 11 .int := Fp.of Cok_9 (by decide) (List.mem_of_getElem? (i := 367) (by decide +kernel)) rfl (by decide +kernel)
theorem Fl_X10_102 : Fl RX10 102 10 46 := Fl.of Cok_10 (by decide) (List.mem_of_getElem? (i := 780) (by decide +kernel))
theorem Fl_X10_105 : Fl RX10 105 10 48 := Fl.of Cok_10 (by decide) (List.mem_of_getElem? (i := 782) (by decide +kernel))
theorem Fl_X10_108 : Fl RX10 108 10 49 := Fl.of Cok_10 (by decide) (List.mem_of_getElem? (i := 783) (by decide +kernel))
theorem Fl_X10_111 : Fl RX10 111 10 51 := Fl.of Cok_10 (by decide) (List.mem_of_getElem? (i := 785) (by decide +kernel))
theorem Fl_X10_114 : Fl RX10 114 10 52 := Fl.of Cok_10 (by decide) (List.mem_of_getElem? (i := 786) (by decide +kernel))
theorem Fl_X10_117 : Fl RX10 117 10 0 := Fl.of Cok_10 (by decide) (List.mem_of_getElem? (i := 734) (by decide +kernel))
theorem Fp_X10_117 : Fp RX10 117 10 0 .int := Fp.of Cok_10 (by decide) (List.mem_of_getElem? (i := 734) (by decide +kernel)) rfl (by decide +kernel)
theorem Fl_X10_120 : Fl RX10 120 10 1 := Fl.of Cok_10 (by decide) (List.mem_of_getElem? (i := 735) (by decide +kernel))
theorem Fp_X10_120 : Fp RX10 120 10 1 .int := Fp.of Cok_10 (by decide) (List.mem_of_getElem? (i := 735) (by decide +kernel)) rfl (by decide +kernel)
theorem Fl_X10_129 : Fl RX10 129 10 2 := Fl.of Cok_10 (by decide) (List.mem_of_getElem? (i := 736) (by decide +kernel))
theorem Fp_X10_129 : Fp RX10 129 10 2 .int := Fp.of Cok_10 (by decide) (List.mem_of_getElem? (i := 736) (by decide +kernel)) rfl (by decide +kernel)
theorem Fl_X10_13 : Fl RX10 13 10 4 := Fl.of Cok_10 (by decide) (List.mem_of_getElem? (i := 738) (by decide +kernel))
theorem Fl_X10_151 : Fl RX10 151 10 6 := Fl.of Cok_10 (by decide) (List.mem_of_getElem? (i := 740) (by decide +kernel))
theorem Fp_X10_151 : Fp RX10 151 10 6 .int := Fp.of Cok_10 (by decide) (List.mem_of_getElem? (i := 740) (by decide +kernel)) rfl (by decide +kernel)
theorem Fl_X10_156 : Fl RX10 156 10 10 := Fl.of Cok_10 (by decide) (List.mem_of_getElem? (i := 744) (by decide +kernel))
theorem Fp_X10_156 : Fp RX10 156 10 10 .int := Fp.of Cok_10 (by decide) (List.mem_of_getElem? (i := 744) (by decide +kernel)) rfl (by decide +kernel)
theorem Fl_X10_159 : Fl RX10 159 10 26 := Fl.of Cok_10 (by decide) (List.mem_of_getElem? (i := 760) (by decide +kernel))
theorem Fp_X10_159 : Fp RX10 159 10 26 .int := Fp.of Cok_10 (by decide) (List.mem_of_getElem? (i := 760) (by decide +kernel)) rfl (by decide +kernel)
theorem Fl_X10_16 : Fl RX10 16 10 5 := Fl.of Cok_10 (by decide) (List.mem_of_getElem? (i := 739) (by decide +kernel))
theorem Fl_X10_166 : Fl RX10 166 10 28 := Fl.of Cok_10 (by decide) (List.mem_of_getElem? (i := 762) (by decide +kernel))
theorem Fp_X10_166 : Fp RX10 166 10 28 .int := Fp.of Cok_10 (by decide) (List.mem_of_getElem? (i := 762) (by decide +kernel)) rfl (by decide +kernel)
theorem Fl_X10_169 : Fl RX10 169 10 27 := Fl.of Cok_10 (by decide) (List.mem_of_getElem? (i := 761) (by decide +kernel))
theorem Fp_X10_169 : Fp RX10 169 10 27 .int := Fp.of Cok_10 (by decide) (List.mem_of_getElem? (i := 761) (by decide +kernel)) rfl (by decide +kernel)
theorem Fl_X10_172 : Fl RX10 172 10 30 := Fl.of Cok_10 (by decide) (List.mem_of_getElem? (i := 764) (by decide +kernel))
theorem Fp_X10_172 : Fp RX10 172 10 30 .long := Fp.of Cok_10 (by decide) (List.mem_of_getElem? (i := 764) (by decide +kernel)) rfl (by decide +kernel)
theorem Fl_X10_182 : Fl RX10 182 10 29 := Fl.of Cok_10 (by decide) (List.mem_of_getElem? (i := 763) (by decide +kernel))
theorem Fp_X10_182 : Fp RX10 182 10 29 .int := Fp.of Cok_10 (by decide) (List.mem_of_getElem? (i := 763) (by decide +kernel)) rfl (by decide +kernel)
theorem Fl_X10_19 : Fl RX10 19 10 7 := Fl.of Cok_10 (by decide) (List.mem_of_getElem? (i := 741) (by decide +kernel))
theorem Fl_X10_197 : Fl RX10 197 10 32 := Fl.of Cok_10 (by decide) (List.mem_of_getElem? (i := 766) (by decide +kernel))
theorem Fp_X10_197 : Fp RX10 197 10 32 .boolean := Fp.of Cok_10 (by decide) (List.mem_of_getElem? (i := 766) (by decide +kernel)) rfl (by decide +kernel)
theorem Fl_X10_216 : Fl RX10 216 10 20 := Fl.of Cok_10 (by decide) (List.mem_of_getElem? (i := 754) (by decide +kernel))
theorem Fp_X10_216 : Fp RX10 216 10 20 .int := Fp.of Cok_10 (by decide) (List.mem_of_getElem? (i := 754) (by decide +kernel)) rfl (by decide +kernel)
theorem Fl_X10_22 : Fl RX10 22 10 8 := Fl.of Cok_10 (by decide) (List.mem_of_getElem? (i := 742) (by decide +kernel))
theorem Fl_X10_223 : Fl RX10 223 10 22 := Fl.of Cok_10 (by decide) (List.mem_of_getElem? (i := 756) (by decide +kernel))
theorem Fp_X10_223 : Fp RX10 223 10 22 .int := Fp.of Cok_10 (by decide) (List.mem_of_getElem? (i := 756) (by decide +kernel)) rfl (by decide +kernel)
theorem Fl_X10_231 : Fl RX10 231 10 15 := Fl.of Cok_10 (by decide) (List.mem_of_getElem? (i := 749) (by decide +kernel))
theorem Fp_X10_231 : Fp RX10 231 10 15 .int := Fp.of Cok_10 (by decide) (List.mem_of_getElem? (i := 749) (by decide +kernel)) rfl (by decide +kernel)
theorem Fl_X10_249 : Fl RX10 249 10 42 := Fl.of Cok_10 (by decide) (List.mem_of_getElem? (i := 776) (by decide +kernel))
theorem Fp_X10_249 : Fp RX10 249 10 42 .int := Fp.of Cok_10 (by decide) (List.mem_of_getElem? (i := 776) (by decide +kernel)) rfl (by decide +kernel)
theorem Fl_X10_25 : Fl RX10 25 10 9 := Fl.of Cok_10 (by decide) (List.mem_of_getElem? (i := 743) (by decide +kernel))
theorem Fl_X10_254 : Fl RX10 254 10 43 := Fl.of Cok_10 (by decide) (List.mem_of_getElem? (i := 777) (by decide +kernel))
theorem Fp_X10_254 : Fp RX10 254 10 43 .int := Fp.of Cok_10 (by decide) (List.mem_of_getElem? (i := 777) (by decide +kernel)) rfl (by decide +kernel)
theorem Fl_X10_268 : Fl RX10 268 10 47 := Fl.of Cok_10 (by decide) (List.mem_of_getElem? (i := 781) (by decide +kernel))
theorem Fp_X10_268 : Fp RX10 268 10 47 .int := Fp.of Cok_10 (by decide) (List.mem_of_getElem? (i := 781) (by decide +kernel)) rfl (by decide +kernel)
theorem Fl_X10_271 : Fl RX10 271 10 50 := Fl.of Cok_10 (by decide) (List.mem_of_getElem? (i := 784) (by decide +kernel))
theorem Fp_X10_271 : Fp RX10 271 10 50 .int := Fp.of Cok_10 (by decide) (List.mem_of_getElem? (i := 784) (by decide +kernel)) rfl (by decide +kernel)
theorem Fl_X10_28 : Fl RX10 28 10 11 := Fl.of Cok_10 (by decide) (List.mem_of_getElem? (i := 745) (by decide +kernel))
theorem Fl_X10_31 : Fl RX10 31 10 12 := Fl.of Cok_10 (by decide) (List.mem_of_getElem? (i := 746) (by decide +kernel))
theorem Fl_X10_34 : Fl RX10 34 10 13 := Fl.of Cok_10 (by decide) (List.mem_of_getElem? (i := 747) (by decide +kernel))
theorem Fl_X10_37 : Fl RX10 37 10 14 := Fl.of Cok_10 (by decide) (List.mem_of_getElem? (i := 748) (by decide +kernel))
theorem Fl_X10_40 : Fl RX10 40 10 16 := Fl.of Cok_10 (by decide) (List.mem_of_getElem? (i := 750) (by decide +kernel))
theorem Fl_X10_43 : Fl RX10 43 10 17 := Fl.of Cok_10 (by decide) (List.mem_of_getElem? (i := 751) (by decide +kernel))
theorem Fp_X10_43 : Fp RX10 43 10 17 .int := Fp.of Cok_10 (by decide) (List.mem_of_getElem? (i := 751) (by decide +kernel)) rfl (by decide +kernel)
theorem Fl_X10_47 : Fl RX10 47 10 18 := Fl.of Cok_10 (by decide) (List.mem_of_getElem? (i := 752) (by decide +kernel))
theorem Fl_X10_50 : Fl RX10 50 10 19 := Fl.of Cok_10 (by decide) (List.mem_of_getElem? (i := 753) (by decide +kernel))
theorem Fl_X10_53 : Fl RX10 53 10 21 := Fl.of Cok_10 (by decide) (List.mem_of_getElem? (i := 755) (by decide +kernel))
theorem Fl_X10_56 : Fl RX10 56 10 23 := Fl.of Cok_10 (by decide) (List.mem_of_getElem? (i := 757) (by decide +kernel))
theorem Fl_X10_59 : Fl RX10 59 10 24 := Fl.of Cok_10 (by decide) (List.mem_of_getElem? (i := 758) (by decide +kernel))
theorem Fl_X10_62 : Fl RX10 62 10 25 := Fl.of Cok_10 (by decide) (List.mem_of_getElem? (i := 759) (by decide +kernel))
theorem Fl_X10_65 : Fl RX10 65 10 31 := Fl.of Cok_10 (by decide) (List.mem_of_getElem? (i := 765) (by decide +kernel))
theorem Fp_X10_65 : Fp RX10 65 10 31 .int := Fp.of Cok_10 (by decide) (List.mem_of_getElem? (i := 765) (by decide +kernel)) rfl (by decide +kernel)
theorem Fl_X10_68 : Fl RX10 68 10 33 := Fl.of Cok_10 (by decide) (List.mem_of_getElem? (i := 767) (by decide +kernel))
theorem Fl_X10_7 : Fl RX10 7 10 3 := Fl.of Cok_10 (by decide) (List.mem_of_getElem? (i := 737) (by decide +kernel))
theorem Fl_X10_72 : Fl RX10 72 10 34 := Fl.of Cok_10 (by decide) (List.mem_of_getElem? (i := 768) (by decide +kernel))
theorem Fl_X10_75 : Fl RX10 75 10 35 := Fl.of Cok_10 (by decide) (List.mem_of_getElem? (i := 769) (by decide +kernel))
theorem Fl_X10_78 : Fl RX10 78 10 36 := Fl.of Cok_10 (by decide) (List.mem_of_getElem? (i := 770) (by decide +kernel))
theorem Fl_X10_81 : Fl RX10 81 10 37 := Fl.of Cok_10 (by decide) (List.mem_of_getElem? (i := 771) (by decide +kernel))
theorem Fl_X10_84 : Fl RX10 84 10 38 := Fl.of Cok_10 (by decide) (List.mem_of_getElem? (i := 772) (by decide +kernel))
theorem Fl_X10_87 : Fl RX10 87 10 39 := Fl.of Cok_10 (by decide) (List.mem_of_getElem? (i := 773) (by decide +kernel))
theorem Fl_X10_90 : Fl RX10 90 10 40 := Fl.of Cok_10 (by decide) (List.mem_of_getElem? (i := 774) (by decide +kernel))
theorem Fl_X10_93 : Fl RX10 93 10 41 := Fl.of Cok_10 (by decide) (List.mem_of_getElem? (i := 775) (by decide +kernel))
theorem Fl_X10_96 : Fl RX10 96 10 44 := Fl.of Cok_10 (by decide) (List.mem_of_getElem? (i := 778) (by decide +kernel))
theorem Fl_X10_99 : Fl RX10 99 10 45 := Fl.of Cok_10 (by decide) (List.mem_of_getElem? (i := 779) (by decide +kernel))
theorem Fl_X1_100 : Fl RX1 100 0 2 := Fl.ofN (host := "MillFarmers") Cok_0 (by decide) (List.mem_of_getElem? (i := 153) (by decide +kernel))
theorem Fl_X1_110 : Fl RX1 110 4 0 := Fl.ofN (host := "MillFarmers") Cok_4 (by decide) (List.mem_of_getElem? (i := 98) (by decide +kernel))
theorem Fl_X1_50 : Fl RX1 50 4 3 := Fl.ofN (host := "MillFarmers") Cok_4 (by decide) (List.mem_of_getElem? (i := 107) (by decide +kernel))
theorem Fp_X1_50 : Fp RX1 50 4 3 .int := Fp.ofN (host := "MillFarmers") Cok_4 (by decide) (List.mem_of_getElem? (i := 107) (by decide +kernel)) rfl (by decide +kernel)
theorem Fl_X1_68 : Fl RX1 68 3 3 := Fl.ofN (host := "MillFarmers") Cok_3 (by decide) (List.mem_of_getElem? (i := 131) (by decide +kernel))
theorem Fp_X1_68 : Fp RX1 68 3 3 .int := Fp.ofN (host := "MillFarmers") Cok_3 (by decide) (List.mem_of_getElem? (i := 131) (by decide +kernel)) rfl (by decide +kernel)
theorem Fl_X1_71 : Fl RX1 71 3 2 := Fl.ofN (host := "MillFarmers") Cok_3 (by decide) (List.mem_of_getElem? (i := 129) (by decide +kernel))
theorem Fl_X1_75 : Fl RX1 75 3 0 := Fl.ofN (host := "MillFarmers") Cok_3 (by decide) (List.mem_of_getElem? (i := 125) (by decide +kernel))
theorem Fl_X1_78 : Fl RX1 78 3 1 := Fl.ofN (host := "MillFarmers") Cok_3 (by decide) (List.mem_of_getElem? (i := 127) (by decide +kernel))
theorem Fl_X1_81 : Fl RX1 81 0 4 := Fl.ofN (host := "MillFarmers") Cok_0 (by decide) (List.mem_of_getElem? (i := 157) (by decide +kernel))
theorem Fp_X1_81 : Fp RX1 81 0 4 .int := Fp.ofN (host := "MillFarmers") Cok_0 (by decide) (List.mem_of_getElem? (i := 157) (by decide +kernel)) rfl (by decide +kernel)
theorem Fl_X1_84 : Fl RX1 84 0 3 := Fl.ofN (host := "MillFarmers") Cok_0 (by decide) (List.mem_of_getElem? (i := 155) (by decide +kernel))
theorem Fl_X1_85 : Fl RX1 85 0 0 := Fl.ofN (host := "MillFarmers") Cok_0 (by decide) (List.mem_of_getElem? (i := 149) (by decide +kernel))
theorem Fl_X1_86 : Fl RX1 86 0 1 := Fl.ofN (host := "MillFarmers") Cok_0 (by decide) (List.mem_of_getElem? (i := 151) (by decide +kernel))
theorem Fl_X1_88 : Fl RX1 88 8 3 := Fl.ofN (host := "MillFarmers") Cok_8 (by decide) (List.mem_of_getElem? (i := 318) (by decide +kernel))
theorem Fp_X1_88 : Fp RX1 88 8 3 .int := Fp.ofN (host := "MillFarmers") Cok_8 (by decide) (List.mem_of_getElem? (i := 318) (by decide +kernel)) rfl (by decide +kernel)
theorem Fl_X1_91 : Fl RX1 91 4 2 := Fl.ofN (host := "MillFarmers") Cok_4 (by decide) (List.mem_of_getElem? (i := 103) (by decide +kernel))
theorem Fl_X1_97 : Fl RX1 97 8 0 := Fl.ofN (host := "MillFarmers") Cok_8 (by decide) (List.mem_of_getElem? (i := 314) (by decide +kernel))
theorem Fl_X2_103 : Fl RX2 103 7 0 := Fl.ofN (host := "MillFarmers") Cok_7 (by decide) (List.mem_of_getElem? (i := 181) (by decide +kernel))
theorem Fl_X2_41 : Fl RX2 41 8 4 := Fl.ofN (host := "MillFarmers") Cok_8 (by decide) (List.mem_of_getElem? (i := 321) (by decide +kernel))
theorem Fp_X2_41 : Fp RX2 41 8 4 .int := Fp.ofN (host := "MillFarmers") Cok_8 (by decide) (List.mem_of_getElem? (i := 321) (by decide +kernel)) rfl (by decide +kernel)
theorem Fl_X2_81 : Fl RX2 81 8 0 := Fl.ofN (host := "MillFarmers") Cok_8 (by decide) (List.mem_of_getElem? (i := 313) (by decide +kernel))
theorem Fl_X2_84 : Fl RX2 84 8 3 := Fl.ofN (host := "MillFarmers") Cok_8 (by decide) (List.mem_of_getElem? (i := 319) (by decide +kernel))
theorem Fp_X2_84 : Fp RX2 84 8 3 .int := Fp.ofN (host := "MillFarmers") Cok_8 (by decide) (List.mem_of_getElem? (i := 319) (by decide +kernel)) rfl (by decide +kernel)
theorem Fl_X2_98 : Fl RX2 98 7 1 := Fl.ofN (host := "MillFarmers") Cok_7 (by decide) (List.mem_of_getElem? (i := 184) (by decide +kernel))
theorem Fp_X2_98 : Fp RX2 98 7 1 .int := Fp.ofN (host := "MillFarmers") Cok_7 (by decide) (List.mem_of_getElem? (i := 184) (by decide +kernel)) rfl (by decide +kernel)
theorem Fl_X9_107 : Fl RX9 107 3 3 := Fl.ofN (host := "MillFarmers") Cok_3 (by decide) (List.mem_of_getElem? (i := 132) (by decide +kernel))
theorem Fp_X9_107 : Fp RX9 107 3 3 .int := Fp.ofN (host := "MillFarmers") Cok_3 (by decide) (List.mem_of_getElem? (i := 132) (by decide +kernel)) rfl (by decide +kernel)
theorem Fl_X9_109 : Fl RX9 109 0 4 := Fl.ofN (host := "MillFarmers") Cok_0 (by decide) (List.mem_of_getElem? (i := 158) (by decide +kernel))
theorem Fp_X9_109 : Fp RX9 109 0 4 .int := Fp.ofN (host := "MillFarmers") Cok_0 (by decide) (List.mem_of_getElem? (i := 158) (by decide +kernel)) rfl (by decide +kernel)
theorem Fl_X9_113 : Fl RX9 113 7 1 := Fl.ofN (host := "MillFarmers") Cok_7 (by decide) (List.mem_of_getElem? (i := 183) (by decide +kernel))
theorem Fp_X9_113 : Fp RX9 113 7 1 .int := Fp.ofN (host := "MillFarmers") Cok_7 (by decide) (List.mem_of_getElem? (i := 183) (by decide +kernel)) rfl (by decide +kernel)
theorem Fl_X9_124 : Fl RX9 124 8 4 := Fl.ofN (host := "MillFarmers") Cok_8 (by decide) (List.mem_of_getElem? (i := 322) (by decide +kernel))
theorem Fp_X9_124 : Fp RX9 124 8 4 .int := Fp.ofN (host := "MillFarmers") Cok_8 (by decide) (List.mem_of_getElem? (i := 322) (by decide +kernel)) rfl (by decide +kernel)
theorem Fl_X9_133 : Fl RX9 133 4 0 := Fl.ofN (host := "MillFarmers") Cok_4 (by decide) (List.mem_of_getElem? (i := 99) (by decide +kernel))
theorem Fl_X9_141 : Fl RX9 141 1 0 := Fl.ofN (host := "MillFarmers") Cok_1 (by decide) (List.mem_of_getElem? (i := 197) (by decide +kernel))
theorem Fl_X9_145 : Fl RX9 145 1 1 := Fl.ofN (host := "MillFarmers") Cok_1 (by decide) (List.mem_of_getElem? (i := 199) (by decide +kernel))
theorem Fl_X9_148 : Fl RX9 148 1 2 := Fl.ofN (host := "MillFarmers") Cok_1 (by decide) (List.mem_of_getElem? (i := 201) (by decide +kernel))
theorem Fl_X9_151 : Fl RX9 151 1 4 := Fl.ofN (host := "MillFarmers") Cok_1 (by decide) (List.mem_of_getElem? (i := 204) (by decide +kernel))
theorem Fl_X9_161 : Fl RX9 161 1 6 := Fl.ofN (host := "MillFarmers") Cok_1 (by decide) (List.mem_of_getElem? (i := 207) (by decide +kernel))
theorem Fl_X9_164 : Fl RX9 164 1 7 := Fl.ofN (host := "MillFarmers") Cok_1 (by decide) (List.mem_of_getElem? (i := 209) (by decide +kernel))
theorem Fl_X9_176 : Fl RX9 176 1 8 := Fl.ofN (host := "MillFarmers") Cok_1 (by decide) (List.mem_of_getElem? (i := 211) (by decide +kernel))
theorem Fp_X9_176 : Fp RX9 176 1 8 .long := Fp.ofN (host := "MillFarmers") Cok_1 (by decide) (List.mem_of_getElem? (i := 211) (by decide +kernel)) rfl (by decide +kernel)
theorem Fl_X9_180 : Fl RX9 180 1 10 := Fl.ofN (host := "MillFarmers") Cok_1 (by decide) (List.mem_of_getElem? (i := 214) (by decide +kernel))
theorem Fp_X9_180 : Fp RX9 180 1 10 .long := Fp.ofN (host := "MillFarmers") Cok_1 (by decide) (List.mem_of_getElem? (i := 214) (by decide +kernel)) rfl (by decide +kernel)
theorem Fl_X9_183 : Fl RX9 183 5 4 := Fl.ofN (host := "MillFarmers") Cok_5 (by decide) (List.mem_of_getElem? (i := 251) (by decide +kernel))
theorem Fp_X9_183 : Fp RX9 183 5 4 .int := Fp.ofN (host := "MillFarmers") Cok_5 (by decide) (List.mem_of_getElem? (i := 251) (by decide +kernel)) rfl (by decide +kernel)
theorem Fl_X9_186 : Fl RX9 186 5 3 := Fl.ofN (host := "MillFarmers") Cok_5 (by decide) (List.mem_of_getElem? (i := 249) (by decide +kernel))
theorem Fp_X9_186 : Fp RX9 186 5 3 .int := Fp.ofN (host := "MillFarmers") Cok_5 (by decide) (List.mem_of_getElem? (i := 249) (by decide +kernel)) rfl (by decide +kernel)
theorem Fl_X9_188 : Fl RX9 188 6 4 := Fl.ofN (host := "MillFarmers") Cok_6 (by decide) (List.mem_of_getElem? (i := 274) (by decide +kernel))
theorem Fp_X9_188 : Fp RX9 188 6 4 .int := Fp.ofN (host := "MillFarmers") Cok_6 (by decide) (List.mem_of_getElem? (i := 274) (by decide +kernel)) rfl (by decide +kernel)
theorem Fl_X9_189 : Fl RX9 189 4 1 := Fl.ofN (host := "MillFarmers") Cok_4 (by decide) (List.mem_of_getElem? (i := 101) (by decide +kernel))
theorem Fl_X9_210 : Fl RX9 210 0 5 := Fl.ofN (host := "MillFarmers") Cok_0 (by decide) (List.mem_of_getElem? (i := 160) (by decide +kernel))
theorem Fp_X9_210 : Fp RX9 210 0 5 .int := Fp.ofN (host := "MillFarmers") Cok_0 (by decide) (List.mem_of_getElem? (i := 160) (by decide +kernel)) rfl (by decide +kernel)
theorem Fl_X9_213 : Fl RX9 213 4 2 := Fl.ofN (host := "MillFarmers") Cok_4 (by decide) (List.mem_of_getElem? (i := 104) (by decide +kernel))
theorem Fl_X9_92 : Fl RX9 92 4 3 := Fl.ofN (host := "MillFarmers") Cok_4 (by decide) (List.mem_of_getElem? (i := 106) (by decide +kernel))
theorem Fp_X9_92 : Fp RX9 92 4 3 .int := Fp.ofN (host := "MillFarmers") Cok_4 (by decide) (List.mem_of_getElem? (i := 106) (by decide +kernel)) rfl (by decide +kernel)
abbrev mX0_add : MD := (yX0_add, cX0_add, 5, none, { frames := 0, cells := 0, slots := 0, locals := 0 })
theorem M_X0_add : Mv mX0_add 4 := ⟨⟨ts_in (List.mem_of_getElem? (i := 432) (by decide +kernel)) rfl, ts_in (List.mem_of_getElem? (i := 68) (by decide +kernel)) rfl, ⟨by decide +kernel, by decide +kernel⟩, by decide +kernel, rfl, rfl⟩, ts_in (List.mem_of_getElem? (i := 431) (by decide +kernel)) rfl, ts_in (List.mem_of_getElem? (i := 7) (by decide +kernel)) rfl⟩
abbrev mX0_ownerOf : MD := (yX0_ownerOf, cX0_ownerOf, 5, (some .int), { frames := 0, cells := 0, slots := 0, locals := 0 })
theorem M_X0_ownerOf : Mv mX0_ownerOf 2 := ⟨⟨ts_in (List.mem_of_getElem? (i := 719) (by decide +kernel)) rfl, ts_in (List.mem_of_getElem? (i := 68) (by decide +kernel)) rfl, ⟨by decide +kernel, by decide +kernel⟩, by decide +kernel, rfl, rfl⟩, ts_in (List.mem_of_getElem? (i := 718) (by decide +kernel)) rfl, ts_in (List.mem_of_getElem? (i := 44) (by decide +kernel)) rfl⟩
abbrev mX1_draw : MD := (yX1_draw, cX1_draw, 7, none, { frames := 2, cells := 0, slots := 0, locals := 55 })
theorem M_X1_draw : Mv mX1_draw 5 := ⟨⟨ts_in (List.mem_of_getElem? (i := 566) (by decide +kernel)) rfl, ts_in (List.mem_of_getElem? (i := 70) (by decide +kernel)) rfl, ⟨by decide +kernel, by decide +kernel⟩, by decide +kernel, rfl, rfl⟩, ts_in (List.mem_of_getElem? (i := 565) (by decide +kernel)) rfl, ts_in (List.mem_of_getElem? (i := 19) (by decide +kernel)) rfl⟩
abbrev mX1_addCredits : MD := (yX1_addCredits, cX1_addCredits, 4, none, { frames := 0, cells := 0, slots := 0, locals := 0 })
theorem M_X1_addCredits : Mv mX1_addCredits 2 := ⟨⟨ts_in (List.mem_of_getElem? (i := 573) (by decide +kernel)) rfl, ts_in (List.mem_of_getElem? (i := 70) (by decide +kernel)) rfl, ⟨by decide +kernel, by decide +kernel⟩, by decide +kernel, rfl, rfl⟩, ts_in (List.mem_of_getElem? (i := 572) (by decide +kernel)) rfl, ts_in (List.mem_of_getElem? (i := 20) (by decide +kernel)) rfl⟩
abbrev mX1_addBaskets : MD := (yX1_addBaskets, cX1_addBaskets, 13, none, { frames := 1, cells := 0, slots := 0, locals := 23 })
theorem M_X1_addBaskets : Mv mX1_addBaskets 4 := ⟨⟨ts_in (List.mem_of_getElem? (i := 577) (by decide +kernel)) rfl, ts_in (List.mem_of_getElem? (i := 70) (by decide +kernel)) rfl, ⟨by decide +kernel, by decide +kernel⟩, by decide +kernel, rfl, rfl⟩, ts_in (List.mem_of_getElem? (i := 576) (by decide +kernel)) rfl, ts_in (List.mem_of_getElem? (i := 21) (by decide +kernel)) rfl⟩
abbrev mX1_pay : MD := (yX1_pay, cX1_pay, 2, (some .long), { frames := 0, cells := 0, slots := 0, locals := 0 })
theorem M_X1_pay : Mv mX1_pay 1 := ⟨⟨ts_in (List.mem_of_getElem? (i := 595) (by decide +kernel)) rfl, ts_in (List.mem_of_getElem? (i := 70) (by decide +kernel)) rfl, ⟨by decide +kernel, by decide +kernel⟩, by decide +kernel, rfl, rfl⟩, ts_in (List.mem_of_getElem? (i := 594) (by decide +kernel)) rfl, ts_in (List.mem_of_getElem? (i := 24) (by decide +kernel)) rfl⟩
abbrev mX1_debt : MD := (yX1_debt, cX1_debt, 2, (some .long), { frames := 0, cells := 0, slots := 0, locals := 0 })
theorem M_X1_debt : Mv mX1_debt 1 := ⟨⟨ts_in (List.mem_of_getElem? (i := 599) (by decide +kernel)) rfl, ts_in (List.mem_of_getElem? (i := 70) (by decide +kernel)) rfl, ⟨by decide +kernel, by decide +kernel⟩, by decide +kernel, rfl, rfl⟩, ts_in (List.mem_of_getElem? (i := 598) (by decide +kernel)) rfl, ts_in (List.mem_of_getElem? (i := 25) (by decide +kernel)) rfl⟩
abbrev mX1_stand : MD := (yX1_stand, cX1_stand, 5, none, { frames := 4, cells := 0, slots := 0, locals := 100 })
theorem M_X1_stand : Mv mX1_stand 3 := ⟨⟨ts_in (List.mem_of_getElem? (i := 591) (by decide +kernel)) rfl, ts_in (List.mem_of_getElem? (i := 70) (by decide +kernel)) rfl, ⟨by decide +kernel, by decide +kernel⟩, by decide +kernel, rfl, rfl⟩, ts_in (List.mem_of_getElem? (i := 590) (by decide +kernel)) rfl, ts_in (List.mem_of_getElem? (i := 23) (by decide +kernel)) rfl⟩
abbrev mX1_giveEvenly : MD := (yX1_giveEvenly, cX1_giveEvenly, 7, none, { frames := 3, cells := 0, slots := 0, locals := 74 })
theorem M_X1_giveEvenly : Mv mX1_giveEvenly 1 := ⟨⟨ts_in (List.mem_of_getElem? (i := 603) (by decide +kernel)) rfl, ts_in (List.mem_of_getElem? (i := 70) (by decide +kernel)) rfl, ⟨by decide +kernel, by decide +kernel⟩, by decide +kernel, rfl, rfl⟩, ts_in (List.mem_of_getElem? (i := 602) (by decide +kernel)) rfl, ts_in (List.mem_of_getElem? (i := 26) (by decide +kernel)) rfl⟩
abbrev mX1_greatestLevel : MD := (yX1_greatestLevel, cX1_greatestLevel, 6, (some .long), { frames := 2, cells := 0, slots := 0, locals := 49 })
theorem M_X1_greatestLevel : Mv mX1_greatestLevel 1 := ⟨⟨ts_in (List.mem_of_getElem? (i := 610) (by decide +kernel)) rfl, ts_in (List.mem_of_getElem? (i := 70) (by decide +kernel)) rfl, ⟨by decide +kernel, by decide +kernel⟩, by decide +kernel, rfl, rfl⟩, ts_in (List.mem_of_getElem? (i := 609) (by decide +kernel)) rfl, ts_in (List.mem_of_getElem? (i := 27) (by decide +kernel)) rfl⟩
abbrev mX1_sumAtLevel : MD := (yX1_sumAtLevel, cX1_sumAtLevel, 7, (some .long), { frames := 1, cells := 0, slots := 0, locals := 23 })
theorem M_X1_sumAtLevel : Mv mX1_sumAtLevel 2 := ⟨⟨ts_in (List.mem_of_getElem? (i := 615) (by decide +kernel)) rfl, ts_in (List.mem_of_getElem? (i := 70) (by decide +kernel)) rfl, ⟨by decide +kernel, by decide +kernel⟩, by decide +kernel, rfl, rfl⟩, ts_in (List.mem_of_getElem? (i := 614) (by decide +kernel)) rfl, ts_in (List.mem_of_getElem? (i := 28) (by decide +kernel)) rfl⟩
abbrev mX1_payDebts : MD := (yX1_payDebts, cX1_payDebts, 6, none, { frames := 1, cells := 0, slots := 0, locals := 23 })
theorem M_X1_payDebts : Mv mX1_payDebts 2 := ⟨⟨ts_in (List.mem_of_getElem? (i := 619) (by decide +kernel)) rfl, ts_in (List.mem_of_getElem? (i := 70) (by decide +kernel)) rfl, ⟨by decide +kernel, by decide +kernel⟩, by decide +kernel, rfl, rfl⟩, ts_in (List.mem_of_getElem? (i := 618) (by decide +kernel)) rfl, ts_in (List.mem_of_getElem? (i := 29) (by decide +kernel)) rfl⟩
abbrev mX2_read : MD := (yX2_read, cX2_read, 3, (some .int), { frames := 7, cells := 0, slots := 0, locals := 150 })
theorem M_X2_read : Mv mX2_read 1 := ⟨⟨ts_in (List.mem_of_getElem? (i := 452) (by decide +kernel)) rfl, ts_in (List.mem_of_getElem? (i := 75) (by decide +kernel)) rfl, ⟨by decide +kernel, by decide +kernel⟩, by decide +kernel, rfl, rfl⟩, ts_in (List.mem_of_getElem? (i := 451) (by decide +kernel)) rfl, ts_in (List.mem_of_getElem? (i := 9) (by decide +kernel)) rfl⟩
abbrev mX2_readClause : MD := (yX2_readClause, cX2_readClause, 1, (some .boolean), { frames := 6, cells := 0, slots := 0, locals := 130 })
theorem M_X2_readClause : Mv mX2_readClause 0 := ⟨⟨ts_in (List.mem_of_getElem? (i := 465) (by decide +kernel)) rfl, ts_in (List.mem_of_getElem? (i := 75) (by decide +kernel)) rfl, ⟨by decide +kernel, by decide +kernel⟩, by decide +kernel, rfl, rfl⟩, ts_in (List.mem_of_getElem? (i := 464) (by decide +kernel)) rfl, ts_in (List.mem_of_getElem? (i := 12) (by decide +kernel)) rfl⟩
abbrev mX2_readPrice : MD := (yX2_readPrice, cX2_readPrice, 3, (some .boolean), { frames := 2, cells := 0, slots := 0, locals := 45 })
theorem M_X2_readPrice : Mv mX2_readPrice 0 := ⟨⟨ts_in (List.mem_of_getElem? (i := 522) (by decide +kernel)) rfl, ts_in (List.mem_of_getElem? (i := 75) (by decide +kernel)) rfl, ⟨by decide +kernel, by decide +kernel⟩, by decide +kernel, rfl, rfl⟩, ts_in (List.mem_of_getElem? (i := 521) (by decide +kernel)) rfl, ts_in (List.mem_of_getElem? (i := 14) (by decide +kernel)) rfl⟩
abbrev mX2_readQuota : MD := (yX2_readQuota, cX2_readQuota, 2, (some .boolean), { frames := 2, cells := 0, slots := 0, locals := 45 })
theorem M_X2_readQuota : Mv mX2_readQuota 0 := ⟨⟨ts_in (List.mem_of_getElem? (i := 535) (by decide +kernel)) rfl, ts_in (List.mem_of_getElem? (i := 75) (by decide +kernel)) rfl, ⟨by decide +kernel, by decide +kernel⟩, by decide +kernel, rfl, rfl⟩, ts_in (List.mem_of_getElem? (i := 534) (by decide +kernel)) rfl, ts_in (List.mem_of_getElem? (i := 16) (by decide +kernel)) rfl⟩
abbrev mX2_readShare : MD := (yX2_readShare, cX2_readShare, 4, (some .boolean), { frames := 5, cells := 0, slots := 0, locals := 107 })
theorem M_X2_readShare : Mv mX2_readShare 1 := ⟨⟨ts_in (List.mem_of_getElem? (i := 540) (by decide +kernel)) rfl, ts_in (List.mem_of_getElem? (i := 75) (by decide +kernel)) rfl, ⟨by decide +kernel, by decide +kernel⟩, by decide +kernel, rfl, rfl⟩, ts_in (List.mem_of_getElem? (i := 539) (by decide +kernel)) rfl, ts_in (List.mem_of_getElem? (i := 17) (by decide +kernel)) rfl⟩
abbrev mX2_next : MD := (yX2_next, cX2_next, 1, none, { frames := 1, cells := 0, slots := 0, locals := 22 })
theorem M_X2_next : Mv mX2_next 0 := ⟨⟨ts_in (List.mem_of_getElem? (i := 457) (by decide +kernel)) rfl, ts_in (List.mem_of_getElem? (i := 75) (by decide +kernel)) rfl, ⟨by decide +kernel, by decide +kernel⟩, by decide +kernel, rfl, rfl⟩, ts_in (List.mem_of_getElem? (i := 456) (by decide +kernel)) rfl, ts_in (List.mem_of_getElem? (i := 10) (by decide +kernel)) rfl⟩
abbrev mX2_kindAt : MD := (yX2_kindAt, cX2_kindAt, 3, (some .int), { frames := 0, cells := 0, slots := 0, locals := 0 })
theorem M_X2_kindAt : Mv mX2_kindAt 1 := ⟨⟨ts_in (List.mem_of_getElem? (i := 461) (by decide +kernel)) rfl, ts_in (List.mem_of_getElem? (i := 75) (by decide +kernel)) rfl, ⟨by decide +kernel, by decide +kernel⟩, by decide +kernel, rfl, rfl⟩, ts_in (List.mem_of_getElem? (i := 460) (by decide +kernel)) rfl, ts_in (List.mem_of_getElem? (i := 11) (by decide +kernel)) rfl⟩
abbrev mX2_isSemicolon : MD := (yX2_isSemicolon, cX2_isSemicolon, 1, (some .boolean), { frames := 0, cells := 0, slots := 0, locals := 0 })
theorem M_X2_isSemicolon : Mv mX2_isSemicolon 0 := ⟨⟨ts_in (List.mem_of_getElem? (i := 552) (by decide +kernel)) rfl, ts_in (List.mem_of_getElem? (i := 75) (by decide +kernel)) rfl, ⟨by decide +kernel, by decide +kernel⟩, by decide +kernel, rfl, rfl⟩, ts_in (List.mem_of_getElem? (i := 551) (by decide +kernel)) rfl, ts_in (List.mem_of_getElem? (i := 18) (by decide +kernel)) rfl⟩
abbrev mX2_isWord : MD := (yX2_isWord, cX2_isWord, 3, (some .boolean), { frames := 4, cells := 0, slots := 0, locals := 85 })
theorem M_X2_isWord : Mv mX2_isWord 1 := ⟨⟨ts_in (List.mem_of_getElem? (i := 470) (by decide +kernel)) rfl, ts_in (List.mem_of_getElem? (i := 75) (by decide +kernel)) rfl, ⟨by decide +kernel, by decide +kernel⟩, by decide +kernel, rfl, rfl⟩, ts_in (List.mem_of_getElem? (i := 469) (by decide +kernel)) rfl, ts_in (List.mem_of_getElem? (i := 13) (by decide +kernel)) rfl⟩
abbrev mX2_number : MD := (yX2_number, cX2_number, 3, (some .int), { frames := 1, cells := 0, slots := 0, locals := 23 })
theorem M_X2_number : Mv mX2_number 0 := ⟨⟨ts_in (List.mem_of_getElem? (i := 526) (by decide +kernel)) rfl, ts_in (List.mem_of_getElem? (i := 75) (by decide +kernel)) rfl, ⟨by decide +kernel, by decide +kernel⟩, by decide +kernel, rfl, rfl⟩, ts_in (List.mem_of_getElem? (i := 525) (by decide +kernel)) rfl, ts_in (List.mem_of_getElem? (i := 15) (by decide +kernel)) rfl⟩
abbrev mX3_add : MD := (yX3_add, cX3_add, 4, none, { frames := 0, cells := 0, slots := 0, locals := 0 })
theorem M_X3_add : Mv mX3_add 3 := ⟨⟨ts_in (List.mem_of_getElem? (i := 424) (by decide +kernel)) rfl, ts_in (List.mem_of_getElem? (i := 67) (by decide +kernel)) rfl, ⟨by decide +kernel, by decide +kernel⟩, by decide +kernel, rfl, rfl⟩, ts_in (List.mem_of_getElem? (i := 423) (by decide +kernel)) rfl, ts_in (List.mem_of_getElem? (i := 6) (by decide +kernel)) rfl⟩
abbrev mX4_add : MD := (yX4_add, cX4_add, 4, none, { frames := 0, cells := 0, slots := 0, locals := 0 })
theorem M_X4_add : Mv mX4_add 3 := ⟨⟨ts_in (List.mem_of_getElem? (i := 407) (by decide +kernel)) rfl, ts_in (List.mem_of_getElem? (i := 66) (by decide +kernel)) rfl, ⟨by decide +kernel, by decide +kernel⟩, by decide +kernel, rfl, rfl⟩, ts_in (List.mem_of_getElem? (i := 406) (by decide +kernel)) rfl, ts_in (List.mem_of_getElem? (i := 3) (by decide +kernel)) rfl⟩
abbrev mX4_howManyIn : MD := (yX4_howManyIn, cX4_howManyIn, 4, (some .int), { frames := 0, cells := 0, slots := 0, locals := 0 })
theorem M_X4_howManyIn : Mv mX4_howManyIn 1 := ⟨⟨ts_in (List.mem_of_getElem? (i := 647) (by decide +kernel)) rfl, ts_in (List.mem_of_getElem? (i := 66) (by decide +kernel)) rfl, ⟨by decide +kernel, by decide +kernel⟩, by decide +kernel, rfl, rfl⟩, ts_in (List.mem_of_getElem? (i := 646) (by decide +kernel)) rfl, ts_in (List.mem_of_getElem? (i := 34) (by decide +kernel)) rfl⟩
abbrev mX5_add : MD := (yX5_add, cX5_add, 4, none, { frames := 0, cells := 0, slots := 0, locals := 0 })
theorem M_X5_add : Mv mX5_add 3 := ⟨⟨ts_in (List.mem_of_getElem? (i := 659) (by decide +kernel)) rfl, ts_in (List.mem_of_getElem? (i := 71) (by decide +kernel)) rfl, ⟨by decide +kernel, by decide +kernel⟩, by decide +kernel, rfl, rfl⟩, ts_in (List.mem_of_getElem? (i := 658) (by decide +kernel)) rfl, ts_in (List.mem_of_getElem? (i := 35) (by decide +kernel)) rfl⟩
abbrev mX5_lostAt : MD := (yX5_lostAt, cX5_lostAt, 3, (some .int), { frames := 0, cells := 0, slots := 0, locals := 0 })
theorem M_X5_lostAt : Mv mX5_lostAt 1 := ⟨⟨ts_in (List.mem_of_getElem? (i := 633) (by decide +kernel)) rfl, ts_in (List.mem_of_getElem? (i := 71) (by decide +kernel)) rfl, ⟨by decide +kernel, by decide +kernel⟩, by decide +kernel, rfl, rfl⟩, ts_in (List.mem_of_getElem? (i := 632) (by decide +kernel)) rfl, ts_in (List.mem_of_getElem? (i := 32) (by decide +kernel)) rfl⟩
abbrev mX5_foretold : MD := (yX5_foretold, cX5_foretold, 3, (some .long), { frames := 1, cells := 0, slots := 0, locals := 22 })
theorem M_X5_foretold : Mv mX5_foretold 2 := ⟨⟨ts_in (List.mem_of_getElem? (i := 629) (by decide +kernel)) rfl, ts_in (List.mem_of_getElem? (i := 71) (by decide +kernel)) rfl, ⟨by decide +kernel, by decide +kernel⟩, by decide +kernel, rfl, rfl⟩, ts_in (List.mem_of_getElem? (i := 628) (by decide +kernel)) rfl, ts_in (List.mem_of_getElem? (i := 31) (by decide +kernel)) rfl⟩
abbrev mX6_add : MD := (yX6_add, cX6_add, 4, none, { frames := 0, cells := 0, slots := 0, locals := 0 })
theorem M_X6_add : Mv mX6_add 2 := ⟨⟨ts_in (List.mem_of_getElem? (i := 667) (by decide +kernel)) rfl, ts_in (List.mem_of_getElem? (i := 72) (by decide +kernel)) rfl, ⟨by decide +kernel, by decide +kernel⟩, by decide +kernel, rfl, rfl⟩, ts_in (List.mem_of_getElem? (i := 666) (by decide +kernel)) rfl, ts_in (List.mem_of_getElem? (i := 36) (by decide +kernel)) rfl⟩
abbrev mX6_walk : MD := (yX6_walk, cX6_walk, 4, none, { frames := 3, cells := 0, slots := 0, locals := 75 })
theorem M_X6_walk : Mv mX6_walk 1 := ⟨⟨ts_in (List.mem_of_getElem? (i := 679) (by decide +kernel)) rfl, ts_in (List.mem_of_getElem? (i := 72) (by decide +kernel)) rfl, ⟨by decide +kernel, by decide +kernel⟩, by decide +kernel, rfl, rfl⟩, ts_in (List.mem_of_getElem? (i := 678) (by decide +kernel)) rfl, ts_in (List.mem_of_getElem? (i := 37) (by decide +kernel)) rfl⟩
abbrev mX6_goOnFrom : MD := (yX6_goOnFrom, cX6_goOnFrom, 9, none, { frames := 2, cells := 0, slots := 0, locals := 47 })
theorem M_X6_goOnFrom : Mv mX6_goOnFrom 3 := ⟨⟨ts_in (List.mem_of_getElem? (i := 689) (by decide +kernel)) rfl, ts_in (List.mem_of_getElem? (i := 72) (by decide +kernel)) rfl, ⟨by decide +kernel, by decide +kernel⟩, by decide +kernel, rfl, rfl⟩, ts_in (List.mem_of_getElem? (i := 688) (by decide +kernel)) rfl, ts_in (List.mem_of_getElem? (i := 39) (by decide +kernel)) rfl⟩
abbrev mX6_arrive : MD := (yX6_arrive, cX6_arrive, 5, none, { frames := 1, cells := 0, slots := 0, locals := 23 })
theorem M_X6_arrive : Mv mX6_arrive 3 := ⟨⟨ts_in (List.mem_of_getElem? (i := 698) (by decide +kernel)) rfl, ts_in (List.mem_of_getElem? (i := 72) (by decide +kernel)) rfl, ⟨by decide +kernel, by decide +kernel⟩, by decide +kernel, rfl, rfl⟩, ts_in (List.mem_of_getElem? (i := 697) (by decide +kernel)) rfl, ts_in (List.mem_of_getElem? (i := 41) (by decide +kernel)) rfl⟩
abbrev mX6_placeAtEnd : MD := (yX6_placeAtEnd, cX6_placeAtEnd, 4, (some .int), { frames := 0, cells := 0, slots := 0, locals := 0 })
theorem M_X6_placeAtEnd : Mv mX6_placeAtEnd 3 := ⟨⟨ts_in (List.mem_of_getElem? (i := 693) (by decide +kernel)) rfl, ts_in (List.mem_of_getElem? (i := 72) (by decide +kernel)) rfl, ⟨by decide +kernel, by decide +kernel⟩, by decide +kernel, rfl, rfl⟩, ts_in (List.mem_of_getElem? (i := 692) (by decide +kernel)) rfl, ts_in (List.mem_of_getElem? (i := 40) (by decide +kernel)) rfl⟩
abbrev mX6_cellOf : MD := (yX6_cellOf, cX6_cellOf, 5, (some .int), { frames := 0, cells := 0, slots := 0, locals := 0 })
theorem M_X6_cellOf : Mv mX6_cellOf 4 := ⟨⟨ts_in (List.mem_of_getElem? (i := 685) (by decide +kernel)) rfl, ts_in (List.mem_of_getElem? (i := 72) (by decide +kernel)) rfl, ⟨by decide +kernel, by decide +kernel⟩, by decide +kernel, rfl, rfl⟩, ts_in (List.mem_of_getElem? (i := 684) (by decide +kernel)) rfl, ts_in (List.mem_of_getElem? (i := 38) (by decide +kernel)) rfl⟩
abbrev mX6_mostMet : MD := (yX6_mostMet, cX6_mostMet, 3, (some .int), { frames := 0, cells := 0, slots := 0, locals := 0 })
theorem M_X6_mostMet : Mv mX6_mostMet 0 := ⟨⟨ts_in (List.mem_of_getElem? (i := 702) (by decide +kernel)) rfl, ts_in (List.mem_of_getElem? (i := 72) (by decide +kernel)) rfl, ⟨by decide +kernel, by decide +kernel⟩, by decide +kernel, rfl, rfl⟩, ts_in (List.mem_of_getElem? (i := 701) (by decide +kernel)) rfl, ts_in (List.mem_of_getElem? (i := 42) (by decide +kernel)) rfl⟩
abbrev mX6_firstHourWith : MD := (yX6_firstHourWith, cX6_firstHourWith, 4, (some .int), { frames := 1, cells := 0, slots := 0, locals := 23 })
theorem M_X6_firstHourWith : Mv mX6_firstHourWith 1 := ⟨⟨ts_in (List.mem_of_getElem? (i := 710) (by decide +kernel)) rfl, ts_in (List.mem_of_getElem? (i := 72) (by decide +kernel)) rfl, ⟨by decide +kernel, by decide +kernel⟩, by decide +kernel, rfl, rfl⟩, ts_in (List.mem_of_getElem? (i := 709) (by decide +kernel)) rfl, ts_in (List.mem_of_getElem? (i := 43) (by decide +kernel)) rfl⟩
abbrev mX7_append : MD := (yX7_append, cX7_append, 3, none, { frames := 0, cells := 0, slots := 0, locals := 0 })
theorem M_X7_append : Mv mX7_append 1 := ⟨⟨ts_in (List.mem_of_getElem? (i := 440) (by decide +kernel)) rfl, ts_in (List.mem_of_getElem? (i := 69) (by decide +kernel)) rfl, ⟨by decide +kernel, by decide +kernel⟩, by decide +kernel, rfl, rfl⟩, ts_in (List.mem_of_getElem? (i := 439) (by decide +kernel)) rfl, ts_in (List.mem_of_getElem? (i := 8) (by decide +kernel)) rfl⟩
abbrev mX8_reset : MD := (yX8_reset, cX8_reset, 1, none, { frames := 1, cells := 0, slots := 0, locals := 23 })
theorem M_X8_reset : Mv mX8_reset 0 := ⟨⟨ts_in (List.mem_of_getElem? (i := 304) (by decide +kernel)) rfl, ts_in (List.mem_of_getElem? (i := 73) (by decide +kernel)) rfl, ⟨by decide +kernel, by decide +kernel⟩, by decide +kernel, rfl, rfl⟩, ts_in (List.mem_of_getElem? (i := 303) (by decide +kernel)) rfl, ts_in (List.mem_of_getElem? (i := 0) (by decide +kernel)) rfl⟩
abbrev mX8_setShare : MD := (yX8_setShare, cX8_setShare, 4, none, { frames := 0, cells := 0, slots := 0, locals := 0 })
theorem M_X8_setShare : Mv mX8_setShare 3 := ⟨⟨ts_in (List.mem_of_getElem? (i := 311) (by decide +kernel)) rfl, ts_in (List.mem_of_getElem? (i := 73) (by decide +kernel)) rfl, ⟨by decide +kernel, by decide +kernel⟩, by decide +kernel, rfl, rfl⟩, ts_in (List.mem_of_getElem? (i := 310) (by decide +kernel)) rfl, ts_in (List.mem_of_getElem? (i := 1) (by decide +kernel)) rfl⟩
abbrev mX8_shareOf : MD := (yX8_shareOf, cX8_shareOf, 4, (some .long), { frames := 0, cells := 0, slots := 0, locals := 0 })
theorem M_X8_shareOf : Mv mX8_shareOf 2 := ⟨⟨ts_in (List.mem_of_getElem? (i := 587) (by decide +kernel)) rfl, ts_in (List.mem_of_getElem? (i := 73) (by decide +kernel)) rfl, ⟨by decide +kernel, by decide +kernel⟩, by decide +kernel, rfl, rfl⟩, ts_in (List.mem_of_getElem? (i := 586) (by decide +kernel)) rfl, ts_in (List.mem_of_getElem? (i := 22) (by decide +kernel)) rfl⟩
abbrev mX9_farmer : MD := (yX9_farmer, cX9_farmer, 4, (some .int), { frames := 1, cells := 0, slots := 0, locals := 23 })
theorem M_X9_farmer : Mv mX9_farmer 3 := ⟨⟨ts_in (List.mem_of_getElem? (i := 396) (by decide +kernel)) rfl, ts_in (List.mem_of_getElem? (i := 65) (by decide +kernel)) rfl, ⟨by decide +kernel, by decide +kernel⟩, by decide +kernel, rfl, rfl⟩, ts_in (List.mem_of_getElem? (i := 394) (by decide +kernel)) rfl, ts_in (List.mem_of_getElem? (i := 395) (by decide +kernel)) rfl⟩
abbrev mX9_credit : MD := (yX9_credit, cX9_credit, 4, (some .int), { frames := 2, cells := 0, slots := 0, locals := 43 })
theorem M_X9_credit : Mv mX9_credit 3 := ⟨⟨ts_in (List.mem_of_getElem? (i := 415) (by decide +kernel)) rfl, ts_in (List.mem_of_getElem? (i := 65) (by decide +kernel)) rfl, ⟨by decide +kernel, by decide +kernel⟩, by decide +kernel, rfl, rfl⟩, ts_in (List.mem_of_getElem? (i := 413) (by decide +kernel)) rfl, ts_in (List.mem_of_getElem? (i := 414) (by decide +kernel)) rfl⟩
abbrev mX9_basket : MD := (yX9_basket, cX9_basket, 5, (some .int), { frames := 2, cells := 0, slots := 0, locals := 43 })
theorem M_X9_basket : Mv mX9_basket 4 := ⟨⟨ts_in (List.mem_of_getElem? (i := 428) (by decide +kernel)) rfl, ts_in (List.mem_of_getElem? (i := 65) (by decide +kernel)) rfl, ⟨by decide +kernel, by decide +kernel⟩, by decide +kernel, rfl, rfl⟩, ts_in (List.mem_of_getElem? (i := 426) (by decide +kernel)) rfl, ts_in (List.mem_of_getElem? (i := 427) (by decide +kernel)) rfl⟩
abbrev mX9_feed : MD := (yX9_feed, cX9_feed, 6, (some .int), { frames := 1, cells := 0, slots := 0, locals := 22 })
theorem M_X9_feed : Mv mX9_feed 5 := ⟨⟨ts_in (List.mem_of_getElem? (i := 436) (by decide +kernel)) rfl, ts_in (List.mem_of_getElem? (i := 65) (by decide +kernel)) rfl, ⟨by decide +kernel, by decide +kernel⟩, by decide +kernel, rfl, rfl⟩, ts_in (List.mem_of_getElem? (i := 434) (by decide +kernel)) rfl, ts_in (List.mem_of_getElem? (i := 435) (by decide +kernel)) rfl⟩
abbrev mX9_end : MD := (yX9_end, cX9_end, 2, (some .int), { frames := 1, cells := 0, slots := 0, locals := 22 })
theorem M_X9_end : Mv mX9_end 1 := ⟨⟨ts_in (List.mem_of_getElem? (i := 444) (by decide +kernel)) rfl, ts_in (List.mem_of_getElem? (i := 65) (by decide +kernel)) rfl, ⟨by decide +kernel, by decide +kernel⟩, by decide +kernel, rfl, rfl⟩, ts_in (List.mem_of_getElem? (i := 442) (by decide +kernel)) rfl, ts_in (List.mem_of_getElem? (i := 443) (by decide +kernel)) rfl⟩
abbrev mX9_contract : MD := (yX9_contract, cX9_contract, 2, (some .int), { frames := 8, cells := 0, slots := 0, locals := 172 })
theorem M_X9_contract : Mv mX9_contract 0 := ⟨⟨ts_in (List.mem_of_getElem? (i := 448) (by decide +kernel)) rfl, ts_in (List.mem_of_getElem? (i := 65) (by decide +kernel)) rfl, ⟨by decide +kernel, by decide +kernel⟩, by decide +kernel, rfl, rfl⟩, ts_in (List.mem_of_getElem? (i := 446) (by decide +kernel)) rfl, ts_in (List.mem_of_getElem? (i := 447) (by decide +kernel)) rfl⟩
abbrev mX9_fault : MD := (yX9_fault, cX9_fault, 1, (some .int), { frames := 0, cells := 0, slots := 0, locals := 0 })
theorem M_X9_fault : Mv mX9_fault 0 := ⟨⟨ts_in (List.mem_of_getElem? (i := 557) (by decide +kernel)) rfl, ts_in (List.mem_of_getElem? (i := 65) (by decide +kernel)) rfl, ⟨by decide +kernel, by decide +kernel⟩, by decide +kernel, rfl, rfl⟩, ts_in (List.mem_of_getElem? (i := 555) (by decide +kernel)) rfl, ts_in (List.mem_of_getElem? (i := 556) (by decide +kernel)) rfl⟩
abbrev mX9_of : MD := (yX9_of, cX9_of, 4, (some .long), { frames := 5, cells := 0, slots := 0, locals := 124 })
theorem M_X9_of : Mv mX9_of 3 := ⟨⟨ts_in (List.mem_of_getElem? (i := 561) (by decide +kernel)) rfl, ts_in (List.mem_of_getElem? (i := 65) (by decide +kernel)) rfl, ⟨by decide +kernel, by decide +kernel⟩, by decide +kernel, rfl, rfl⟩, ts_in (List.mem_of_getElem? (i := 559) (by decide +kernel)) rfl, ts_in (List.mem_of_getElem? (i := 560) (by decide +kernel)) rfl⟩
abbrev mX9_group : MD := (yX9_group, cX9_group, 4, (some .long), { frames := 5, cells := 0, slots := 0, locals := 124 })
theorem M_X9_group : Mv mX9_group 3 := ⟨⟨ts_in (List.mem_of_getElem? (i := 643) (by decide +kernel)) rfl, ts_in (List.mem_of_getElem? (i := 65) (by decide +kernel)) rfl, ⟨by decide +kernel, by decide +kernel⟩, by decide +kernel, rfl, rfl⟩, ts_in (List.mem_of_getElem? (i := 641) (by decide +kernel)) rfl, ts_in (List.mem_of_getElem? (i := 642) (by decide +kernel)) rfl⟩
abbrev mX9_bears : MD := (yX9_bears, cX9_bears, 3, (some .int), { frames := 1, cells := 0, slots := 0, locals := 22 })
theorem M_X9_bears : Mv mX9_bears 1 := ⟨⟨ts_in (List.mem_of_getElem? (i := 651) (by decide +kernel)) rfl, ts_in (List.mem_of_getElem? (i := 65) (by decide +kernel)) rfl, ⟨by decide +kernel, by decide +kernel⟩, by decide +kernel, rfl, rfl⟩, ts_in (List.mem_of_getElem? (i := 649) (by decide +kernel)) rfl, ts_in (List.mem_of_getElem? (i := 650) (by decide +kernel)) rfl⟩
abbrev mX9_drought : MD := (yX9_drought, cX9_drought, 4, (some .int), { frames := 1, cells := 0, slots := 0, locals := 23 })
theorem M_X9_drought : Mv mX9_drought 3 := ⟨⟨ts_in (List.mem_of_getElem? (i := 655) (by decide +kernel)) rfl, ts_in (List.mem_of_getElem? (i := 65) (by decide +kernel)) rfl, ⟨by decide +kernel, by decide +kernel⟩, by decide +kernel, rfl, rfl⟩, ts_in (List.mem_of_getElem? (i := 653) (by decide +kernel)) rfl, ts_in (List.mem_of_getElem? (i := 654) (by decide +kernel)) rfl⟩
abbrev mX9_visit : MD := (yX9_visit, cX9_visit, 3, (some .int), { frames := 2, cells := 0, slots := 0, locals := 43 })
theorem M_X9_visit : Mv mX9_visit 2 := ⟨⟨ts_in (List.mem_of_getElem? (i := 663) (by decide +kernel)) rfl, ts_in (List.mem_of_getElem? (i := 65) (by decide +kernel)) rfl, ⟨by decide +kernel, by decide +kernel⟩, by decide +kernel, rfl, rfl⟩, ts_in (List.mem_of_getElem? (i := 661) (by decide +kernel)) rfl, ts_in (List.mem_of_getElem? (i := 662) (by decide +kernel)) rfl⟩
abbrev mX9_clear : MD := (yX9_clear, cX9_clear, 2, (some .int), { frames := 0, cells := 0, slots := 0, locals := 0 })
theorem M_X9_clear : Mv mX9_clear 0 := ⟨⟨ts_in (List.mem_of_getElem? (i := 671) (by decide +kernel)) rfl, ts_in (List.mem_of_getElem? (i := 65) (by decide +kernel)) rfl, ⟨by decide +kernel, by decide +kernel⟩, by decide +kernel, rfl, rfl⟩, ts_in (List.mem_of_getElem? (i := 669) (by decide +kernel)) rfl, ts_in (List.mem_of_getElem? (i := 670) (by decide +kernel)) rfl⟩
abbrev mX9_most : MD := (yX9_most, cX9_most, 2, (some .int), { frames := 4, cells := 0, slots := 0, locals := 98 })
theorem M_X9_most : Mv mX9_most 1 := ⟨⟨ts_in (List.mem_of_getElem? (i := 675) (by decide +kernel)) rfl, ts_in (List.mem_of_getElem? (i := 65) (by decide +kernel)) rfl, ⟨by decide +kernel, by decide +kernel⟩, by decide +kernel, rfl, rfl⟩, ts_in (List.mem_of_getElem? (i := 673) (by decide +kernel)) rfl, ts_in (List.mem_of_getElem? (i := 674) (by decide +kernel)) rfl⟩
abbrev mX9_least : MD := (yX9_least, cX9_least, 4, (some .int), { frames := 4, cells := 0, slots := 0, locals := 98 })
theorem M_X9_least : Mv mX9_least 2 := ⟨⟨ts_in (List.mem_of_getElem? (i := 706) (by decide +kernel)) rfl, ts_in (List.mem_of_getElem? (i := 65) (by decide +kernel)) rfl, ⟨by decide +kernel, by decide +kernel⟩, by decide +kernel, rfl, rfl⟩, ts_in (List.mem_of_getElem? (i := 704) (by decide +kernel)) rfl, ts_in (List.mem_of_getElem? (i := 705) (by decide +kernel)) rfl⟩
abbrev mX9_led : MD := (yX9_led, cX9_led, 3, (some .int), { frames := 1, cells := 0, slots := 0, locals := 24 })
theorem M_X9_led : Mv mX9_led 2 := ⟨⟨ts_in (List.mem_of_getElem? (i := 715) (by decide +kernel)) rfl, ts_in (List.mem_of_getElem? (i := 65) (by decide +kernel)) rfl, ⟨by decide +kernel, by decide +kernel⟩, by decide +kernel, rfl, rfl⟩, ts_in (List.mem_of_getElem? (i := 713) (by decide +kernel)) rfl, ts_in (List.mem_of_getElem? (i := 714) (by decide +kernel)) rfl⟩
abbrev mX9_count : MD := (yX9_count, cX9_count, 2, (some .int), { frames := 0, cells := 0, slots := 0, locals := 0 })
theorem M_X9_count : Mv mX9_count 1 := ⟨⟨ts_in (List.mem_of_getElem? (i := 723) (by decide +kernel)) rfl, ts_in (List.mem_of_getElem? (i := 65) (by decide +kernel)) rfl, ⟨by decide +kernel, by decide +kernel⟩, by decide +kernel, rfl, rfl⟩, ts_in (List.mem_of_getElem? (i := 721) (by decide +kernel)) rfl, ts_in (List.mem_of_getElem? (i := 722) (by decide +kernel)) rfl⟩
abbrev mX9_status : MD := (yX9_status, cX9_status, 1, (some .int), { frames := 0, cells := 0, slots := 0, locals := 0 })
theorem M_X9_status : Mv mX9_status 0 := ⟨⟨ts_in (List.mem_of_getElem? (i := 727) (by decide +kernel)) rfl, ts_in (List.mem_of_getElem? (i := 65) (by decide +kernel)) rfl, ⟨by decide +kernel, by decide +kernel⟩, by decide +kernel, rfl, rfl⟩, ts_in (List.mem_of_getElem? (i := 725) (by decide +kernel)) rfl, ts_in (List.mem_of_getElem? (i := 726) (by decide +kernel)) rfl⟩
abbrev mX9_refuse : MD := (yX9_refuse, cX9_refuse, 2, (some .int), { frames := 0, cells := 0, slots := 0, locals := 0 })
theorem M_X9_refuse : Mv mX9_refuse 1 := ⟨⟨ts_in (List.mem_of_getElem? (i := 403) (by decide +kernel)) rfl, ts_in (List.mem_of_getElem? (i := 65) (by decide +kernel)) rfl, ⟨by decide +kernel, by decide +kernel⟩, by decide +kernel, rfl, rfl⟩, ts_in (List.mem_of_getElem? (i := 402) (by decide +kernel)) rfl, ts_in (List.mem_of_getElem? (i := 2) (by decide +kernel)) rfl⟩
abbrev mX9_accept : MD := (yX9_accept, cX9_accept, 2, (some .int), { frames := 0, cells := 0, slots := 0, locals := 0 })
theorem M_X9_accept : Mv mX9_accept 1 := ⟨⟨ts_in (List.mem_of_getElem? (i := 411) (by decide +kernel)) rfl, ts_in (List.mem_of_getElem? (i := 65) (by decide +kernel)) rfl, ⟨by decide +kernel, by decide +kernel⟩, by decide +kernel, rfl, rfl⟩, ts_in (List.mem_of_getElem? (i := 410) (by decide +kernel)) rfl, ts_in (List.mem_of_getElem? (i := 4) (by decide +kernel)) rfl⟩
abbrev mX9_isNoFarmer : MD := (yX9_isNoFarmer, cX9_isNoFarmer, 2, (some .boolean), { frames := 1, cells := 0, slots := 0, locals := 22 })
theorem M_X9_isNoFarmer : Mv mX9_isNoFarmer 1 := ⟨⟨ts_in (List.mem_of_getElem? (i := 420) (by decide +kernel)) rfl, ts_in (List.mem_of_getElem? (i := 65) (by decide +kernel)) rfl, ⟨by decide +kernel, by decide +kernel⟩, by decide +kernel, rfl, rfl⟩, ts_in (List.mem_of_getElem? (i := 419) (by decide +kernel)) rfl, ts_in (List.mem_of_getElem? (i := 5) (by decide +kernel)) rfl⟩
abbrev mX9_foretold : MD := (yX9_foretold, cX9_foretold, 2, (some .long), { frames := 2, cells := 0, slots := 0, locals := 44 })
theorem M_X9_foretold : Mv mX9_foretold 1 := ⟨⟨ts_in (List.mem_of_getElem? (i := 625) (by decide +kernel)) rfl, ts_in (List.mem_of_getElem? (i := 65) (by decide +kernel)) rfl, ⟨by decide +kernel, by decide +kernel⟩, by decide +kernel, rfl, rfl⟩, ts_in (List.mem_of_getElem? (i := 624) (by decide +kernel)) rfl, ts_in (List.mem_of_getElem? (i := 30) (by decide +kernel)) rfl⟩
abbrev mX9_isShort : MD := (yX9_isShort, cX9_isShort, 2, (some .boolean), { frames := 3, cells := 0, slots := 0, locals := 65 })
theorem M_X9_isShort : Mv mX9_isShort 1 := ⟨⟨ts_in (List.mem_of_getElem? (i := 638) (by decide +kernel)) rfl, ts_in (List.mem_of_getElem? (i := 65) (by decide +kernel)) rfl, ⟨by decide +kernel, by decide +kernel⟩, by decide +kernel, rfl, rfl⟩, ts_in (List.mem_of_getElem? (i := 637) (by decide +kernel)) rfl, ts_in (List.mem_of_getElem? (i := 33) (by decide +kernel)) rfl⟩
abbrev mX9_outside : MD := (yX9_outside, cX9_outside, 3, (some .boolean), { frames := 0, cells := 0, slots := 0, locals := 0 })
theorem M_X9_outside : Ms mX9_outside 3 := ⟨⟨ts_in (List.mem_of_getElem? (i := 399) (by decide +kernel)) rfl, ts_in (List.mem_of_getElem? (i := 65) (by decide +kernel)) rfl, ⟨by decide +kernel, by decide +kernel⟩, by decide +kernel, rfl, rfl⟩, ts_in (List.mem_of_getElem? (i := 398) (by decide +kernel)) rfl⟩
abbrev mX10_in : MD := (yX10_in, cX10_in, 6, (some .boolean), { frames := 0, cells := 0, slots := 0, locals := 0 })
theorem M_X10_in : Ms mX10_in 3 := ⟨⟨ts_in (List.mem_of_getElem? (i := 901) (by decide +kernel)) rfl, ts_in (List.mem_of_getElem? (i := 76) (by decide +kernel)) rfl, ⟨by decide +kernel, by decide +kernel⟩, by decide +kernel, rfl, rfl⟩, ts_in (List.mem_of_getElem? (i := 900) (by decide +kernel)) rfl⟩
abbrev mX10_told : MD := (yX10_told, cX10_told, 2, (some .int), { frames := 0, cells := 0, slots := 0, locals := 0 })
theorem M_X10_told : Mv mX10_told 1 := ⟨⟨ts_in (List.mem_of_getElem? (i := 907) (by decide +kernel)) rfl, ts_in (List.mem_of_getElem? (i := 76) (by decide +kernel)) rfl, ⟨by decide +kernel, by decide +kernel⟩, by decide +kernel, rfl, rfl⟩, ts_in (List.mem_of_getElem? (i := 906) (by decide +kernel)) rfl, ts_in (List.mem_of_getElem? (i := 45) (by decide +kernel)) rfl⟩
abbrev mX10_isDay : MD := (yX10_isDay, cX10_isDay, 1, (some .boolean), { frames := 1, cells := 0, slots := 0, locals := 25 })
theorem M_X10_isDay : Ms mX10_isDay 1 := ⟨⟨ts_in (List.mem_of_getElem? (i := 915) (by decide +kernel)) rfl, ts_in (List.mem_of_getElem? (i := 76) (by decide +kernel)) rfl, ⟨by decide +kernel, by decide +kernel⟩, by decide +kernel, rfl, rfl⟩, ts_in (List.mem_of_getElem? (i := 914) (by decide +kernel)) rfl⟩
abbrev mX10_isFarmer : MD := (yX10_isFarmer, cX10_isFarmer, 2, (some .boolean), { frames := 1, cells := 0, slots := 0, locals := 25 })
theorem M_X10_isFarmer : Mv mX10_isFarmer 1 := ⟨⟨ts_in (List.mem_of_getElem? (i := 920) (by decide +kernel)) rfl, ts_in (List.mem_of_getElem? (i := 76) (by decide +kernel)) rfl, ⟨by decide +kernel, by decide +kernel⟩, by decide +kernel, rfl, rfl⟩, ts_in (List.mem_of_getElem? (i := 919) (by decide +kernel)) rfl, ts_in (List.mem_of_getElem? (i := 46) (by decide +kernel)) rfl⟩
abbrev mX10_farmer : MD := (yX10_farmer, cX10_farmer, 4, (some .int), { frames := 1, cells := 0, slots := 0, locals := 25 })
theorem M_X10_farmer : Mv mX10_farmer 3 := ⟨⟨ts_in (List.mem_of_getElem? (i := 897) (by decide +kernel)) rfl, ts_in (List.mem_of_getElem? (i := 76) (by decide +kernel)) rfl, ⟨by decide +kernel, by decide +kernel⟩, by decide +kernel, rfl, rfl⟩, ts_in (List.mem_of_getElem? (i := 895) (by decide +kernel)) rfl, ts_in (List.mem_of_getElem? (i := 896) (by decide +kernel)) rfl⟩
abbrev mX10_credit : MD := (yX10_credit, cX10_credit, 4, (some .int), { frames := 2, cells := 0, slots := 0, locals := 46 })
theorem M_X10_credit : Mv mX10_credit 3 := ⟨⟨ts_in (List.mem_of_getElem? (i := 911) (by decide +kernel)) rfl, ts_in (List.mem_of_getElem? (i := 76) (by decide +kernel)) rfl, ⟨by decide +kernel, by decide +kernel⟩, by decide +kernel, rfl, rfl⟩, ts_in (List.mem_of_getElem? (i := 909) (by decide +kernel)) rfl, ts_in (List.mem_of_getElem? (i := 910) (by decide +kernel)) rfl⟩
abbrev mX10_basket : MD := (yX10_basket, cX10_basket, 5, (some .int), { frames := 2, cells := 0, slots := 0, locals := 46 })
theorem M_X10_basket : Mv mX10_basket 4 := ⟨⟨ts_in (List.mem_of_getElem? (i := 924) (by decide +kernel)) rfl, ts_in (List.mem_of_getElem? (i := 76) (by decide +kernel)) rfl, ⟨by decide +kernel, by decide +kernel⟩, by decide +kernel, rfl, rfl⟩, ts_in (List.mem_of_getElem? (i := 922) (by decide +kernel)) rfl, ts_in (List.mem_of_getElem? (i := 923) (by decide +kernel)) rfl⟩
abbrev mX10_four : MD := (yX10_four, cX10_four, 3, none, { frames := 0, cells := 0, slots := 0, locals := 0 })
theorem M_X10_four : Mv mX10_four 1 := ⟨⟨ts_in (List.mem_of_getElem? (i := 933) (by decide +kernel)) rfl, ts_in (List.mem_of_getElem? (i := 76) (by decide +kernel)) rfl, ⟨by decide +kernel, by decide +kernel⟩, by decide +kernel, rfl, rfl⟩, ts_in (List.mem_of_getElem? (i := 932) (by decide +kernel)) rfl, ts_in (List.mem_of_getElem? (i := 47) (by decide +kernel)) rfl⟩
abbrev mX10_feed : MD := (yX10_feed, cX10_feed, 6, (some .int), { frames := 1, cells := 0, slots := 0, locals := 22 })
theorem M_X10_feed : Mv mX10_feed 5 := ⟨⟨ts_in (List.mem_of_getElem? (i := 929) (by decide +kernel)) rfl, ts_in (List.mem_of_getElem? (i := 76) (by decide +kernel)) rfl, ⟨by decide +kernel, by decide +kernel⟩, by decide +kernel, rfl, rfl⟩, ts_in (List.mem_of_getElem? (i := 927) (by decide +kernel)) rfl, ts_in (List.mem_of_getElem? (i := 928) (by decide +kernel)) rfl⟩
abbrev mX10_end : MD := (yX10_end, cX10_end, 2, (some .int), { frames := 0, cells := 0, slots := 0, locals := 0 })
theorem M_X10_end : Mv mX10_end 1 := ⟨⟨ts_in (List.mem_of_getElem? (i := 937) (by decide +kernel)) rfl, ts_in (List.mem_of_getElem? (i := 76) (by decide +kernel)) rfl, ⟨by decide +kernel, by decide +kernel⟩, by decide +kernel, rfl, rfl⟩, ts_in (List.mem_of_getElem? (i := 935) (by decide +kernel)) rfl, ts_in (List.mem_of_getElem? (i := 936) (by decide +kernel)) rfl⟩
abbrev mX10_isSmall : MD := (yX10_isSmall, cX10_isSmall, 1, (some .boolean), { frames := 0, cells := 0, slots := 0, locals := 0 })
theorem M_X10_isSmall : Ms mX10_isSmall 1 := ⟨⟨ts_in (List.mem_of_getElem? (i := 948) (by decide +kernel)) rfl, ts_in (List.mem_of_getElem? (i := 76) (by decide +kernel)) rfl, ⟨by decide +kernel, by decide +kernel⟩, by decide +kernel, rfl, rfl⟩, ts_in (List.mem_of_getElem? (i := 947) (by decide +kernel)) rfl⟩
abbrev mX10_isDigit : MD := (yX10_isDigit, cX10_isDigit, 1, (some .boolean), { frames := 0, cells := 0, slots := 0, locals := 0 })
theorem M_X10_isDigit : Ms mX10_isDigit 1 := ⟨⟨ts_in (List.mem_of_getElem? (i := 951) (by decide +kernel)) rfl, ts_in (List.mem_of_getElem? (i := 76) (by decide +kernel)) rfl, ⟨by decide +kernel, by decide +kernel⟩, by decide +kernel, rfl, rfl⟩, ts_in (List.mem_of_getElem? (i := 950) (by decide +kernel)) rfl⟩
abbrev mX10_next : MD := (yX10_next, cX10_next, 1, none, { frames := 1, cells := 0, slots := 0, locals := 20 })
theorem M_X10_next : Mv mX10_next 0 := ⟨⟨ts_in (List.mem_of_getElem? (i := 945) (by decide +kernel)) rfl, ts_in (List.mem_of_getElem? (i := 76) (by decide +kernel)) rfl, ⟨by decide +kernel, by decide +kernel⟩, by decide +kernel, rfl, rfl⟩, ts_in (List.mem_of_getElem? (i := 944) (by decide +kernel)) rfl, ts_in (List.mem_of_getElem? (i := 48) (by decide +kernel)) rfl⟩
abbrev mX10_isWord : MD := (yX10_isWord, cX10_isWord, 8, (some .boolean), { frames := 0, cells := 0, slots := 0, locals := 0 })
theorem M_X10_isWord : Mv mX10_isWord 5 := ⟨⟨ts_in (List.mem_of_getElem? (i := 965) (by decide +kernel)) rfl, ts_in (List.mem_of_getElem? (i := 76) (by decide +kernel)) rfl, ⟨by decide +kernel, by decide +kernel⟩, by decide +kernel, rfl, rfl⟩, ts_in (List.mem_of_getElem? (i := 964) (by decide +kernel)) rfl, ts_in (List.mem_of_getElem? (i := 50) (by decide +kernel)) rfl⟩
abbrev mX10_must : MD := (yX10_must, cX10_must, 2, none, { frames := 2, cells := 0, slots := 0, locals := 40 })
theorem M_X10_must : Mv mX10_must 1 := ⟨⟨ts_in (List.mem_of_getElem? (i := 973) (by decide +kernel)) rfl, ts_in (List.mem_of_getElem? (i := 76) (by decide +kernel)) rfl, ⟨by decide +kernel, by decide +kernel⟩, by decide +kernel, rfl, rfl⟩, ts_in (List.mem_of_getElem? (i := 972) (by decide +kernel)) rfl, ts_in (List.mem_of_getElem? (i := 52) (by decide +kernel)) rfl⟩
abbrev mX10_number : MD := (yX10_number, cX10_number, 6, (some .int), { frames := 3, cells := 0, slots := 0, locals := 61 })
theorem M_X10_number : Mv mX10_number 2 := ⟨⟨ts_in (List.mem_of_getElem? (i := 977) (by decide +kernel)) rfl, ts_in (List.mem_of_getElem? (i := 76) (by decide +kernel)) rfl, ⟨by decide +kernel, by decide +kernel⟩, by decide +kernel, rfl, rfl⟩, ts_in (List.mem_of_getElem? (i := 976) (by decide +kernel)) rfl, ts_in (List.mem_of_getElem? (i := 53) (by decide +kernel)) rfl⟩
abbrev mX10_partAt : MD := (yX10_partAt, cX10_partAt, 1, (some .int), { frames := 1, cells := 0, slots := 0, locals := 27 })
theorem M_X10_partAt : Mv mX10_partAt 0 := ⟨⟨ts_in (List.mem_of_getElem? (i := 969) (by decide +kernel)) rfl, ts_in (List.mem_of_getElem? (i := 76) (by decide +kernel)) rfl, ⟨by decide +kernel, by decide +kernel⟩, by decide +kernel, rfl, rfl⟩, ts_in (List.mem_of_getElem? (i := 968) (by decide +kernel)) rfl, ts_in (List.mem_of_getElem? (i := 51) (by decide +kernel)) rfl⟩
abbrev mX10_readClause : MD := (yX10_readClause, cX10_readClause, 7, none, { frames := 4, cells := 0, slots := 0, locals := 86 })
theorem M_X10_readClause : Mv mX10_readClause 0 := ⟨⟨ts_in (List.mem_of_getElem? (i := 961) (by decide +kernel)) rfl, ts_in (List.mem_of_getElem? (i := 76) (by decide +kernel)) rfl, ⟨by decide +kernel, by decide +kernel⟩, by decide +kernel, rfl, rfl⟩, ts_in (List.mem_of_getElem? (i := 960) (by decide +kernel)) rfl, ts_in (List.mem_of_getElem? (i := 49) (by decide +kernel)) rfl⟩
abbrev mX10_contract : MD := (yX10_contract, cX10_contract, 2, (some .int), { frames := 5, cells := 0, slots := 0, locals := 112 })
theorem M_X10_contract : Mv mX10_contract 0 := ⟨⟨ts_in (List.mem_of_getElem? (i := 941) (by decide +kernel)) rfl, ts_in (List.mem_of_getElem? (i := 76) (by decide +kernel)) rfl, ⟨by decide +kernel, by decide +kernel⟩, by decide +kernel, rfl, rfl⟩, ts_in (List.mem_of_getElem? (i := 939) (by decide +kernel)) rfl, ts_in (List.mem_of_getElem? (i := 940) (by decide +kernel)) rfl⟩
abbrev mX10_fault : MD := (yX10_fault, cX10_fault, 1, (some .int), { frames := 0, cells := 0, slots := 0, locals := 0 })
theorem M_X10_fault : Mv mX10_fault 0 := ⟨⟨ts_in (List.mem_of_getElem? (i := 982) (by decide +kernel)) rfl, ts_in (List.mem_of_getElem? (i := 76) (by decide +kernel)) rfl, ⟨by decide +kernel, by decide +kernel⟩, by decide +kernel, rfl, rfl⟩, ts_in (List.mem_of_getElem? (i := 980) (by decide +kernel)) rfl, ts_in (List.mem_of_getElem? (i := 981) (by decide +kernel)) rfl⟩
abbrev mX10_partOf : MD := (yX10_partOf, cX10_partOf, 4, (some .long), { frames := 0, cells := 0, slots := 0, locals := 0 })
theorem M_X10_partOf : Mv mX10_partOf 2 := ⟨⟨ts_in (List.mem_of_getElem? (i := 1004) (by decide +kernel)) rfl, ts_in (List.mem_of_getElem? (i := 76) (by decide +kernel)) rfl, ⟨by decide +kernel, by decide +kernel⟩, by decide +kernel, rfl, rfl⟩, ts_in (List.mem_of_getElem? (i := 1003) (by decide +kernel)) rfl, ts_in (List.mem_of_getElem? (i := 55) (by decide +kernel)) rfl⟩
abbrev mX10_reckon : MD := (yX10_reckon, cX10_reckon, 6, none, { frames := 2, cells := 0, slots := 0, locals := 62 })
theorem M_X10_reckon : Mv mX10_reckon 1 := ⟨⟨ts_in (List.mem_of_getElem? (i := 999) (by decide +kernel)) rfl, ts_in (List.mem_of_getElem? (i := 76) (by decide +kernel)) rfl, ⟨by decide +kernel, by decide +kernel⟩, by decide +kernel, rfl, rfl⟩, ts_in (List.mem_of_getElem? (i := 998) (by decide +kernel)) rfl, ts_in (List.mem_of_getElem? (i := 54) (by decide +kernel)) rfl⟩
abbrev mX10_givenAt : MD := (yX10_givenAt, cX10_givenAt, 7, (some .long), { frames := 0, cells := 0, slots := 0, locals := 0 })
theorem M_X10_givenAt : Mv mX10_givenAt 2 := ⟨⟨ts_in (List.mem_of_getElem? (i := 1013) (by decide +kernel)) rfl, ts_in (List.mem_of_getElem? (i := 76) (by decide +kernel)) rfl, ⟨by decide +kernel, by decide +kernel⟩, by decide +kernel, rfl, rfl⟩, ts_in (List.mem_of_getElem? (i := 1012) (by decide +kernel)) rfl, ts_in (List.mem_of_getElem? (i := 57) (by decide +kernel)) rfl⟩
abbrev mX10_stand : MD := (yX10_stand, cX10_stand, 17, none, { frames := 1, cells := 0, slots := 0, locals := 26 })
theorem M_X10_stand : Mv mX10_stand 1 := ⟨⟨ts_in (List.mem_of_getElem? (i := 1008) (by decide +kernel)) rfl, ts_in (List.mem_of_getElem? (i := 76) (by decide +kernel)) rfl, ⟨by decide +kernel, by decide +kernel⟩, by decide +kernel, rfl, rfl⟩, ts_in (List.mem_of_getElem? (i := 1007) (by decide +kernel)) rfl, ts_in (List.mem_of_getElem? (i := 56) (by decide +kernel)) rfl⟩
abbrev mX10_bears : MD := (yX10_bears, cX10_bears, 3, (some .int), { frames := 1, cells := 0, slots := 0, locals := 25 })
theorem M_X10_bears : Mv mX10_bears 1 := ⟨⟨ts_in (List.mem_of_getElem? (i := 986) (by decide +kernel)) rfl, ts_in (List.mem_of_getElem? (i := 76) (by decide +kernel)) rfl, ⟨by decide +kernel, by decide +kernel⟩, by decide +kernel, rfl, rfl⟩, ts_in (List.mem_of_getElem? (i := 984) (by decide +kernel)) rfl, ts_in (List.mem_of_getElem? (i := 985) (by decide +kernel)) rfl⟩
abbrev mX10_drought : MD := (yX10_drought, cX10_drought, 4, (some .int), { frames := 1, cells := 0, slots := 0, locals := 25 })
theorem M_X10_drought : Mv mX10_drought 3 := ⟨⟨ts_in (List.mem_of_getElem? (i := 990) (by decide +kernel)) rfl, ts_in (List.mem_of_getElem? (i := 76) (by decide +kernel)) rfl, ⟨by decide +kernel, by decide +kernel⟩, by decide +kernel, rfl, rfl⟩, ts_in (List.mem_of_getElem? (i := 988) (by decide +kernel)) rfl, ts_in (List.mem_of_getElem? (i := 989) (by decide +kernel)) rfl⟩
abbrev mX10_foretold : MD := (yX10_foretold, cX10_foretold, 4, (some .long), { frames := 1, cells := 0, slots := 0, locals := 25 })
theorem M_X10_foretold : Mv mX10_foretold 1 := ⟨⟨ts_in (List.mem_of_getElem? (i := 1017) (by decide +kernel)) rfl, ts_in (List.mem_of_getElem? (i := 76) (by decide +kernel)) rfl, ⟨by decide +kernel, by decide +kernel⟩, by decide +kernel, rfl, rfl⟩, ts_in (List.mem_of_getElem? (i := 1016) (by decide +kernel)) rfl, ts_in (List.mem_of_getElem? (i := 58) (by decide +kernel)) rfl⟩
abbrev mX10_of : MD := (yX10_of, cX10_of, 4, (some .long), { frames := 3, cells := 0, slots := 0, locals := 87 })
theorem M_X10_of : Mv mX10_of 3 := ⟨⟨ts_in (List.mem_of_getElem? (i := 995) (by decide +kernel)) rfl, ts_in (List.mem_of_getElem? (i := 76) (by decide +kernel)) rfl, ⟨by decide +kernel, by decide +kernel⟩, by decide +kernel, rfl, rfl⟩, ts_in (List.mem_of_getElem? (i := 993) (by decide +kernel)) rfl, ts_in (List.mem_of_getElem? (i := 994) (by decide +kernel)) rfl⟩
abbrev mX10_group : MD := (yX10_group, cX10_group, 7, (some .long), { frames := 3, cells := 0, slots := 0, locals := 87 })
theorem M_X10_group : Mv mX10_group 3 := ⟨⟨ts_in (List.mem_of_getElem? (i := 1021) (by decide +kernel)) rfl, ts_in (List.mem_of_getElem? (i := 76) (by decide +kernel)) rfl, ⟨by decide +kernel, by decide +kernel⟩, by decide +kernel, rfl, rfl⟩, ts_in (List.mem_of_getElem? (i := 1019) (by decide +kernel)) rfl, ts_in (List.mem_of_getElem? (i := 1020) (by decide +kernel)) rfl⟩
abbrev mX10_visit : MD := (yX10_visit, cX10_visit, 3, (some .int), { frames := 2, cells := 0, slots := 0, locals := 46 })
theorem M_X10_visit : Mv mX10_visit 2 := ⟨⟨ts_in (List.mem_of_getElem? (i := 1026) (by decide +kernel)) rfl, ts_in (List.mem_of_getElem? (i := 76) (by decide +kernel)) rfl, ⟨by decide +kernel, by decide +kernel⟩, by decide +kernel, rfl, rfl⟩, ts_in (List.mem_of_getElem? (i := 1024) (by decide +kernel)) rfl, ts_in (List.mem_of_getElem? (i := 1025) (by decide +kernel)) rfl⟩
abbrev mX10_clear : MD := (yX10_clear, cX10_clear, 2, (some .int), { frames := 0, cells := 0, slots := 0, locals := 0 })
theorem M_X10_clear : Mv mX10_clear 0 := ⟨⟨ts_in (List.mem_of_getElem? (i := 1031) (by decide +kernel)) rfl, ts_in (List.mem_of_getElem? (i := 76) (by decide +kernel)) rfl, ⟨by decide +kernel, by decide +kernel⟩, by decide +kernel, rfl, rfl⟩, ts_in (List.mem_of_getElem? (i := 1029) (by decide +kernel)) rfl, ts_in (List.mem_of_getElem? (i := 1030) (by decide +kernel)) rfl⟩
abbrev mX10_addPlace : MD := (yX10_addPlace, cX10_addPlace, 4, none, { frames := 0, cells := 0, slots := 0, locals := 0 })
theorem M_X10_addPlace : Mv mX10_addPlace 1 := ⟨⟨ts_in (List.mem_of_getElem? (i := 1043) (by decide +kernel)) rfl, ts_in (List.mem_of_getElem? (i := 76) (by decide +kernel)) rfl, ⟨by decide +kernel, by decide +kernel⟩, by decide +kernel, rfl, rfl⟩, ts_in (List.mem_of_getElem? (i := 1042) (by decide +kernel)) rfl, ts_in (List.mem_of_getElem? (i := 60) (by decide +kernel)) rfl⟩
abbrev mX10_metAt : MD := (yX10_metAt, cX10_metAt, 5, (some .int), { frames := 0, cells := 0, slots := 0, locals := 0 })
theorem M_X10_metAt : Mv mX10_metAt 2 := ⟨⟨ts_in (List.mem_of_getElem? (i := 1048) (by decide +kernel)) rfl, ts_in (List.mem_of_getElem? (i := 76) (by decide +kernel)) rfl, ⟨by decide +kernel, by decide +kernel⟩, by decide +kernel, rfl, rfl⟩, ts_in (List.mem_of_getElem? (i := 1047) (by decide +kernel)) rfl, ts_in (List.mem_of_getElem? (i := 61) (by decide +kernel)) rfl⟩
abbrev mX10_at : MD := (yX10_at, cX10_at, 4, (some .int), { frames := 0, cells := 0, slots := 0, locals := 0 })
theorem M_X10_at : Ms mX10_at 4 := ⟨⟨ts_in (List.mem_of_getElem? (i := 1051) (by decide +kernel)) rfl, ts_in (List.mem_of_getElem? (i := 76) (by decide +kernel)) rfl, ⟨by decide +kernel, by decide +kernel⟩, by decide +kernel, rfl, rfl⟩, ts_in (List.mem_of_getElem? (i := 1050) (by decide +kernel)) rfl⟩
abbrev mX10_widen : MD := (yX10_widen, cX10_widen, 12, none, { frames := 1, cells := 0, slots := 0, locals := 24 })
theorem M_X10_widen : Mv mX10_widen 6 := ⟨⟨ts_in (List.mem_of_getElem? (i := 1055) (by decide +kernel)) rfl, ts_in (List.mem_of_getElem? (i := 76) (by decide +kernel)) rfl, ⟨by decide +kernel, by decide +kernel⟩, by decide +kernel, rfl, rfl⟩, ts_in (List.mem_of_getElem? (i := 1054) (by decide +kernel)) rfl, ts_in (List.mem_of_getElem? (i := 62) (by decide +kernel)) rfl⟩
abbrev mX10_walk : MD := (yX10_walk, cX10_walk, 8, none, { frames := 2, cells := 0, slots := 0, locals := 55 })
theorem M_X10_walk : Mv mX10_walk 1 := ⟨⟨ts_in (List.mem_of_getElem? (i := 1039) (by decide +kernel)) rfl, ts_in (List.mem_of_getElem? (i := 76) (by decide +kernel)) rfl, ⟨by decide +kernel, by decide +kernel⟩, by decide +kernel, rfl, rfl⟩, ts_in (List.mem_of_getElem? (i := 1038) (by decide +kernel)) rfl, ts_in (List.mem_of_getElem? (i := 59) (by decide +kernel)) rfl⟩
abbrev mX10_leastOf : MD := (yX10_leastOf, cX10_leastOf, 8, (some .int), { frames := 1, cells := 0, slots := 0, locals := 23 })
theorem M_X10_leastOf : Mv mX10_leastOf 1 := ⟨⟨ts_in (List.mem_of_getElem? (i := 1059) (by decide +kernel)) rfl, ts_in (List.mem_of_getElem? (i := 76) (by decide +kernel)) rfl, ⟨by decide +kernel, by decide +kernel⟩, by decide +kernel, rfl, rfl⟩, ts_in (List.mem_of_getElem? (i := 1058) (by decide +kernel)) rfl, ts_in (List.mem_of_getElem? (i := 63) (by decide +kernel)) rfl⟩
abbrev mX10_most : MD := (yX10_most, cX10_most, 3, (some .int), { frames := 3, cells := 0, slots := 0, locals := 82 })
theorem M_X10_most : Mv mX10_most 1 := ⟨⟨ts_in (List.mem_of_getElem? (i := 1035) (by decide +kernel)) rfl, ts_in (List.mem_of_getElem? (i := 76) (by decide +kernel)) rfl, ⟨by decide +kernel, by decide +kernel⟩, by decide +kernel, rfl, rfl⟩, ts_in (List.mem_of_getElem? (i := 1033) (by decide +kernel)) rfl, ts_in (List.mem_of_getElem? (i := 1034) (by decide +kernel)) rfl⟩
abbrev mX10_least : MD := (yX10_least, cX10_least, 4, (some .int), { frames := 3, cells := 0, slots := 0, locals := 82 })
theorem M_X10_least : Mv mX10_least 2 := ⟨⟨ts_in (List.mem_of_getElem? (i := 1063) (by decide +kernel)) rfl, ts_in (List.mem_of_getElem? (i := 76) (by decide +kernel)) rfl, ⟨by decide +kernel, by decide +kernel⟩, by decide +kernel, rfl, rfl⟩, ts_in (List.mem_of_getElem? (i := 1061) (by decide +kernel)) rfl, ts_in (List.mem_of_getElem? (i := 1062) (by decide +kernel)) rfl⟩
abbrev mX10_led : MD := (yX10_led, cX10_led, 5, (some .int), { frames := 2, cells := 0, slots := 0, locals := 45 })
theorem M_X10_led : Mv mX10_led 2 := ⟨⟨ts_in (List.mem_of_getElem? (i := 1067) (by decide +kernel)) rfl, ts_in (List.mem_of_getElem? (i := 76) (by decide +kernel)) rfl, ⟨by decide +kernel, by decide +kernel⟩, by decide +kernel, rfl, rfl⟩, ts_in (List.mem_of_getElem? (i := 1065) (by decide +kernel)) rfl, ts_in (List.mem_of_getElem? (i := 1066) (by decide +kernel)) rfl⟩
abbrev mX10_count : MD := (yX10_count, cX10_count, 4, (some .int), { frames := 0, cells := 0, slots := 0, locals := 0 })
theorem M_X10_count : Mv mX10_count 1 := ⟨⟨ts_in (List.mem_of_getElem? (i := 1071) (by decide +kernel)) rfl, ts_in (List.mem_of_getElem? (i := 76) (by decide +kernel)) rfl, ⟨by decide +kernel, by decide +kernel⟩, by decide +kernel, rfl, rfl⟩, ts_in (List.mem_of_getElem? (i := 1069) (by decide +kernel)) rfl, ts_in (List.mem_of_getElem? (i := 1070) (by decide +kernel)) rfl⟩
abbrev mX10_status : MD := (yX10_status, cX10_status, 1, (some .int), { frames := 0, cells := 0, slots := 0, locals := 0 })
theorem M_X10_status : Mv mX10_status 0 := ⟨⟨ts_in (List.mem_of_getElem? (i := 1075) (by decide +kernel)) rfl, ts_in (List.mem_of_getElem? (i := 76) (by decide +kernel)) rfl, ⟨by decide +kernel, by decide +kernel⟩, by decide +kernel, rfl, rfl⟩, ts_in (List.mem_of_getElem? (i := 1073) (by decide +kernel)) rfl, ts_in (List.mem_of_getElem? (i := 1074) (by decide +kernel)) rfl⟩
abbrev mJ0_length_8abf5 : MD := (yJ0_length_8abf5, cJ0_length_8abf5, 1, (some .int), { frames := 1, cells := 0, slots := 0, locals := 20 })
theorem M_J0_length_8abf5 : Mv mJ0_length_8abf5 0 := ⟨⟨ts_in (List.mem_of_getElem? (i := 474) (by decide +kernel)) rfl, ts_in (List.mem_of_getElem? (i := 77) (by decide +kernel)) rfl, ⟨by decide +kernel, by decide +kernel⟩, by decide +kernel, rfl, rfl⟩, ts_in (List.mem_of_getElem? (i := 472) (by decide +kernel)) rfl, ts_in (List.mem_of_getElem? (i := 473) (by decide +kernel)) rfl⟩
abbrev mJ0_charAt_5068e : MD := (yJ0_charAt_5068e, cJ0_charAt_5068e, 2, (some .char), { frames := 3, cells := 0, slots := 0, locals := 64 })
theorem M_J0_charAt_5068e : Mv mJ0_charAt_5068e 1 := ⟨⟨ts_in (List.mem_of_getElem? (i := 484) (by decide +kernel)) rfl, ts_in (List.mem_of_getElem? (i := 77) (by decide +kernel)) rfl, ⟨by decide +kernel, by decide +kernel⟩, by decide +kernel, rfl, rfl⟩, ts_in (List.mem_of_getElem? (i := 482) (by decide +kernel)) rfl, ts_in (List.mem_of_getElem? (i := 483) (by decide +kernel)) rfl⟩
abbrev mJ0_coder_7d493 : MD := (yJ0_coder_7d493, cJ0_coder_7d493, 1, (some .byte), { frames := 0, cells := 0, slots := 0, locals := 0 })
theorem M_J0_coder_7d493 : Mv mJ0_coder_7d493 0 := ⟨⟨ts_in (List.mem_of_getElem? (i := 478) (by decide +kernel)) rfl, ts_in (List.mem_of_getElem? (i := 77) (by decide +kernel)) rfl, ⟨by decide +kernel, by decide +kernel⟩, by decide +kernel, rfl, rfl⟩, ts_in (List.mem_of_getElem? (i := 476) (by decide +kernel)) rfl, ts_in (List.mem_of_getElem? (i := 477) (by decide +kernel)) rfl⟩
abbrev mJ0_isLatin1_aae02 : MD := (yJ0_isLatin1_aae02, cJ0_isLatin1_aae02, 1, (some .boolean), { frames := 0, cells := 0, slots := 0, locals := 0 })
theorem M_J0_isLatin1_aae02 : Mv mJ0_isLatin1_aae02 0 := ⟨⟨ts_in (List.mem_of_getElem? (i := 488) (by decide +kernel)) rfl, ts_in (List.mem_of_getElem? (i := 77) (by decide +kernel)) rfl, ⟨by decide +kernel, by decide +kernel⟩, by decide +kernel, rfl, rfl⟩, ts_in (List.mem_of_getElem? (i := 486) (by decide +kernel)) rfl, ts_in (List.mem_of_getElem? (i := 487) (by decide +kernel)) rfl⟩
abbrev mJ1_charAt_3b067 : MD := (yJ1_charAt_3b067, cJ1_charAt_3b067, 2, (some .char), { frames := 2, cells := 0, slots := 0, locals := 43 })
theorem M_J1_charAt_3b067 : Ms mJ1_charAt_3b067 2 := ⟨⟨ts_in (List.mem_of_getElem? (i := 491) (by decide +kernel)) rfl, ts_in (List.mem_of_getElem? (i := 78) (by decide +kernel)) rfl, ⟨by decide +kernel, by decide +kernel⟩, by decide +kernel, rfl, rfl⟩, ts_in (List.mem_of_getElem? (i := 490) (by decide +kernel)) rfl⟩
abbrev mJ7_fill_d0a16 : MD := (yJ7_fill_d0a16, cJ7_fill_d0a16, 5, none, { frames := 0, cells := 0, slots := 0, locals := 0 })
theorem M_J7_fill_d0a16 : Ms mJ7_fill_d0a16 2 := ⟨⟨ts_in (List.mem_of_getElem? (i := 569) (by decide +kernel)) rfl, ts_in (List.mem_of_getElem? (i := 74) (by decide +kernel)) rfl, ⟨by decide +kernel, by decide +kernel⟩, by decide +kernel, rfl, rfl⟩, ts_in (List.mem_of_getElem? (i := 568) (by decide +kernel)) rfl⟩
abbrev mJ7_fill_53178 : MD := (yJ7_fill_53178, cJ7_fill_53178, 4, none, { frames := 0, cells := 0, slots := 0, locals := 0 })
theorem M_J7_fill_53178 : Ms mJ7_fill_53178 2 := ⟨⟨ts_in (List.mem_of_getElem? (i := 307) (by decide +kernel)) rfl, ts_in (List.mem_of_getElem? (i := 74) (by decide +kernel)) rfl, ⟨by decide +kernel, by decide +kernel⟩, by decide +kernel, rfl, rfl⟩, ts_in (List.mem_of_getElem? (i := 306) (by decide +kernel)) rfl⟩
theorem Cn_X6_37 : Cond.constant RX6 37 (1000000) ∈ Ts := ts_in (List.mem_of_getElem? (i := 680) (by decide +kernel)) rfl
theorem Cn_X9_102 : Cond.constant RX9 102 (100000) ∈ Ts := ts_in (List.mem_of_getElem? (i := 416) (by decide +kernel)) rfl
theorem Cn_X9_205 : Cond.constant RX9 205 (1000000) ∈ Ts := ts_in (List.mem_of_getElem? (i := 711) (by decide +kernel)) rfl
theorem Cn_X10_278 : Cond.constant RX10 278 (1000000000) ∈ Ts := ts_in (List.mem_of_getElem? (i := 1044) (by decide +kernel)) rfl
theorem Cn_X1_144 : Cond.constantLong RX1 144 (1073741824) ∈ Ts := ts_in (List.mem_of_getElem? (i := 611) (by decide +kernel)) rfl
theorem Cn_X5_32 : Cond.constantLong RX5 32 (100) ∈ Ts := ts_in (List.mem_of_getElem? (i := 634) (by decide +kernel)) rfl
theorem Cn_X9_127 : Cond.constantLong RX9 127 (-1) ∈ Ts := ts_in (List.mem_of_getElem? (i := 562) (by decide +kernel)) rfl
theorem Cn_X10_123 : Cond.constantLong RX10 123 (400) ∈ Ts := ts_in (List.mem_of_getElem? (i := 916) (by decide +kernel)) rfl
theorem Cn_X10_132 : Cond.constantLong RX10 132 (9) ∈ Ts := ts_in (List.mem_of_getElem? (i := 898) (by decide +kernel)) rfl
theorem Cn_X10_134 : Cond.constantLong RX10 134 (1000) ∈ Ts := ts_in (List.mem_of_getElem? (i := 902) (by decide +kernel)) rfl
theorem Cn_X10_136 : Cond.constantLong RX10 136 (50) ∈ Ts := ts_in (List.mem_of_getElem? (i := 903) (by decide +kernel)) rfl
theorem Cn_X10_142 : Cond.constantLong RX10 142 (100000) ∈ Ts := ts_in (List.mem_of_getElem? (i := 912) (by decide +kernel)) rfl
theorem Cn_X10_154 : Cond.constantLong RX10 154 (4) ∈ Ts := ts_in (List.mem_of_getElem? (i := 925) (by decide +kernel)) rfl
theorem Cn_X10_185 : Cond.constantLong RX10 185 (32) ∈ Ts := ts_in (List.mem_of_getElem? (i := 952) (by decide +kernel)) rfl
theorem Cn_X10_187 : Cond.constantLong RX10 187 (96) ∈ Ts := ts_in (List.mem_of_getElem? (i := 953) (by decide +kernel)) rfl
theorem Cn_X10_189 : Cond.constantLong RX10 189 (-1) ∈ Ts := ts_in (List.mem_of_getElem? (i := 954) (by decide +kernel)) rfl
theorem Cn_X10_191 : Cond.constantLong RX10 191 (10000) ∈ Ts := ts_in (List.mem_of_getElem? (i := 955) (by decide +kernel)) rfl
theorem Cn_X10_193 : Cond.constantLong RX10 193 (10) ∈ Ts := ts_in (List.mem_of_getElem? (i := 956) (by decide +kernel)) rfl
theorem Cn_X10_195 : Cond.constantLong RX10 195 (48) ∈ Ts := ts_in (List.mem_of_getElem? (i := 957) (by decide +kernel)) rfl
theorem Cn_X10_229 : Cond.constantLong RX10 229 (59) ∈ Ts := ts_in (List.mem_of_getElem? (i := 978) (by decide +kernel)) rfl
theorem Cn_X10_234 : Cond.constantLong RX10 234 (1000000000) ∈ Ts := ts_in (List.mem_of_getElem? (i := 1000) (by decide +kernel)) rfl
theorem Cn_X10_243 : Cond.constantLong RX10 243 (2) ∈ Ts := ts_in (List.mem_of_getElem? (i := 1009) (by decide +kernel)) rfl
theorem Cn_X10_252 : Cond.constantLong RX10 252 (100) ∈ Ts := ts_in (List.mem_of_getElem? (i := 991) (by decide +kernel)) rfl
theorem Cn_X10_264 : Cond.constantLong RX10 264 (3) ∈ Ts := ts_in (List.mem_of_getElem? (i := 1022) (by decide +kernel)) rfl
theorem Cn_X10_266 : Cond.constantLong RX10 266 (5000) ∈ Ts := ts_in (List.mem_of_getElem? (i := 1027) (by decide +kernel)) rfl
theorem Ml_X1_113 : Ml RX1 113 mX1_pay := Or.inl (ts_in (List.mem_of_getElem? (i := 592) (by decide +kernel)) rfl)
theorem Ml_X1_117 : Ml RX1 117 mX1_debt := Or.inl (ts_in (List.mem_of_getElem? (i := 596) (by decide +kernel)) rfl)
theorem Ml_X1_120 : Ml RX1 120 mX1_giveEvenly := Or.inl (ts_in (List.mem_of_getElem? (i := 600) (by decide +kernel)) rfl)
theorem Ml_X1_124 : Ml RX1 124 mX1_payDebts := Or.inl (ts_in (List.mem_of_getElem? (i := 616) (by decide +kernel)) rfl)
theorem Ml_X1_137 : Ml RX1 137 mX1_greatestLevel := Or.inl (ts_in (List.mem_of_getElem? (i := 607) (by decide +kernel)) rfl)
theorem Ml_X1_140 : Ml RX1 140 mX1_sumAtLevel := Or.inl (ts_in (List.mem_of_getElem? (i := 612) (by decide +kernel)) rfl)
theorem Ml_X1_36 : Ml RX1 36 mJ7_fill_d0a16 := Or.inl (ts_in (List.mem_of_getElem? (i := 567) (by decide +kernel)) rfl)
theorem Ml_X1_42 : Ml RX1 42 mX1_addCredits := Or.inl (ts_in (List.mem_of_getElem? (i := 570) (by decide +kernel)) rfl)
theorem Ml_X1_46 : Ml RX1 46 mX1_addBaskets := Or.inl (ts_in (List.mem_of_getElem? (i := 574) (by decide +kernel)) rfl)
theorem Ml_X2_106 : Ml RX2 106 mX2_kindAt := Or.inl (ts_in (List.mem_of_getElem? (i := 458) (by decide +kernel)) rfl)
theorem Ml_X2_110 : Ml RX2 110 mJ0_length_8abf5 := Or.inl (ts_in (List.mem_of_getElem? (i := 471) (by decide +kernel)) rfl)
theorem Ml_X2_114 : Ml RX2 114 mJ0_charAt_5068e := Or.inl (ts_in (List.mem_of_getElem? (i := 481) (by decide +kernel)) rfl)
theorem Ml_X2_28 : Ml RX2 28 mX2_next := Or.inl (ts_in (List.mem_of_getElem? (i := 454) (by decide +kernel)) rfl)
theorem Ml_X2_34 : Ml RX2 34 mX2_readClause := Or.inl (ts_in (List.mem_of_getElem? (i := 462) (by decide +kernel)) rfl)
theorem Ml_X2_44 : Ml RX2 44 mX2_isSemicolon := Or.inl (ts_in (List.mem_of_getElem? (i := 549) (by decide +kernel)) rfl)
theorem Ml_X2_49 : Ml RX2 49 mX2_isWord := Or.inl (ts_in (List.mem_of_getElem? (i := 467) (by decide +kernel)) rfl)
theorem Ml_X2_53 : Ml RX2 53 mX2_readPrice := Or.inl (ts_in (List.mem_of_getElem? (i := 519) (by decide +kernel)) rfl)
theorem Ml_X2_58 : Ml RX2 58 mX2_readQuota := Or.inl (ts_in (List.mem_of_getElem? (i := 532) (by decide +kernel)) rfl)
theorem Ml_X2_63 : Ml RX2 63 mX2_readShare := Or.inl (ts_in (List.mem_of_getElem? (i := 537) (by decide +kernel)) rfl)
theorem Ml_X2_73 : Ml RX2 73 mX2_number := Or.inl (ts_in (List.mem_of_getElem? (i := 523) (by decide +kernel)) rfl)
theorem Ml_X5_28 : Ml RX5 28 mX5_lostAt := Or.inl (ts_in (List.mem_of_getElem? (i := 630) (by decide +kernel)) rfl)
theorem Ml_X6_38 : Ml RX6 38 mJ7_fill_53178 := Or.inl (ts_in (List.mem_of_getElem? (i := 681) (by decide +kernel)) rfl)
theorem Ml_X6_44 : Ml RX6 44 mX6_cellOf := Or.inl (ts_in (List.mem_of_getElem? (i := 682) (by decide +kernel)) rfl)
theorem Ml_X6_48 : Ml RX6 48 mX6_goOnFrom := Or.inl (ts_in (List.mem_of_getElem? (i := 686) (by decide +kernel)) rfl)
theorem Ml_X6_52 : Ml RX6 52 mX6_placeAtEnd := Or.inl (ts_in (List.mem_of_getElem? (i := 690) (by decide +kernel)) rfl)
theorem Ml_X6_62 : Ml RX6 62 mX6_arrive := Or.inl (ts_in (List.mem_of_getElem? (i := 695) (by decide +kernel)) rfl)
theorem Ml_X8_21 : Ml RX8 21 mX8_reset := Or.inl (ts_in (List.mem_of_getElem? (i := 301) (by decide +kernel)) rfl)
theorem Ml_X8_24 : Ml RX8 24 mJ7_fill_53178 := Or.inl (ts_in (List.mem_of_getElem? (i := 305) (by decide +kernel)) rfl)
theorem Ml_X8_30 : Ml RX8 30 mX8_setShare := Or.inl (ts_in (List.mem_of_getElem? (i := 308) (by decide +kernel)) rfl)
theorem Ml_X9_103 : Ml RX9 103 mX9_isNoFarmer := Or.inl (ts_in (List.mem_of_getElem? (i := 417) (by decide +kernel)) rfl)
theorem Ml_X9_167 : Ml RX9 167 mX9_foretold := Or.inl (ts_in (List.mem_of_getElem? (i := 622) (by decide +kernel)) rfl)
theorem Ml_X9_170 : Ml RX9 170 mX9_isShort := Or.inl (ts_in (List.mem_of_getElem? (i := 635) (by decide +kernel)) rfl)
theorem Ml_X9_84 : Ml RX9 84 mX9_outside := Or.inl (ts_in (List.mem_of_getElem? (i := 397) (by decide +kernel)) rfl)
theorem Ml_X9_88 : Ml RX9 88 mX9_refuse := Or.inl (ts_in (List.mem_of_getElem? (i := 400) (by decide +kernel)) rfl)
theorem Ml_X9_99 : Ml RX9 99 mX9_accept := Or.inl (ts_in (List.mem_of_getElem? (i := 408) (by decide +kernel)) rfl)
theorem Ml_X10_125 : Ml RX10 125 mX10_in := Or.inl (ts_in (List.mem_of_getElem? (i := 899) (by decide +kernel)) rfl)
theorem Ml_X10_138 : Ml RX10 138 mX10_told := Or.inl (ts_in (List.mem_of_getElem? (i := 904) (by decide +kernel)) rfl)
theorem Ml_X10_144 : Ml RX10 144 mX10_isDay := Or.inl (ts_in (List.mem_of_getElem? (i := 913) (by decide +kernel)) rfl)
theorem Ml_X10_148 : Ml RX10 148 mX10_isFarmer := Or.inl (ts_in (List.mem_of_getElem? (i := 917) (by decide +kernel)) rfl)
theorem Ml_X10_162 : Ml RX10 162 mX10_four := Or.inl (ts_in (List.mem_of_getElem? (i := 930) (by decide +kernel)) rfl)
theorem Ml_X10_176 : Ml RX10 176 mX10_isSmall := Or.inl (ts_in (List.mem_of_getElem? (i := 946) (by decide +kernel)) rfl)
theorem Ml_X10_179 : Ml RX10 179 mX10_isDigit := Or.inl (ts_in (List.mem_of_getElem? (i := 949) (by decide +kernel)) rfl)
theorem Ml_X10_201 : Ml RX10 201 mX10_next := Or.inl (ts_in (List.mem_of_getElem? (i := 942) (by decide +kernel)) rfl)
theorem Ml_X10_204 : Ml RX10 204 mX10_must := Or.inl (ts_in (List.mem_of_getElem? (i := 970) (by decide +kernel)) rfl)
theorem Ml_X10_208 : Ml RX10 208 mX10_isWord := Or.inl (ts_in (List.mem_of_getElem? (i := 962) (by decide +kernel)) rfl)
theorem Ml_X10_212 : Ml RX10 212 mX10_partAt := Or.inl (ts_in (List.mem_of_getElem? (i := 966) (by decide +kernel)) rfl)
theorem Ml_X10_219 : Ml RX10 219 mX10_number := Or.inl (ts_in (List.mem_of_getElem? (i := 974) (by decide +kernel)) rfl)
theorem Ml_X10_226 : Ml RX10 226 mX10_readClause := Or.inl (ts_in (List.mem_of_getElem? (i := 958) (by decide +kernel)) rfl)
theorem Ml_X10_236 : Ml RX10 236 mX10_partOf := Or.inl (ts_in (List.mem_of_getElem? (i := 1001) (by decide +kernel)) rfl)
theorem Ml_X10_240 : Ml RX10 240 mX10_stand := Or.inl (ts_in (List.mem_of_getElem? (i := 1005) (by decide +kernel)) rfl)
theorem Ml_X10_245 : Ml RX10 245 mX10_givenAt := Or.inl (ts_in (List.mem_of_getElem? (i := 1010) (by decide +kernel)) rfl)
theorem Ml_X10_257 : Ml RX10 257 mX10_reckon := Or.inl (ts_in (List.mem_of_getElem? (i := 996) (by decide +kernel)) rfl)
theorem Ml_X10_260 : Ml RX10 260 mX10_foretold := Or.inl (ts_in (List.mem_of_getElem? (i := 1014) (by decide +kernel)) rfl)
theorem Ml_X10_274 : Ml RX10 274 mX10_at := Or.inl (ts_in (List.mem_of_getElem? (i := 1049) (by decide +kernel)) rfl)
theorem Ml_X10_279 : Ml RX10 279 mX10_metAt := Or.inl (ts_in (List.mem_of_getElem? (i := 1045) (by decide +kernel)) rfl)
theorem Ml_X10_283 : Ml RX10 283 mX10_addPlace := Or.inl (ts_in (List.mem_of_getElem? (i := 1040) (by decide +kernel)) rfl)
theorem Ml_X10_286 : Ml RX10 286 mX10_widen := Or.inl (ts_in (List.mem_of_getElem? (i := 1052) (by decide +kernel)) rfl)
theorem Ml_X10_290 : Ml RX10 290 mX10_walk := Or.inl (ts_in (List.mem_of_getElem? (i := 1036) (by decide +kernel)) rfl)
theorem Ml_X10_293 : Ml RX10 293 mX10_leastOf := Or.inl (ts_in (List.mem_of_getElem? (i := 1056) (by decide +kernel)) rfl)
theorem Ml_J0_335 : Ml RJ0 335 mJ0_coder_7d493 := Or.inl (ts_in (List.mem_of_getElem? (i := 475) (by decide +kernel)) rfl)
theorem Ml_J0_492 : Ml RJ0 492 mJ0_isLatin1_aae02 := Or.inl (ts_in (List.mem_of_getElem? (i := 485) (by decide +kernel)) rfl)
theorem Ml_J0_495 : Ml RJ0 495 mJ1_charAt_3b067 := Or.inl (ts_in (List.mem_of_getElem? (i := 489) (by decide +kernel)) rfl)
theorem Ml_X1_58 : Ml RX1 58 mX8_shareOf := Or.inr ⟨"MillFarmers", tn_in (List.mem_of_getElem? (i := 584) (by decide +kernel)) rfl⟩
theorem Ml_X2_19 : Ml RX2 19 mX8_reset := Or.inr ⟨"MillFarmers", tn_in (List.mem_of_getElem? (i := 453) (by decide +kernel)) rfl⟩
theorem Ml_X2_77 : Ml RX2 77 mX9_outside := Or.inr ⟨"MillFarmers", tn_in (List.mem_of_getElem? (i := 530) (by decide +kernel)) rfl⟩
theorem Ml_X2_94 : Ml RX2 94 mX8_setShare := Or.inr ⟨"MillFarmers", tn_in (List.mem_of_getElem? (i := 545) (by decide +kernel)) rfl⟩
theorem Ml_X9_108 : Ml RX9 108 mX3_add := Or.inr ⟨"MillFarmers", tn_in (List.mem_of_getElem? (i := 421) (by decide +kernel)) rfl⟩
theorem Ml_X9_110 : Ml RX9 110 mX0_add := Or.inr ⟨"MillFarmers", tn_in (List.mem_of_getElem? (i := 429) (by decide +kernel)) rfl⟩
theorem Ml_X9_116 : Ml RX9 116 mX7_append := Or.inr ⟨"MillFarmers", tn_in (List.mem_of_getElem? (i := 437) (by decide +kernel)) rfl⟩
theorem Ml_X9_120 : Ml RX9 120 mX2_read := Or.inr ⟨"MillFarmers", tn_in (List.mem_of_getElem? (i := 449) (by decide +kernel)) rfl⟩
theorem Ml_X9_129 : Ml RX9 129 mX1_draw := Or.inr ⟨"MillFarmers", tn_in (List.mem_of_getElem? (i := 563) (by decide +kernel)) rfl⟩
theorem Ml_X9_137 : Ml RX9 137 mX1_stand := Or.inr ⟨"MillFarmers", tn_in (List.mem_of_getElem? (i := 588) (by decide +kernel)) rfl⟩
theorem Ml_X9_154 : Ml RX9 154 mX1_pay := Or.inr ⟨"MillFarmers", tn_in (List.mem_of_getElem? (i := 620) (by decide +kernel)) rfl⟩
theorem Ml_X9_158 : Ml RX9 158 mX1_debt := Or.inr ⟨"MillFarmers", tn_in (List.mem_of_getElem? (i := 621) (by decide +kernel)) rfl⟩
theorem Ml_X9_173 : Ml RX9 173 mX4_howManyIn := Or.inr ⟨"MillFarmers", tn_in (List.mem_of_getElem? (i := 644) (by decide +kernel)) rfl⟩
theorem Ml_X9_187 : Ml RX9 187 mX5_add := Or.inr ⟨"MillFarmers", tn_in (List.mem_of_getElem? (i := 656) (by decide +kernel)) rfl⟩
theorem Ml_X9_192 : Ml RX9 192 mX6_add := Or.inr ⟨"MillFarmers", tn_in (List.mem_of_getElem? (i := 664) (by decide +kernel)) rfl⟩
theorem Ml_X9_195 : Ml RX9 195 mX6_walk := Or.inr ⟨"MillFarmers", tn_in (List.mem_of_getElem? (i := 676) (by decide +kernel)) rfl⟩
theorem Ml_X9_198 : Ml RX9 198 mX6_mostMet := Or.inr ⟨"MillFarmers", tn_in (List.mem_of_getElem? (i := 699) (by decide +kernel)) rfl⟩
theorem Ml_X9_202 : Ml RX9 202 mX6_firstHourWith := Or.inr ⟨"MillFarmers", tn_in (List.mem_of_getElem? (i := 707) (by decide +kernel)) rfl⟩
theorem Ml_X9_206 : Ml RX9 206 mX0_ownerOf := Or.inr ⟨"MillFarmers", tn_in (List.mem_of_getElem? (i := 716) (by decide +kernel)) rfl⟩
theorem Ml_X9_216 : Ml RX9 216 mX5_foretold := Or.inr ⟨"MillFarmers", tn_in (List.mem_of_getElem? (i := 626) (by decide +kernel)) rfl⟩
theorem Ml_X9_219 : Ml RX9 219 mX8_shareOf := Or.inr ⟨"MillFarmers", tn_in (List.mem_of_getElem? (i := 639) (by decide +kernel)) rfl⟩
theorem Ml_X9_95 : Ml RX9 95 mX4_add := Or.inr ⟨"MillFarmers", tn_in (List.mem_of_getElem? (i := 404) (by decide +kernel)) rfl⟩
theorem In_Math : Cond.initialized "java/lang/Math" ∈ Ts := ts_in (List.mem_of_getElem? (i := 81) (by decide +kernel)) rfl
theorem In_System : Cond.initialized "java/lang/System" ∈ Ts := ts_in (List.mem_of_getElem? (i := 82) (by decide +kernel)) rfl
theorem Fs_value : Cond.fieldLink RJ0 9 "java/lang/String" "value" "[B" ∈ Ts := ts_in (List.mem_of_getElem? (i := 1076) (by decide +kernel)) rfl
theorem Fs_coder : Cond.fieldLink RJ0 15 "java/lang/String" "coder" "B" ∈ Ts := ts_in (List.mem_of_getElem? (i := 1077) (by decide +kernel)) rfl
theorem Fs_COMPACT_STRINGS : Cond.fieldLink RJ0 38 "java/lang/String" "COMPACT_STRINGS" "Z" ∈ Ts := ts_in (List.mem_of_getElem? (i := 479) (by decide +kernel)) rfl
end
