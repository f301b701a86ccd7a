section
-- ===== PART A: goes FIRST, ahead of the names: the tables' words, and 'selects' of the private methods out of them =====
/-- a private method of a class that the tables say can be made, by its rows of tables_1 -/
def lw_okq (q : MethodName × Nat) : Prop := (q.1.cls ≠ "java/lang/invoke/MethodHandle" ∧ q.1.cls ≠ "java/lang/invoke/VarHandle") ∧ Cond.instantiable q.1.cls q.2 ∈ tables_1 ∧ Cond.privateMethod q.1 ∈ tables_1 ∧ Cond.instanceMethod q.1 ∈ tables_1
theorem lw_p0 : lw_okq (⟨"MillFarmers$Terms", "reset", "()V"⟩, 5) := ⟨⟨by decide +kernel, by decide +kernel⟩, List.mem_of_getElem? (i := 232) (by decide +kernel), List.mem_of_getElem? (i := 238) (by decide +kernel), List.mem_of_getElem? (i := 239) (by decide +kernel)⟩
theorem lw_p1 : lw_okq (⟨"MillFarmers$Terms", "setShare", "(III)V"⟩, 5) := ⟨⟨by decide +kernel, by decide +kernel⟩, List.mem_of_getElem? (i := 232) (by decide +kernel), List.mem_of_getElem? (i := 245) (by decide +kernel), List.mem_of_getElem? (i := 246) (by decide +kernel)⟩
theorem lw_p2 : lw_okq (⟨"MillFarmers", "refuse", "(I)I"⟩, 12) := ⟨⟨by decide +kernel, by decide +kernel⟩, List.mem_of_getElem? (i := 20) (by decide +kernel), List.mem_of_getElem? (i := 337) (by decide +kernel), List.mem_of_getElem? (i := 338) (by decide +kernel)⟩
theorem lw_p3 : lw_okq (⟨"MillFarmers$Farmers", "add", "(III)V"⟩, 4) := ⟨⟨by decide +kernel, by decide +kernel⟩, List.mem_of_getElem? (i := 28) (by decide +kernel), List.mem_of_getElem? (i := 341) (by decide +kernel), List.mem_of_getElem? (i := 342) (by decide +kernel)⟩
theorem lw_p4 : lw_okq (⟨"MillFarmers", "accept", "(I)I"⟩, 12) := ⟨⟨by decide +kernel, by decide +kernel⟩, List.mem_of_getElem? (i := 20) (by decide +kernel), List.mem_of_getElem? (i := 345) (by decide +kernel), List.mem_of_getElem? (i := 346) (by decide +kernel)⟩
theorem lw_p5 : lw_okq (⟨"MillFarmers", "isNoFarmer", "(I)Z"⟩, 12) := ⟨⟨by decide +kernel, by decide +kernel⟩, List.mem_of_getElem? (i := 20) (by decide +kernel), List.mem_of_getElem? (i := 354) (by decide +kernel), List.mem_of_getElem? (i := 355) (by decide +kernel)⟩
theorem lw_p6 : lw_okq (⟨"MillFarmers$Credits", "add", "(III)V"⟩, 4) := ⟨⟨by decide +kernel, by decide +kernel⟩, List.mem_of_getElem? (i := 55) (by decide +kernel), List.mem_of_getElem? (i := 358) (by decide +kernel), List.mem_of_getElem? (i := 359) (by decide +kernel)⟩
theorem lw_p7 : lw_okq (⟨"MillFarmers$Baskets", "add", "(IIII)V"⟩, 6) := ⟨⟨by decide +kernel, by decide +kernel⟩, List.mem_of_getElem? (i := 79) (by decide +kernel), List.mem_of_getElem? (i := 366) (by decide +kernel), List.mem_of_getElem? (i := 367) (by decide +kernel)⟩
theorem lw_p8 : lw_okq (⟨"MillFarmers$Tape", "append", "(I)V"⟩, 2) := ⟨⟨by decide +kernel, by decide +kernel⟩, List.mem_of_getElem? (i := 111) (by decide +kernel), List.mem_of_getElem? (i := 374) (by decide +kernel), List.mem_of_getElem? (i := 375) (by decide +kernel)⟩
theorem lw_p9 : lw_okq (⟨"MillFarmers$ContractReader", "read", "(LMillFarmers$Terms;)I"⟩, 5) := ⟨⟨by decide +kernel, by decide +kernel⟩, List.mem_of_getElem? (i := 271) (by decide +kernel), List.mem_of_getElem? (i := 386) (by decide +kernel), List.mem_of_getElem? (i := 387) (by decide +kernel)⟩
theorem lw_p10 : lw_okq (⟨"MillFarmers$ContractReader", "next", "()V"⟩, 5) := ⟨⟨by decide +kernel, by decide +kernel⟩, List.mem_of_getElem? (i := 271) (by decide +kernel), List.mem_of_getElem? (i := 391) (by decide +kernel), List.mem_of_getElem? (i := 392) (by decide +kernel)⟩
theorem lw_p11 : lw_okq (⟨"MillFarmers$ContractReader", "kindAt", "(I)I"⟩, 5) := ⟨⟨by decide +kernel, by decide +kernel⟩, List.mem_of_getElem? (i := 271) (by decide +kernel), List.mem_of_getElem? (i := 395) (by decide +kernel), List.mem_of_getElem? (i := 396) (by decide +kernel)⟩
theorem lw_p12 : lw_okq (⟨"MillFarmers$ContractReader", "readClause", "()Z"⟩, 5) := ⟨⟨by decide +kernel, by decide +kernel⟩, List.mem_of_getElem? (i := 271) (by decide +kernel), List.mem_of_getElem? (i := 399) (by decide +kernel), List.mem_of_getElem? (i := 400) (by decide +kernel)⟩
theorem lw_p13 : lw_okq (⟨"MillFarmers$ContractReader", "isWord", "(Ljava/lang/String;)Z"⟩, 5) := ⟨⟨by decide +kernel, by decide +kernel⟩, List.mem_of_getElem? (i := 271) (by decide +kernel), List.mem_of_getElem? (i := 404) (by decide +kernel), List.mem_of_getElem? (i := 405) (by decide +kernel)⟩
theorem lw_p14 : lw_okq (⟨"MillFarmers$ContractReader", "readPrice", "()Z"⟩, 5) := ⟨⟨by decide +kernel, by decide +kernel⟩, List.mem_of_getElem? (i := 271) (by decide +kernel), List.mem_of_getElem? (i := 456) (by decide +kernel), List.mem_of_getElem? (i := 457) (by decide +kernel)⟩
theorem lw_p15 : lw_okq (⟨"MillFarmers$ContractReader", "number", "()I"⟩, 5) := ⟨⟨by decide +kernel, by decide +kernel⟩, List.mem_of_getElem? (i := 271) (by decide +kernel), List.mem_of_getElem? (i := 460) (by decide +kernel), List.mem_of_getElem? (i := 461) (by decide +kernel)⟩
def lw_privs_1 : List (MethodName × Nat) := [(⟨"MillFarmers$Terms", "reset", "()V"⟩, 5), (⟨"MillFarmers$Terms", "setShare", "(III)V"⟩, 5), (⟨"MillFarmers", "refuse", "(I)I"⟩, 12), (⟨"MillFarmers$Farmers", "add", "(III)V"⟩, 4), (⟨"MillFarmers", "accept", "(I)I"⟩, 12), (⟨"MillFarmers", "isNoFarmer", "(I)Z"⟩, 12), (⟨"MillFarmers$Credits", "add", "(III)V"⟩, 4), (⟨"MillFarmers$Baskets", "add", "(IIII)V"⟩, 6), (⟨"MillFarmers$Tape", "append", "(I)V"⟩, 2), (⟨"MillFarmers$ContractReader", "read", "(LMillFarmers$Terms;)I"⟩, 5), (⟨"MillFarmers$ContractReader", "next", "()V"⟩, 5), (⟨"MillFarmers$ContractReader", "kindAt", "(I)I"⟩, 5), (⟨"MillFarmers$ContractReader", "readClause", "()Z"⟩, 5), (⟨"MillFarmers$ContractReader", "isWord", "(Ljava/lang/String;)Z"⟩, 5), (⟨"MillFarmers$ContractReader", "readPrice", "()Z"⟩, 5), (⟨"MillFarmers$ContractReader", "number", "()I"⟩, 5)]
theorem lw_r1 : ∀ q ∈ lw_privs_1, lw_okq q := List.forall_mem_cons.mpr ⟨lw_p0, List.forall_mem_cons.mpr ⟨lw_p1, List.forall_mem_cons.mpr ⟨lw_p2, List.forall_mem_cons.mpr ⟨lw_p3, List.forall_mem_cons.mpr ⟨lw_p4, List.forall_mem_cons.mpr ⟨lw_p5, List.forall_mem_cons.mpr ⟨lw_p6, List.forall_mem_cons.mpr ⟨lw_p7, List.forall_mem_cons.mpr ⟨lw_p8, List.forall_mem_cons.mpr ⟨lw_p9, List.forall_mem_cons.mpr ⟨lw_p10, List.forall_mem_cons.mpr ⟨lw_p11, List.forall_mem_cons.mpr ⟨lw_p12, List.forall_mem_cons.mpr ⟨lw_p13, List.forall_mem_cons.mpr ⟨lw_p14, List.forall_mem_cons.mpr ⟨lw_p15, fun _ h => absurd h List.not_mem_nil⟩⟩⟩⟩⟩⟩⟩⟩⟩⟩⟩⟩⟩⟩⟩⟩
theorem lw_p16 : lw_okq (⟨"MillFarmers$ContractReader", "readQuota", "()Z"⟩, 5) := ⟨⟨by decide +kernel, by decide +kernel⟩, List.mem_of_getElem? (i := 271) (by decide +kernel), List.mem_of_getElem? (i := 469) (by decide +kernel), List.mem_of_getElem? (i := 470) (by decide +kernel)⟩
theorem lw_p17 : lw_okq (⟨"MillFarmers$ContractReader", "readShare", "(I)Z"⟩, 5) := ⟨⟨by decide +kernel, by decide +kernel⟩, List.mem_of_getElem? (i := 271) (by decide +kernel), List.mem_of_getElem? (i := 474) (by decide +kernel), List.mem_of_getElem? (i := 475) (by decide +kernel)⟩
theorem lw_p18 : lw_okq (⟨"MillFarmers$ContractReader", "isSemicolon", "()Z"⟩, 5) := ⟨⟨by decide +kernel, by decide +kernel⟩, List.mem_of_getElem? (i := 271) (by decide +kernel), List.mem_of_getElem? (i := 486) (by decide +kernel), List.mem_of_getElem? (i := 487) (by decide +kernel)⟩
theorem lw_p19 : lw_okq (⟨"MillFarmers$Books", "draw", "(LMillFarmers$Farmers;LMillFarmers$Credits;LMillFarmers$Baskets;LMillFarmers$Terms;I)V"⟩, 11) := ⟨⟨by decide +kernel, by decide +kernel⟩, List.mem_of_getElem? (i := 127) (by decide +kernel), List.mem_of_getElem? (i := 500) (by decide +kernel), List.mem_of_getElem? (i := 501) (by decide +kernel)⟩
theorem lw_p20 : lw_okq (⟨"MillFarmers$Books", "addCredits", "(LMillFarmers$Credits;I)V"⟩, 11) := ⟨⟨by decide +kernel, by decide +kernel⟩, List.mem_of_getElem? (i := 127) (by decide +kernel), List.mem_of_getElem? (i := 507) (by decide +kernel), List.mem_of_getElem? (i := 508) (by decide +kernel)⟩
theorem lw_p21 : lw_okq (⟨"MillFarmers$Books", "addBaskets", "(LMillFarmers$Farmers;LMillFarmers$Baskets;LMillFarmers$Terms;I)V"⟩, 11) := ⟨⟨by decide +kernel, by decide +kernel⟩, List.mem_of_getElem? (i := 127) (by decide +kernel), List.mem_of_getElem? (i := 511) (by decide +kernel), List.mem_of_getElem? (i := 512) (by decide +kernel)⟩
theorem lw_p22 : lw_okq (⟨"MillFarmers$Terms", "shareOf", "(IJ)J"⟩, 5) := ⟨⟨by decide +kernel, by decide +kernel⟩, List.mem_of_getElem? (i := 232) (by decide +kernel), List.mem_of_getElem? (i := 521) (by decide +kernel), List.mem_of_getElem? (i := 522) (by decide +kernel)⟩
theorem lw_p23 : lw_okq (⟨"MillFarmers$Books", "stand", "(LMillFarmers$Farmers;LMillFarmers$Terms;I)V"⟩, 11) := ⟨⟨by decide +kernel, by decide +kernel⟩, List.mem_of_getElem? (i := 127) (by decide +kernel), List.mem_of_getElem? (i := 525) (by decide +kernel), List.mem_of_getElem? (i := 526) (by decide +kernel)⟩
theorem lw_p24 : lw_okq (⟨"MillFarmers$Books", "pay", "(I)J"⟩, 11) := ⟨⟨by decide +kernel, by decide +kernel⟩, List.mem_of_getElem? (i := 127) (by decide +kernel), List.mem_of_getElem? (i := 529) (by decide +kernel), List.mem_of_getElem? (i := 530) (by decide +kernel)⟩
theorem lw_p25 : lw_okq (⟨"MillFarmers$Books", "debt", "(I)J"⟩, 11) := ⟨⟨by decide +kernel, by decide +kernel⟩, List.mem_of_getElem? (i := 127) (by decide +kernel), List.mem_of_getElem? (i := 533) (by decide +kernel), List.mem_of_getElem? (i := 534) (by decide +kernel)⟩
theorem lw_p26 : lw_okq (⟨"MillFarmers$Books", "giveEvenly", "(I)V"⟩, 11) := ⟨⟨by decide +kernel, by decide +kernel⟩, List.mem_of_getElem? (i := 127) (by decide +kernel), List.mem_of_getElem? (i := 537) (by decide +kernel), List.mem_of_getElem? (i := 538) (by decide +kernel)⟩
theorem lw_p27 : lw_okq (⟨"MillFarmers$Books", "greatestLevel", "(I)J"⟩, 11) := ⟨⟨by decide +kernel, by decide +kernel⟩, List.mem_of_getElem? (i := 127) (by decide +kernel), List.mem_of_getElem? (i := 544) (by decide +kernel), List.mem_of_getElem? (i := 545) (by decide +kernel)⟩
theorem lw_p28 : lw_okq (⟨"MillFarmers$Books", "sumAtLevel", "(JI)J"⟩, 11) := ⟨⟨by decide +kernel, by decide +kernel⟩, List.mem_of_getElem? (i := 127) (by decide +kernel), List.mem_of_getElem? (i := 549) (by decide +kernel), List.mem_of_getElem? (i := 550) (by decide +kernel)⟩
theorem lw_p29 : lw_okq (⟨"MillFarmers$Books", "payDebts", "(LMillFarmers$Farmers;I)V"⟩, 11) := ⟨⟨by decide +kernel, by decide +kernel⟩, List.mem_of_getElem? (i := 127) (by decide +kernel), List.mem_of_getElem? (i := 553) (by decide +kernel), List.mem_of_getElem? (i := 554) (by decide +kernel)⟩
theorem lw_p30 : lw_okq (⟨"MillFarmers", "foretold", "(I)J"⟩, 12) := ⟨⟨by decide +kernel, by decide +kernel⟩, List.mem_of_getElem? (i := 20) (by decide +kernel), List.mem_of_getElem? (i := 559) (by decide +kernel), List.mem_of_getElem? (i := 560) (by decide +kernel)⟩
theorem lw_p31 : lw_okq (⟨"MillFarmers$Land", "foretold", "(II)J"⟩, 5) := ⟨⟨by decide +kernel, by decide +kernel⟩, List.mem_of_getElem? (i := 176) (by decide +kernel), List.mem_of_getElem? (i := 563) (by decide +kernel), List.mem_of_getElem? (i := 564) (by decide +kernel)⟩
def lw_privs_2 : List (MethodName × Nat) := [(⟨"MillFarmers$ContractReader", "readQuota", "()Z"⟩, 5), (⟨"MillFarmers$ContractReader", "readShare", "(I)Z"⟩, 5), (⟨"MillFarmers$ContractReader", "isSemicolon", "()Z"⟩, 5), (⟨"MillFarmers$Books", "draw", "(LMillFarmers$Farmers;LMillFarmers$Credits;LMillFarmers$Baskets;LMillFarmers$Terms;I)V"⟩, 11), (⟨"MillFarmers$Books", "addCredits", "(LMillFarmers$Credits;I)V"⟩, 11), (⟨"MillFarmers$Books", "addBaskets", "(LMillFarmers$Farmers;LMillFarmers$Baskets;LMillFarmers$Terms;I)V"⟩, 11), (⟨"MillFarmers$Terms", "shareOf", "(IJ)J"⟩, 5), (⟨"MillFarmers$Books", "stand", "(LMillFarmers$Farmers;LMillFarmers$Terms;I)V"⟩, 11), (⟨"MillFarmers$Books", "pay", "(I)J"⟩, 11), (⟨"MillFarmers$Books", "debt", "(I)J"⟩, 11), (⟨"MillFarmers$Books", "giveEvenly", "(I)V"⟩, 11), (⟨"MillFarmers$Books", "greatestLevel", "(I)J"⟩, 11), (⟨"MillFarmers$Books", "sumAtLevel", "(JI)J"⟩, 11), (⟨"MillFarmers$Books", "payDebts", "(LMillFarmers$Farmers;I)V"⟩, 11), (⟨"MillFarmers", "foretold", "(I)J"⟩, 12), (⟨"MillFarmers$Land", "foretold", "(II)J"⟩, 5)]
theorem lw_r2 : ∀ q ∈ lw_privs_2, lw_okq q := List.forall_mem_cons.mpr ⟨lw_p16, List.forall_mem_cons.mpr ⟨lw_p17, List.forall_mem_cons.mpr ⟨lw_p18, List.forall_mem_cons.mpr ⟨lw_p19, List.forall_mem_cons.mpr ⟨lw_p20, List.forall_mem_cons.mpr ⟨lw_p21, List.forall_mem_cons.mpr ⟨lw_p22, List.forall_mem_cons.mpr ⟨lw_p23, List.forall_mem_cons.mpr ⟨lw_p24, List.forall_mem_cons.mpr ⟨lw_p25, List.forall_mem_cons.mpr ⟨lw_p26, List.forall_mem_cons.mpr ⟨lw_p27, List.forall_mem_cons.mpr ⟨lw_p28, List.forall_mem_cons.mpr ⟨lw_p29, List.forall_mem_cons.mpr ⟨lw_p30, List.forall_mem_cons.mpr ⟨lw_p31, fun _ h => absurd h List.not_mem_nil⟩⟩⟩⟩⟩⟩⟩⟩⟩⟩⟩⟩⟩⟩⟩⟩
theorem lw_p32 : lw_okq (⟨"MillFarmers$Land", "lostAt", "(I)I"⟩, 5) := ⟨⟨by decide +kernel, by decide +kernel⟩, List.mem_of_getElem? (i := 176) (by decide +kernel), List.mem_of_getElem? (i := 567) (by decide +kernel), List.mem_of_getElem? (i := 568) (by decide +kernel)⟩
theorem lw_p33 : lw_okq (⟨"MillFarmers", "isShort", "(I)Z"⟩, 12) := ⟨⟨by decide +kernel, by decide +kernel⟩, List.mem_of_getElem? (i := 20) (by decide +kernel), List.mem_of_getElem? (i := 572) (by decide +kernel), List.mem_of_getElem? (i := 573) (by decide +kernel)⟩
theorem lw_p34 : lw_okq (⟨"MillFarmers$Farmers", "howManyIn", "(I)I"⟩, 4) := ⟨⟨by decide +kernel, by decide +kernel⟩, List.mem_of_getElem? (i := 28) (by decide +kernel), List.mem_of_getElem? (i := 581) (by decide +kernel), List.mem_of_getElem? (i := 582) (by decide +kernel)⟩
theorem lw_p35 : lw_okq (⟨"MillFarmers$Land", "add", "(III)V"⟩, 5) := ⟨⟨by decide +kernel, by decide +kernel⟩, List.mem_of_getElem? (i := 176) (by decide +kernel), List.mem_of_getElem? (i := 593) (by decide +kernel), List.mem_of_getElem? (i := 594) (by decide +kernel)⟩
theorem lw_p36 : lw_okq (⟨"MillFarmers$Road", "add", "(II)V"⟩, 8) := ⟨⟨by decide +kernel, by decide +kernel⟩, List.mem_of_getElem? (i := 200) (by decide +kernel), List.mem_of_getElem? (i := 601) (by decide +kernel), List.mem_of_getElem? (i := 602) (by decide +kernel)⟩
theorem lw_p37 : lw_okq (⟨"MillFarmers$Road", "walk", "(I)V"⟩, 8) := ⟨⟨by decide +kernel, by decide +kernel⟩, List.mem_of_getElem? (i := 200) (by decide +kernel), List.mem_of_getElem? (i := 613) (by decide +kernel), List.mem_of_getElem? (i := 614) (by decide +kernel)⟩
theorem lw_p38 : lw_okq (⟨"MillFarmers$Road", "cellOf", "(IIII)I"⟩, 8) := ⟨⟨by decide +kernel, by decide +kernel⟩, List.mem_of_getElem? (i := 200) (by decide +kernel), List.mem_of_getElem? (i := 619) (by decide +kernel), List.mem_of_getElem? (i := 620) (by decide +kernel)⟩
theorem lw_p39 : lw_okq (⟨"MillFarmers$Road", "goOnFrom", "(III)V"⟩, 8) := ⟨⟨by decide +kernel, by decide +kernel⟩, List.mem_of_getElem? (i := 200) (by decide +kernel), List.mem_of_getElem? (i := 623) (by decide +kernel), List.mem_of_getElem? (i := 624) (by decide +kernel)⟩
theorem lw_p40 : lw_okq (⟨"MillFarmers$Road", "placeAtEnd", "(III)I"⟩, 8) := ⟨⟨by decide +kernel, by decide +kernel⟩, List.mem_of_getElem? (i := 200) (by decide +kernel), List.mem_of_getElem? (i := 627) (by decide +kernel), List.mem_of_getElem? (i := 628) (by decide +kernel)⟩
theorem lw_p41 : lw_okq (⟨"MillFarmers$Road", "arrive", "(III)V"⟩, 8) := ⟨⟨by decide +kernel, by decide +kernel⟩, List.mem_of_getElem? (i := 200) (by decide +kernel), List.mem_of_getElem? (i := 632) (by decide +kernel), List.mem_of_getElem? (i := 633) (by decide +kernel)⟩
theorem lw_p42 : lw_okq (⟨"MillFarmers$Road", "mostMet", "()I"⟩, 8) := ⟨⟨by decide +kernel, by decide +kernel⟩, List.mem_of_getElem? (i := 200) (by decide +kernel), List.mem_of_getElem? (i := 636) (by decide +kernel), List.mem_of_getElem? (i := 637) (by decide +kernel)⟩
theorem lw_p43 : lw_okq (⟨"MillFarmers$Road", "firstHourWith", "(I)I"⟩, 8) := ⟨⟨by decide +kernel, by decide +kernel⟩, List.mem_of_getElem? (i := 200) (by decide +kernel), List.mem_of_getElem? (i := 644) (by decide +kernel), List.mem_of_getElem? (i := 645) (by decide +kernel)⟩
theorem lw_p44 : lw_okq (⟨"MillFarmers$Baskets", "ownerOf", "(II)I"⟩, 6) := ⟨⟨by decide +kernel, by decide +kernel⟩, List.mem_of_getElem? (i := 79) (by decide +kernel), List.mem_of_getElem? (i := 653) (by decide +kernel), List.mem_of_getElem? (i := 654) (by decide +kernel)⟩
theorem lw_p45 : lw_okq (⟨"MillFarmersModel", "told", "(I)I"⟩, 53) := ⟨⟨by decide +kernel, by decide +kernel⟩, List.mem_of_getElem? (i := 665) (by decide +kernel), List.mem_of_getElem? (i := 841) (by decide +kernel), List.mem_of_getElem? (i := 842) (by decide +kernel)⟩
theorem lw_p46 : lw_okq (⟨"MillFarmersModel", "isFarmer", "(I)Z"⟩, 53) := ⟨⟨by decide +kernel, by decide +kernel⟩, List.mem_of_getElem? (i := 665) (by decide +kernel), List.mem_of_getElem? (i := 854) (by decide +kernel), List.mem_of_getElem? (i := 855) (by decide +kernel)⟩
theorem lw_p47 : lw_okq (⟨"MillFarmersModel", "four", "(I)V"⟩, 53) := ⟨⟨by decide +kernel, by decide +kernel⟩, List.mem_of_getElem? (i := 665) (by decide +kernel), List.mem_of_getElem? (i := 867) (by decide +kernel), List.mem_of_getElem? (i := 868) (by decide +kernel)⟩
def lw_privs_3 : List (MethodName × Nat) := [(⟨"MillFarmers$Land", "lostAt", "(I)I"⟩, 5), (⟨"MillFarmers", "isShort", "(I)Z"⟩, 12), (⟨"MillFarmers$Farmers", "howManyIn", "(I)I"⟩, 4), (⟨"MillFarmers$Land", "add", "(III)V"⟩, 5), (⟨"MillFarmers$Road", "add", "(II)V"⟩, 8), (⟨"MillFarmers$Road", "walk", "(I)V"⟩, 8), (⟨"MillFarmers$Road", "cellOf", "(IIII)I"⟩, 8), (⟨"MillFarmers$Road", "goOnFrom", "(III)V"⟩, 8), (⟨"MillFarmers$Road", "placeAtEnd", "(III)I"⟩, 8), (⟨"MillFarmers$Road", "arrive", "(III)V"⟩, 8), (⟨"MillFarmers$Road", "mostMet", "()I"⟩, 8), (⟨"MillFarmers$Road", "firstHourWith", "(I)I"⟩, 8), (⟨"MillFarmers$Baskets", "ownerOf", "(II)I"⟩, 6), (⟨"MillFarmersModel", "told", "(I)I"⟩, 53), (⟨"MillFarmersModel", "isFarmer", "(I)Z"⟩, 53), (⟨"MillFarmersModel", "four", "(I)V"⟩, 53)]
theorem lw_r3 : ∀ q ∈ lw_privs_3, lw_okq q := List.forall_mem_cons.mpr ⟨lw_p32, List.forall_mem_cons.mpr ⟨lw_p33, List.forall_mem_cons.mpr ⟨lw_p34, List.forall_mem_cons.mpr ⟨lw_p35, List.forall_mem_cons.mpr ⟨lw_p36, List.forall_mem_cons.mpr ⟨lw_p37, List.forall_mem_cons.mpr ⟨lw_p38, List.forall_mem_cons.mpr ⟨lw_p39, List.forall_mem_cons.mpr ⟨lw_p40, List.forall_mem_cons.mpr ⟨lw_p41, List.forall_mem_cons.mpr ⟨lw_p42, List.forall_mem_cons.mpr ⟨lw_p43, List.forall_mem_cons.mpr ⟨lw_p44, List.forall_mem_cons.mpr ⟨lw_p45, List.forall_mem_cons.mpr ⟨lw_p46, List.forall_mem_cons.mpr ⟨lw_p47, fun _ h => absurd h List.not_mem_nil⟩⟩⟩⟩⟩⟩⟩⟩⟩⟩⟩⟩⟩⟩⟩⟩
theorem lw_p48 : lw_okq (⟨"MillFarmersModel", "next", "()V"⟩, 53) := ⟨⟨by decide +kernel, by decide +kernel⟩, List.mem_of_getElem? (i := 665) (by decide +kernel), List.mem_of_getElem? (i := 879) (by decide +kernel), List.mem_of_getElem? (i := 880) (by decide +kernel)⟩
theorem lw_p49 : lw_okq (⟨"MillFarmersModel", "readClause", "()V"⟩, 53) := ⟨⟨by decide +kernel, by decide +kernel⟩, List.mem_of_getElem? (i := 665) (by decide +kernel), List.mem_of_getElem? (i := 895) (by decide +kernel), List.mem_of_getElem? (i := 896) (by decide +kernel)⟩
theorem lw_p50 : lw_okq (⟨"MillFarmersModel", "isWord", "(IIIII)Z"⟩, 53) := ⟨⟨by decide +kernel, by decide +kernel⟩, List.mem_of_getElem? (i := 665) (by decide +kernel), List.mem_of_getElem? (i := 899) (by decide +kernel), List.mem_of_getElem? (i := 900) (by decide +kernel)⟩
theorem lw_p51 : lw_okq (⟨"MillFarmersModel", "partAt", "()I"⟩, 53) := ⟨⟨by decide +kernel, by decide +kernel⟩, List.mem_of_getElem? (i := 665) (by decide +kernel), List.mem_of_getElem? (i := 903) (by decide +kernel), List.mem_of_getElem? (i := 904) (by decide +kernel)⟩
theorem lw_p52 : lw_okq (⟨"MillFarmersModel", "must", "(Z)V"⟩, 53) := ⟨⟨by decide +kernel, by decide +kernel⟩, List.mem_of_getElem? (i := 665) (by decide +kernel), List.mem_of_getElem? (i := 907) (by decide +kernel), List.mem_of_getElem? (i := 908) (by decide +kernel)⟩
theorem lw_p53 : lw_okq (⟨"MillFarmersModel", "number", "(JJ)I"⟩, 53) := ⟨⟨by decide +kernel, by decide +kernel⟩, List.mem_of_getElem? (i := 665) (by decide +kernel), List.mem_of_getElem? (i := 911) (by decide +kernel), List.mem_of_getElem? (i := 912) (by decide +kernel)⟩
theorem lw_p54 : lw_okq (⟨"MillFarmersModel", "reckon", "(I)V"⟩, 53) := ⟨⟨by decide +kernel, by decide +kernel⟩, List.mem_of_getElem? (i := 665) (by decide +kernel), List.mem_of_getElem? (i := 933) (by decide +kernel), List.mem_of_getElem? (i := 934) (by decide +kernel)⟩
theorem lw_p55 : lw_okq (⟨"MillFarmersModel", "partOf", "(JI)J"⟩, 53) := ⟨⟨by decide +kernel, by decide +kernel⟩, List.mem_of_getElem? (i := 665) (by decide +kernel), List.mem_of_getElem? (i := 938) (by decide +kernel), List.mem_of_getElem? (i := 939) (by decide +kernel)⟩
theorem lw_p56 : lw_okq (⟨"MillFarmersModel", "stand", "(I)V"⟩, 53) := ⟨⟨by decide +kernel, by decide +kernel⟩, List.mem_of_getElem? (i := 665) (by decide +kernel), List.mem_of_getElem? (i := 942) (by decide +kernel), List.mem_of_getElem? (i := 943) (by decide +kernel)⟩
theorem lw_p57 : lw_okq (⟨"MillFarmersModel", "givenAt", "(IJ)J"⟩, 53) := ⟨⟨by decide +kernel, by decide +kernel⟩, List.mem_of_getElem? (i := 665) (by decide +kernel), List.mem_of_getElem? (i := 947) (by decide +kernel), List.mem_of_getElem? (i := 948) (by decide +kernel)⟩
theorem lw_p58 : lw_okq (⟨"MillFarmersModel", "foretold", "(I)J"⟩, 53) := ⟨⟨by decide +kernel, by decide +kernel⟩, List.mem_of_getElem? (i := 665) (by decide +kernel), List.mem_of_getElem? (i := 951) (by decide +kernel), List.mem_of_getElem? (i := 952) (by decide +kernel)⟩
theorem lw_p59 : lw_okq (⟨"MillFarmersModel", "walk", "(I)V"⟩, 53) := ⟨⟨by decide +kernel, by decide +kernel⟩, List.mem_of_getElem? (i := 665) (by decide +kernel), List.mem_of_getElem? (i := 973) (by decide +kernel), List.mem_of_getElem? (i := 974) (by decide +kernel)⟩
theorem lw_p60 : lw_okq (⟨"MillFarmersModel", "addPlace", "(I)V"⟩, 53) := ⟨⟨by decide +kernel, by decide +kernel⟩, List.mem_of_getElem? (i := 665) (by decide +kernel), List.mem_of_getElem? (i := 977) (by decide +kernel), List.mem_of_getElem? (i := 978) (by decide +kernel)⟩
theorem lw_p61 : lw_okq (⟨"MillFarmersModel", "metAt", "(II)I"⟩, 53) := ⟨⟨by decide +kernel, by decide +kernel⟩, List.mem_of_getElem? (i := 665) (by decide +kernel), List.mem_of_getElem? (i := 982) (by decide +kernel), List.mem_of_getElem? (i := 983) (by decide +kernel)⟩
theorem lw_p62 : lw_okq (⟨"MillFarmersModel", "widen", "(IIIIII)V"⟩, 53) := ⟨⟨by decide +kernel, by decide +kernel⟩, List.mem_of_getElem? (i := 665) (by decide +kernel), List.mem_of_getElem? (i := 989) (by decide +kernel), List.mem_of_getElem? (i := 990) (by decide +kernel)⟩
theorem lw_p63 : lw_okq (⟨"MillFarmersModel", "leastOf", "(I)I"⟩, 53) := ⟨⟨by decide +kernel, by decide +kernel⟩, List.mem_of_getElem? (i := 665) (by decide +kernel), List.mem_of_getElem? (i := 993) (by decide +kernel), List.mem_of_getElem? (i := 994) (by decide +kernel)⟩
def lw_privs_4 : List (MethodName × Nat) := [(⟨"MillFarmersModel", "next", "()V"⟩, 53), (⟨"MillFarmersModel", "readClause", "()V"⟩, 53), (⟨"MillFarmersModel", "isWord", "(IIIII)Z"⟩, 53), (⟨"MillFarmersModel", "partAt", "()I"⟩, 53), (⟨"MillFarmersModel", "must", "(Z)V"⟩, 53), (⟨"MillFarmersModel", "number", "(JJ)I"⟩, 53), (⟨"MillFarmersModel", "reckon", "(I)V"⟩, 53), (⟨"MillFarmersModel", "partOf", "(JI)J"⟩, 53), (⟨"MillFarmersModel", "stand", "(I)V"⟩, 53), (⟨"MillFarmersModel", "givenAt", "(IJ)J"⟩, 53), (⟨"MillFarmersModel", "foretold", "(I)J"⟩, 53), (⟨"MillFarmersModel", "walk", "(I)V"⟩, 53), (⟨"MillFarmersModel", "addPlace", "(I)V"⟩, 53), (⟨"MillFarmersModel", "metAt", "(II)I"⟩, 53), (⟨"MillFarmersModel", "widen", "(IIIIII)V"⟩, 53), (⟨"MillFarmersModel", "leastOf", "(I)I"⟩, 53)]
theorem lw_r4 : ∀ q ∈ lw_privs_4, lw_okq q := List.forall_mem_cons.mpr ⟨lw_p48, List.forall_mem_cons.mpr ⟨lw_p49, List.forall_mem_cons.mpr ⟨lw_p50, List.forall_mem_cons.mpr ⟨lw_p51, List.forall_mem_cons.mpr ⟨lw_p52, List.forall_mem_cons.mpr ⟨lw_p53, List.forall_mem_cons.mpr ⟨lw_p54, List.forall_mem_cons.mpr ⟨lw_p55, List.forall_mem_cons.mpr ⟨lw_p56, List.forall_mem_cons.mpr ⟨lw_p57, List.forall_mem_cons.mpr ⟨lw_p58, List.forall_mem_cons.mpr ⟨lw_p59, List.forall_mem_cons.mpr ⟨lw_p60, List.forall_mem_cons.mpr ⟨lw_p61, List.forall_mem_cons.mpr ⟨lw_p62, List.forall_mem_cons.mpr ⟨lw_p63, fun _ h => absurd h List.not_mem_nil⟩⟩⟩⟩⟩⟩⟩⟩⟩⟩⟩⟩⟩⟩⟩⟩
def lw_privs : List (MethodName × Nat) := lw_privs_1 ++ (lw_privs_2 ++ (lw_privs_3 ++ (lw_privs_4)))
def lw_tbl : List Cond := k2_sels lw_privs ++ tables_1
theorem lw_privs_ok : ∀ q ∈ lw_privs, lw_okq q := by
  show ∀ q ∈ lw_privs_1 ++ (lw_privs_2 ++ (lw_privs_3 ++ (lw_privs_4))), lw_okq q
  exact List.forall_mem_append.mpr ⟨lw_r1, List.forall_mem_append.mpr ⟨lw_r2, List.forall_mem_append.mpr ⟨lw_r3, lw_r4⟩⟩⟩
-- ===== end of PART A; then your names; then what follows =====
end
section
def RX0 : String := "MillFarmers$Baskets"
def TX0 : u_T := fun k => match k with
  | 0 => ("MillFarmers$Baskets", "farmer", "[I", true)
  | 1 => ("MillFarmers$Baskets", "weight", "[I", true)
  | 2 => ("MillFarmers$Baskets", "grade", "[I", true)
  | 3 => ("MillFarmers$Baskets", "known", "[I", true)
  | 4 => ("MillFarmers$Baskets", "size", "I", false)
  | _ => ("MillFarmers$Baskets", "weightTogether", "I", false)
def tyX0 : Nat → FieldType := fun k => match k with
  | 0 => .array .int
  | 1 => .array .int
  | 2 => .array .int
  | 3 => .array .int
  | 4 => .int
  | _ => .int
abbrev wsX00 : List Cond := u_ws RX0 TX0 6
theorem nmX0 : ∀ a, a < 6 → ∀ b, b < 6 → a ≠ b → (TX0 a).2.1 ≠ (TX0 b).2.1 := by decide +kernel
theorem tyX0_ok : ∀ k, k < 6 → parseFieldDescriptor (TX0 k).2.2.1 = some (tyX0 k) := by decide +kernel
abbrev cX0_init : ByteArray := prog_2_method_1_code
def yX0_init : MethodName := ⟨RX0, "<init>", "()V"⟩
abbrev cX0_add : ByteArray := prog_2_method_2_code
def yX0_add : MethodName := ⟨RX0, "add", "(IIII)V"⟩
abbrev cX0_ownerOf : ByteArray := prog_2_method_3_code
def yX0_ownerOf : MethodName := ⟨RX0, "ownerOf", "(II)I"⟩
def RX1 : String := "MillFarmers$Books"
def TX1 : u_T := fun k => match k with
  | 0 => ("MillFarmers$Books", "weight", "[J", true)
  | 1 => ("MillFarmers$Books", "lent", "[J", true)
  | 2 => ("MillFarmers$Books", "check", "[J", true)
  | 3 => ("MillFarmers$Books", "beyond", "[J", true)
  | 4 => ("MillFarmers$Books", "off", "[J", true)
  | 5 => ("MillFarmers$Books", "able", "[J", true)
  | 6 => ("MillFarmers$Books", "given", "[J", true)
  | 7 => ("MillFarmers$Books", "paid", "[J", true)
  | 8 => ("MillFarmers$Books", "owedTogether", "J", false)
  | 9 => ("MillFarmers$Books", "ableTogether", "J", false)
  | _ => ("MillFarmers$Books", "givenTogether", "J", false)
def tyX1 : Nat → FieldType := fun k => match k with
  | 0 => .array .long
  | 1 => .array .long
  | 2 => .array .long
  | 3 => .array .long
  | 4 => .array .long
  | 5 => .array .long
  | 6 => .array .long
  | 7 => .array .long
  | 8 => .long
  | 9 => .long
  | _ => .long
abbrev wsX10 : List Cond := u_ws RX1 TX1 11
theorem nmX1 : ∀ a, a < 11 → ∀ b, b < 11 → a ≠ b → (TX1 a).2.1 ≠ (TX1 b).2.1 := by decide +kernel
theorem tyX1_ok : ∀ k, k < 11 → parseFieldDescriptor (TX1 k).2.2.1 = some (tyX1 k) := by decide +kernel
abbrev cX1_init : ByteArray := prog_3_method_1_code
def yX1_init : MethodName := ⟨RX1, "<init>", "()V"⟩
abbrev cX1_draw : ByteArray := prog_3_method_2_code
def yX1_draw : MethodName := ⟨RX1, "draw", "(LMillFarmers$Farmers;LMillFarmers$Credits;LMillFarmers$Baskets;LMillFarmers$Terms;I)V"⟩
abbrev cX1_addCredits : ByteArray := prog_3_method_3_code
def yX1_addCredits : MethodName := ⟨RX1, "addCredits", "(LMillFarmers$Credits;I)V"⟩
abbrev cX1_addBaskets : ByteArray := prog_3_method_4_code
def yX1_addBaskets : MethodName := ⟨RX1, "addBaskets", "(LMillFarmers$Farmers;LMillFarmers$Baskets;LMillFarmers$Terms;I)V"⟩
abbrev cX1_pay : ByteArray := prog_3_method_5_code
def yX1_pay : MethodName := ⟨RX1, "pay", "(I)J"⟩
abbrev cX1_debt : ByteArray := prog_3_method_6_code
def yX1_debt : MethodName := ⟨RX1, "debt", "(I)J"⟩
abbrev cX1_stand : ByteArray := prog_3_method_7_code
def yX1_stand : MethodName := ⟨RX1, "stand", "(LMillFarmers$Farmers;LMillFarmers$Terms;I)V"⟩
abbrev cX1_giveEvenly : ByteArray := prog_3_method_8_code
def yX1_giveEvenly : MethodName := ⟨RX1, "giveEvenly", "(I)V"⟩
abbrev cX1_greatestLevel : ByteArray := prog_3_method_9_code
def yX1_greatestLevel : MethodName := ⟨RX1, "greatestLevel", "(I)J"⟩
abbrev cX1_sumAtLevel : ByteArray := prog_3_method_10_code
def yX1_sumAtLevel : MethodName := ⟨RX1, "sumAtLevel", "(JI)J"⟩
abbrev cX1_payDebts : ByteArray := prog_3_method_11_code
def yX1_payDebts : MethodName := ⟨RX1, "payDebts", "(LMillFarmers$Farmers;I)V"⟩
def RX2 : String := "MillFarmers$ContractReader"
def TX2 : u_T := fun k => match k with
  | 0 => ("MillFarmers$ContractReader", "text", "LMillFarmers$Tape;", true)
  | 1 => ("MillFarmers$ContractReader", "terms", "LMillFarmers$Terms;", false)
  | 2 => ("MillFarmers$ContractReader", "kind", "I", false)
  | 3 => ("MillFarmers$ContractReader", "start", "I", false)
  | _ => ("MillFarmers$ContractReader", "behind", "I", false)
def tyX2 : Nat → FieldType := fun k => match k with
  | 0 => .object "MillFarmers$Tape"
  | 1 => .object "MillFarmers$Terms"
  | 2 => .int
  | 3 => .int
  | _ => .int
abbrev wsX20 : List Cond := u_ws RX2 TX2 5
theorem nmX2 : ∀ a, a < 5 → ∀ b, b < 5 → a ≠ b → (TX2 a).2.1 ≠ (TX2 b).2.1 := by decide +kernel
theorem tyX2_ok : ∀ k, k < 5 → parseFieldDescriptor (TX2 k).2.2.1 = some (tyX2 k) := by decide +kernel
abbrev cX2_init : ByteArray := prog_4_method_1_code
def yX2_init : MethodName := ⟨RX2, "<init>", "(LMillFarmers$Tape;LMillFarmers$Terms;)V"⟩
abbrev cX2_read : ByteArray := prog_4_method_2_code
def yX2_read : MethodName := ⟨RX2, "read", "(LMillFarmers$Terms;)I"⟩
abbrev cX2_readClause : ByteArray := prog_4_method_3_code
def yX2_readClause : MethodName := ⟨RX2, "readClause", "()Z"⟩
abbrev cX2_readPrice : ByteArray := prog_4_method_4_code
def yX2_readPrice : MethodName := ⟨RX2, "readPrice", "()Z"⟩
abbrev cX2_readQuota : ByteArray := prog_4_method_5_code
def yX2_readQuota : MethodName := ⟨RX2, "readQuota", "()Z"⟩
abbrev cX2_readShare : ByteArray := prog_4_method_6_code
def yX2_readShare : MethodName := ⟨RX2, "readShare", "(I)Z"⟩
abbrev cX2_next : ByteArray := prog_4_method_7_code
def yX2_next : MethodName := ⟨RX2, "next", "()V"⟩
abbrev cX2_kindAt : ByteArray := prog_4_method_8_code
def yX2_kindAt : MethodName := ⟨RX2, "kindAt", "(I)I"⟩
abbrev cX2_isSemicolon : ByteArray := prog_4_method_9_code
def yX2_isSemicolon : MethodName := ⟨RX2, "isSemicolon", "()Z"⟩
abbrev cX2_isWord : ByteArray := prog_4_method_10_code
def yX2_isWord : MethodName := ⟨RX2, "isWord", "(Ljava/lang/String;)Z"⟩
abbrev cX2_number : ByteArray := prog_4_method_11_code
def yX2_number : MethodName := ⟨RX2, "number", "()I"⟩
def RX3 : String := "MillFarmers$Credits"
def TX3 : u_T := fun k => match k with
  | 0 => ("MillFarmers$Credits", "farmer", "[I", true)
  | 1 => ("MillFarmers$Credits", "amount", "[I", true)
  | 2 => ("MillFarmers$Credits", "known", "[I", true)
  | _ => ("MillFarmers$Credits", "size", "I", false)
def tyX3 : Nat → FieldType := fun k => match k with
  | 0 => .array .int
  | 1 => .array .int
  | 2 => .array .int
  | _ => .int
abbrev wsX30 : List Cond := u_ws RX3 TX3 4
theorem nmX3 : ∀ a, a < 4 → ∀ b, b < 4 → a ≠ b → (TX3 a).2.1 ≠ (TX3 b).2.1 := by decide +kernel
theorem tyX3_ok : ∀ k, k < 4 → parseFieldDescriptor (TX3 k).2.2.1 = some (tyX3 k) := by decide +kernel
abbrev cX3_init : ByteArray := prog_5_method_1_code
def yX3_init : MethodName := ⟨RX3, "<init>", "()V"⟩
abbrev cX3_add : ByteArray := prog_5_method_2_code
def yX3_add : MethodName := ⟨RX3, "add", "(III)V"⟩
def RX4 : String := "MillFarmers$Farmers"
def TX4 : u_T := fun k => match k with
  | 0 => ("MillFarmers$Farmers", "group", "[I", true)
  | 1 => ("MillFarmers$Farmers", "place", "[I", true)
  | 2 => ("MillFarmers$Farmers", "fields", "[I", true)
  | _ => ("MillFarmers$Farmers", "size", "I", false)
def tyX4 : Nat → FieldType := fun k => match k with
  | 0 => .array .int
  | 1 => .array .int
  | 2 => .array .int
  | _ => .int
abbrev wsX40 : List Cond := u_ws RX4 TX4 4
theorem nmX4 : ∀ a, a < 4 → ∀ b, b < 4 → a ≠ b → (TX4 a).2.1 ≠ (TX4 b).2.1 := by decide +kernel
theorem tyX4_ok : ∀ k, k < 4 → parseFieldDescriptor (TX4 k).2.2.1 = some (tyX4 k) := by decide +kernel
abbrev cX4_init : ByteArray := prog_6_method_1_code
def yX4_init : MethodName := ⟨RX4, "<init>", "()V"⟩
abbrev cX4_add : ByteArray := prog_6_method_2_code
def yX4_add : MethodName := ⟨RX4, "add", "(III)V"⟩
abbrev cX4_howManyIn : ByteArray := prog_6_method_3_code
def yX4_howManyIn : MethodName := ⟨RX4, "howManyIn", "(I)I"⟩
def RX5 : String := "MillFarmers$Land"
def TX5 : u_T := fun k => match k with
  | 0 => ("MillFarmers$Land", "from", "[I", true)
  | 1 => ("MillFarmers$Land", "to", "[I", true)
  | 2 => ("MillFarmers$Land", "part", "[I", true)
  | 3 => ("MillFarmers$Land", "size", "I", false)
  | _ => ("MillFarmers$Land", "yieldOfField", "I", false)
def tyX5 : Nat → FieldType := fun k => match k with
  | 0 => .array .int
  | 1 => .array .int
  | 2 => .array .int
  | 3 => .int
  | _ => .int
abbrev wsX50 : List Cond := u_ws RX5 TX5 5
theorem nmX5 : ∀ a, a < 5 → ∀ b, b < 5 → a ≠ b → (TX5 a).2.1 ≠ (TX5 b).2.1 := by decide +kernel
theorem tyX5_ok : ∀ k, k < 5 → parseFieldDescriptor (TX5 k).2.2.1 = some (tyX5 k) := by decide +kernel
abbrev cX5_init : ByteArray := prog_7_method_1_code
def yX5_init : MethodName := ⟨RX5, "<init>", "()V"⟩
abbrev cX5_add : ByteArray := prog_7_method_2_code
def yX5_add : MethodName := ⟨RX5, "add", "(III)V"⟩
abbrev cX5_lostAt : ByteArray := prog_7_method_3_code
def yX5_lostAt : MethodName := ⟨RX5, "lostAt", "(I)I"⟩
abbrev cX5_foretold : ByteArray := prog_7_method_4_code
def yX5_foretold : MethodName := ⟨RX5, "foretold", "(II)J"⟩
def RX6 : String := "MillFarmers$Road"
def TX6 : u_T := fun k => match k with
  | 0 => ("MillFarmers$Road", "place", "[I", true)
  | 1 => ("MillFarmers$Road", "hour", "[I", true)
  | 2 => ("MillFarmers$Road", "earliest", "[I", true)
  | 3 => ("MillFarmers$Road", "hourOfCount", "[I", true)
  | 4 => ("MillFarmers$Road", "size", "I", false)
  | 5 => ("MillFarmers$Road", "begin", "I", false)
  | 6 => ("MillFarmers$Road", "left", "I", false)
  | _ => ("MillFarmers$Road", "right", "I", false)
def tyX6 : Nat → FieldType := fun k => match k with
  | 0 => .array .int
  | 1 => .array .int
  | 2 => .array .int
  | 3 => .array .int
  | 4 => .int
  | 5 => .int
  | 6 => .int
  | _ => .int
abbrev wsX60 : List Cond := u_ws RX6 TX6 8
theorem nmX6 : ∀ a, a < 8 → ∀ b, b < 8 → a ≠ b → (TX6 a).2.1 ≠ (TX6 b).2.1 := by decide +kernel
theorem tyX6_ok : ∀ k, k < 8 → parseFieldDescriptor (TX6 k).2.2.1 = some (tyX6 k) := by decide +kernel
abbrev cX6_init : ByteArray := prog_8_method_1_code
def yX6_init : MethodName := ⟨RX6, "<init>", "()V"⟩
abbrev cX6_add : ByteArray := prog_8_method_2_code
def yX6_add : MethodName := ⟨RX6, "add", "(II)V"⟩
abbrev cX6_walk : ByteArray := prog_8_method_3_code
def yX6_walk : MethodName := ⟨RX6, "walk", "(I)V"⟩
abbrev cX6_goOnFrom : ByteArray := prog_8_method_4_code
def yX6_goOnFrom : MethodName := ⟨RX6, "goOnFrom", "(III)V"⟩
abbrev cX6_arrive : ByteArray := prog_8_method_5_code
def yX6_arrive : MethodName := ⟨RX6, "arrive", "(III)V"⟩
abbrev cX6_placeAtEnd : ByteArray := prog_8_method_6_code
def yX6_placeAtEnd : MethodName := ⟨RX6, "placeAtEnd", "(III)I"⟩
abbrev cX6_cellOf : ByteArray := prog_8_method_7_code
def yX6_cellOf : MethodName := ⟨RX6, "cellOf", "(IIII)I"⟩
abbrev cX6_mostMet : ByteArray := prog_8_method_8_code
def yX6_mostMet : MethodName := ⟨RX6, "mostMet", "()I"⟩
abbrev cX6_firstHourWith : ByteArray := prog_8_method_9_code
def yX6_firstHourWith : MethodName := ⟨RX6, "firstHourWith", "(I)I"⟩
def RX7 : String := "MillFarmers$Tape"
def TX7 : u_T := fun k => match k with
  | 0 => ("MillFarmers$Tape", "bytes", "[I", true)
  | _ => ("MillFarmers$Tape", "length", "I", false)
def tyX7 : Nat → FieldType := fun k => match k with
  | 0 => .array .int
  | _ => .int
abbrev wsX70 : List Cond := u_ws RX7 TX7 2
theorem nmX7 : ∀ a, a < 2 → ∀ b, b < 2 → a ≠ b → (TX7 a).2.1 ≠ (TX7 b).2.1 := by decide +kernel
theorem tyX7_ok : ∀ k, k < 2 → parseFieldDescriptor (TX7 k).2.2.1 = some (tyX7 k) := by decide +kernel
abbrev cX7_init : ByteArray := prog_9_method_1_code
def yX7_init : MethodName := ⟨RX7, "<init>", "()V"⟩
abbrev cX7_append : ByteArray := prog_9_method_2_code
def yX7_append : MethodName := ⟨RX7, "append", "(I)V"⟩
def RX8 : String := "MillFarmers$Terms"
def TX8 : u_T := fun k => match k with
  | 0 => ("MillFarmers$Terms", "price", "[I", true)
  | 1 => ("MillFarmers$Terms", "upper", "[I", true)
  | 2 => ("MillFarmers$Terms", "lower", "[I", true)
  | 3 => ("MillFarmers$Terms", "quota", "I", false)
  | _ => ("MillFarmers$Terms", "clauses", "I", false)
def tyX8 : Nat → FieldType := fun k => match k with
  | 0 => .array .int
  | 1 => .array .int
  | 2 => .array .int
  | 3 => .int
  | _ => .int
abbrev wsX80 : List Cond := u_ws RX8 TX8 5
theorem nmX8 : ∀ a, a < 5 → ∀ b, b < 5 → a ≠ b → (TX8 a).2.1 ≠ (TX8 b).2.1 := by decide +kernel
theorem tyX8_ok : ∀ k, k < 5 → parseFieldDescriptor (TX8 k).2.2.1 = some (tyX8 k) := by decide +kernel
abbrev cX8_init : ByteArray := prog_10_method_1_code
def yX8_init : MethodName := ⟨RX8, "<init>", "()V"⟩
abbrev cX8_reset : ByteArray := prog_10_method_2_code
def yX8_reset : MethodName := ⟨RX8, "reset", "()V"⟩
abbrev cX8_setShare : ByteArray := prog_10_method_3_code
def yX8_setShare : MethodName := ⟨RX8, "setShare", "(III)V"⟩
abbrev cX8_shareOf : ByteArray := prog_10_method_4_code
def yX8_shareOf : MethodName := ⟨RX8, "shareOf", "(IJ)J"⟩
def RX9 : String := "MillFarmers"
def TX9 : u_T := fun k => match k with
  | 0 => ("MillFarmers", "farmers", "LMillFarmers$Farmers;", true)
  | 1 => ("MillFarmers", "credits", "LMillFarmers$Credits;", true)
  | 2 => ("MillFarmers", "baskets", "LMillFarmers$Baskets;", true)
  | 3 => ("MillFarmers", "tape", "LMillFarmers$Tape;", true)
  | 4 => ("MillFarmers", "reader", "LMillFarmers$ContractReader;", true)
  | 5 => ("MillFarmers", "books", "LMillFarmers$Books;", true)
  | 6 => ("MillFarmers", "land", "LMillFarmers$Land;", true)
  | 7 => ("MillFarmers", "road", "LMillFarmers$Road;", true)
  | 8 => ("MillFarmers", "terms", "LMillFarmers$Terms;", false)
  | 9 => ("MillFarmers", "draft", "LMillFarmers$Terms;", false)
  | 10 => ("MillFarmers", "faultPlace", "I", false)
  | _ => ("MillFarmers", "refusal", "I", false)
def tyX9 : Nat → FieldType := fun k => match k with
  | 0 => .object "MillFarmers$Farmers"
  | 1 => .object "MillFarmers$Credits"
  | 2 => .object "MillFarmers$Baskets"
  | 3 => .object "MillFarmers$Tape"
  | 4 => .object "MillFarmers$ContractReader"
  | 5 => .object "MillFarmers$Books"
  | 6 => .object "MillFarmers$Land"
  | 7 => .object "MillFarmers$Road"
  | 8 => .object "MillFarmers$Terms"
  | 9 => .object "MillFarmers$Terms"
  | 10 => .int
  | _ => .int
abbrev wsX90 : List Cond := u_ws RX9 TX9 12
theorem nmX9 : ∀ a, a < 12 → ∀ b, b < 12 → a ≠ b → (TX9 a).2.1 ≠ (TX9 b).2.1 := by decide +kernel
theorem tyX9_ok : ∀ k, k < 12 → parseFieldDescriptor (TX9 k).2.2.1 = some (tyX9 k) := by decide +kernel
abbrev cX9_init : ByteArray := prog_1_method_1_code
def yX9_init : MethodName := ⟨RX9, "<init>", "()V"⟩
abbrev cX9_farmer : ByteArray := prog_1_method_2_code
def yX9_farmer : MethodName := ⟨RX9, "farmer", "(III)I"⟩
abbrev cX9_credit : ByteArray := prog_1_method_3_code
def yX9_credit : MethodName := ⟨RX9, "credit", "(III)I"⟩
abbrev cX9_basket : ByteArray := prog_1_method_4_code
def yX9_basket : MethodName := ⟨RX9, "basket", "(IIII)I"⟩
abbrev cX9_feed : ByteArray := prog_1_method_5_code
def yX9_feed : MethodName := ⟨RX9, "feed", "(IIIII)I"⟩
abbrev cX9_end : ByteArray := prog_1_method_6_code
def yX9_end : MethodName := ⟨RX9, "end", "(I)I"⟩
abbrev cX9_contract : ByteArray := prog_1_method_7_code
def yX9_contract : MethodName := ⟨RX9, "contract", "()I"⟩
abbrev cX9_fault : ByteArray := prog_1_method_8_code
def yX9_fault : MethodName := ⟨RX9, "fault", "()I"⟩
abbrev cX9_of : ByteArray := prog_1_method_9_code
def yX9_of : MethodName := ⟨RX9, "of", "(III)J"⟩
abbrev cX9_group : ByteArray := prog_1_method_10_code
def yX9_group : MethodName := ⟨RX9, "group", "(III)J"⟩
abbrev cX9_bears : ByteArray := prog_1_method_11_code
def yX9_bears : MethodName := ⟨RX9, "bears", "(I)I"⟩
abbrev cX9_drought : ByteArray := prog_1_method_12_code
def yX9_drought : MethodName := ⟨RX9, "drought", "(III)I"⟩
abbrev cX9_visit : ByteArray := prog_1_method_13_code
def yX9_visit : MethodName := ⟨RX9, "visit", "(II)I"⟩
abbrev cX9_clear : ByteArray := prog_1_method_14_code
def yX9_clear : MethodName := ⟨RX9, "clear", "()I"⟩
abbrev cX9_most : ByteArray := prog_1_method_15_code
def yX9_most : MethodName := ⟨RX9, "most", "(I)I"⟩
abbrev cX9_least : ByteArray := prog_1_method_16_code
def yX9_least : MethodName := ⟨RX9, "least", "(II)I"⟩
abbrev cX9_led : ByteArray := prog_1_method_17_code
def yX9_led : MethodName := ⟨RX9, "led", "(II)I"⟩
abbrev cX9_count : ByteArray := prog_1_method_18_code
def yX9_count : MethodName := ⟨RX9, "count", "(I)I"⟩
abbrev cX9_status : ByteArray := prog_1_method_19_code
def yX9_status : MethodName := ⟨RX9, "status", "()I"⟩
abbrev cX9_refuse : ByteArray := prog_1_method_20_code
def yX9_refuse : MethodName := ⟨RX9, "refuse", "(I)I"⟩
abbrev cX9_accept : ByteArray := prog_1_method_21_code
def yX9_accept : MethodName := ⟨RX9, "accept", "(I)I"⟩
abbrev cX9_isNoFarmer : ByteArray := prog_1_method_22_code
def yX9_isNoFarmer : MethodName := ⟨RX9, "isNoFarmer", "(I)Z"⟩
abbrev cX9_foretold : ByteArray := prog_1_method_23_code
def yX9_foretold : MethodName := ⟨RX9, "foretold", "(I)J"⟩
abbrev cX9_isShort : ByteArray := prog_1_method_24_code
def yX9_isShort : MethodName := ⟨RX9, "isShort", "(I)Z"⟩
abbrev cX9_outside : ByteArray := prog_1_method_25_code
def yX9_outside : MethodName := ⟨RX9, "outside", "(III)Z"⟩
def RX10 : String := "MillFarmersModel"
def TX10 : u_T := fun k => match k with
  | 0 => ("MillFarmersModel", "thrown", "I", false)
  | 1 => ("MillFarmersModel", "status", "I", false)
  | 2 => ("MillFarmersModel", "farmers", "I", false)
  | 3 => ("MillFarmersModel", "fGroup", "[I", true)
  | 4 => ("MillFarmersModel", "fPlace", "[I", true)
  | 5 => ("MillFarmersModel", "fFields", "[I", true)
  | 6 => ("MillFarmersModel", "credits", "I", false)
  | 7 => ("MillFarmersModel", "cFarmer", "[I", true)
  | 8 => ("MillFarmersModel", "cAmount", "[I", true)
  | 9 => ("MillFarmersModel", "cKnown", "[I", true)
  | 10 => ("MillFarmersModel", "baskets", "I", false)
  | 11 => ("MillFarmersModel", "bFarmer", "[I", true)
  | 12 => ("MillFarmersModel", "bWeight", "[I", true)
  | 13 => ("MillFarmersModel", "bGrade", "[I", true)
  | 14 => ("MillFarmersModel", "bKnown", "[I", true)
  | 15 => ("MillFarmersModel", "clauses", "I", false)
  | 16 => ("MillFarmersModel", "prices", "[I", true)
  | 17 => ("MillFarmersModel", "quota", "I", false)
  | 18 => ("MillFarmersModel", "partA", "[I", true)
  | 19 => ("MillFarmersModel", "partB", "[I", true)
  | 20 => ("MillFarmersModel", "nMany", "I", false)
  | 21 => ("MillFarmersModel", "nPrices", "[I", true)
  | 22 => ("MillFarmersModel", "nQuota", "I", false)
  | 23 => ("MillFarmersModel", "nA", "[I", true)
  | 24 => ("MillFarmersModel", "nB", "[I", true)
  | 25 => ("MillFarmersModel", "tape", "[I", true)
  | 26 => ("MillFarmersModel", "taped", "I", false)
  | 27 => ("MillFarmersModel", "from", "I", false)
  | 28 => ("MillFarmersModel", "to", "I", false)
  | 29 => ("MillFarmersModel", "sort", "I", false)
  | 30 => ("MillFarmersModel", "worth", "J", false)
  | 31 => ("MillFarmersModel", "fault", "I", false)
  | 32 => ("MillFarmersModel", "bad", "Z", false)
  | 33 => ("MillFarmersModel", "weights", "[J", true)
  | 34 => ("MillFarmersModel", "owes", "[J", true)
  | 35 => ("MillFarmersModel", "checks", "[J", true)
  | 36 => ("MillFarmersModel", "offs", "[J", true)
  | 37 => ("MillFarmersModel", "rests", "[J", true)
  | 38 => ("MillFarmersModel", "quotas", "[J", true)
  | 39 => ("MillFarmersModel", "can", "[J", true)
  | 40 => ("MillFarmersModel", "given", "[J", true)
  | 41 => ("MillFarmersModel", "left", "[J", true)
  | 42 => ("MillFarmersModel", "bearing", "I", false)
  | 43 => ("MillFarmersModel", "droughts", "I", false)
  | 44 => ("MillFarmersModel", "dFrom", "[I", true)
  | 45 => ("MillFarmersModel", "dTo", "[I", true)
  | 46 => ("MillFarmersModel", "dPart", "[I", true)
  | 47 => ("MillFarmersModel", "visits", "I", false)
  | 48 => ("MillFarmersModel", "vFarmer", "[I", true)
  | 49 => ("MillFarmersModel", "vHour", "[I", true)
  | 50 => ("MillFarmersModel", "places", "I", false)
  | 51 => ("MillFarmersModel", "place", "[I", true)
  | _ => ("MillFarmersModel", "early", "[I", true)
def tyX10 : Nat → FieldType := fun k => match k with
  | 0 => .int
  | 1 => .int
  | 2 => .int
  | 3 => .array .int
  | 4 => .array .int
  | 5 => .array .int
  | 6 => .int
  | 7 => .array .int
  | 8 => .array .int
  | 9 => .array .int
  | 10 => .int
  | 11 => .array .int
  | 12 => .array .int
  | 13 => .array .int
  | 14 => .array .int
  | 15 => .int
  | 16 => .array .int
  | 17 => .int
  | 18 => .array .int
  | 19 => .array .int
  | 20 => .int
  | 21 => .array .int
  | 22 => .int
  | 23 => .array .int
  | 24 => .array .int
  | 25 => .array .int
  | 26 => .int
  | 27 => .int
  | 28 => .int
  | 29 => .int
  | 30 => .long
  | 31 => .int
  | 32 => .boolean
  | 33 => .array .long
  | 34 => .array .long
  | 35 => .array .long
  | 36 => .array .long
  | 37 => .array .long
  | 38 => .array .long
  | 39 => .array .long
  | 40 => .array .long
  | 41 => .array .long
  | 42 => .int
  | 43 => .int
  | 44 => .array .int
  | 45 => .array .int
  | 46 => .array .int
  | 47 => .int
  | 48 => .array .int
  | 49 => .array .int
  | 50 => .int
  | 51 => .array .int
  | _ => .array .int
abbrev wsX100 : List Cond := u_ws RX10 TX10 53
theorem nmX10 : ∀ a, a < 53 → ∀ b, b < 53 → a ≠ b → (TX10 a).2.1 ≠ (TX10 b).2.1 := by decide +kernel
theorem tyX10_ok : ∀ k, k < 53 → parseFieldDescriptor (TX10 k).2.2.1 = some (tyX10 k) := by decide +kernel
abbrev cX10_init : ByteArray := prog_12_method_1_code
def yX10_init : MethodName := ⟨RX10, "<init>", "()V"⟩
abbrev cX10_in : ByteArray := prog_12_method_3_code
def yX10_in : MethodName := ⟨RX10, "in", "(JJJ)Z"⟩
abbrev cX10_told : ByteArray := prog_12_method_4_code
def yX10_told : MethodName := ⟨RX10, "told", "(I)I"⟩
abbrev cX10_isDay : ByteArray := prog_12_method_5_code
def yX10_isDay : MethodName := ⟨RX10, "isDay", "(I)Z"⟩
abbrev cX10_isFarmer : ByteArray := prog_12_method_6_code
def yX10_isFarmer : MethodName := ⟨RX10, "isFarmer", "(I)Z"⟩
abbrev cX10_farmer : ByteArray := prog_12_method_7_code
def yX10_farmer : MethodName := ⟨RX10, "farmer", "(III)I"⟩
abbrev cX10_credit : ByteArray := prog_12_method_8_code
def yX10_credit : MethodName := ⟨RX10, "credit", "(III)I"⟩
abbrev cX10_basket : ByteArray := prog_12_method_9_code
def yX10_basket : MethodName := ⟨RX10, "basket", "(IIII)I"⟩
abbrev cX10_four : ByteArray := prog_12_method_10_code
def yX10_four : MethodName := ⟨RX10, "four", "(I)V"⟩
abbrev cX10_feed : ByteArray := prog_12_method_11_code
def yX10_feed : MethodName := ⟨RX10, "feed", "(IIIII)I"⟩
abbrev cX10_end : ByteArray := prog_12_method_12_code
def yX10_end : MethodName := ⟨RX10, "end", "(I)I"⟩
abbrev cX10_isSmall : ByteArray := prog_12_method_13_code
def yX10_isSmall : MethodName := ⟨RX10, "isSmall", "(I)Z"⟩
abbrev cX10_isDigit : ByteArray := prog_12_method_14_code
def yX10_isDigit : MethodName := ⟨RX10, "isDigit", "(I)Z"⟩
abbrev cX10_next : ByteArray := prog_12_method_15_code
def yX10_next : MethodName := ⟨RX10, "next", "()V"⟩
abbrev cX10_isWord : ByteArray := prog_12_method_16_code
def yX10_isWord : MethodName := ⟨RX10, "isWord", "(IIIII)Z"⟩
abbrev cX10_must : ByteArray := prog_12_method_17_code
def yX10_must : MethodName := ⟨RX10, "must", "(Z)V"⟩
abbrev cX10_number : ByteArray := prog_12_method_18_code
def yX10_number : MethodName := ⟨RX10, "number", "(JJ)I"⟩
abbrev cX10_partAt : ByteArray := prog_12_method_19_code
def yX10_partAt : MethodName := ⟨RX10, "partAt", "()I"⟩
abbrev cX10_readClause : ByteArray := prog_12_method_20_code
def yX10_readClause : MethodName := ⟨RX10, "readClause", "()V"⟩
abbrev cX10_contract : ByteArray := prog_12_method_21_code
def yX10_contract : MethodName := ⟨RX10, "contract", "()I"⟩
abbrev cX10_fault : ByteArray := prog_12_method_22_code
def yX10_fault : MethodName := ⟨RX10, "fault", "()I"⟩
abbrev cX10_partOf : ByteArray := prog_12_method_23_code
def yX10_partOf : MethodName := ⟨RX10, "partOf", "(JI)J"⟩
abbrev cX10_reckon : ByteArray := prog_12_method_24_code
def yX10_reckon : MethodName := ⟨RX10, "reckon", "(I)V"⟩
abbrev cX10_givenAt : ByteArray := prog_12_method_25_code
def yX10_givenAt : MethodName := ⟨RX10, "givenAt", "(IJ)J"⟩
abbrev cX10_stand : ByteArray := prog_12_method_26_code
def yX10_stand : MethodName := ⟨RX10, "stand", "(I)V"⟩
abbrev cX10_bears : ByteArray := prog_12_method_27_code
def yX10_bears : MethodName := ⟨RX10, "bears", "(I)I"⟩
abbrev cX10_drought : ByteArray := prog_12_method_28_code
def yX10_drought : MethodName := ⟨RX10, "drought", "(III)I"⟩
abbrev cX10_foretold : ByteArray := prog_12_method_29_code
def yX10_foretold : MethodName := ⟨RX10, "foretold", "(I)J"⟩
abbrev cX10_of : ByteArray := prog_12_method_30_code
def yX10_of : MethodName := ⟨RX10, "of", "(III)J"⟩
abbrev cX10_group : ByteArray := prog_12_method_31_code
def yX10_group : MethodName := ⟨RX10, "group", "(III)J"⟩
abbrev cX10_visit : ByteArray := prog_12_method_32_code
def yX10_visit : MethodName := ⟨RX10, "visit", "(II)I"⟩
abbrev cX10_clear : ByteArray := prog_12_method_33_code
def yX10_clear : MethodName := ⟨RX10, "clear", "()I"⟩
abbrev cX10_addPlace : ByteArray := prog_12_method_34_code
def yX10_addPlace : MethodName := ⟨RX10, "addPlace", "(I)V"⟩
abbrev cX10_metAt : ByteArray := prog_12_method_35_code
def yX10_metAt : MethodName := ⟨RX10, "metAt", "(II)I"⟩
abbrev cX10_at : ByteArray := prog_12_method_36_code
def yX10_at : MethodName := ⟨RX10, "at", "(IIII)I"⟩
abbrev cX10_widen : ByteArray := prog_12_method_37_code
def yX10_widen : MethodName := ⟨RX10, "widen", "(IIIIII)V"⟩
abbrev cX10_walk : ByteArray := prog_12_method_38_code
def yX10_walk : MethodName := ⟨RX10, "walk", "(I)V"⟩
abbrev cX10_leastOf : ByteArray := prog_12_method_39_code
def yX10_leastOf : MethodName := ⟨RX10, "leastOf", "(I)I"⟩
abbrev cX10_most : ByteArray := prog_12_method_40_code
def yX10_most : MethodName := ⟨RX10, "most", "(I)I"⟩
abbrev cX10_least : ByteArray := prog_12_method_41_code
def yX10_least : MethodName := ⟨RX10, "least", "(II)I"⟩
abbrev cX10_led : ByteArray := prog_12_method_42_code
def yX10_led : MethodName := ⟨RX10, "led", "(II)I"⟩
abbrev cX10_count : ByteArray := prog_12_method_43_code
def yX10_count : MethodName := ⟨RX10, "count", "(I)I"⟩
abbrev cX10_status : ByteArray := prog_12_method_44_code
def yX10_status : MethodName := ⟨RX10, "status", "()I"⟩
def RJ9 : String := "java/lang/Math"
def TJ9 : u_T := fun k => match k with
  | _ => ("", "", "", false)
def tyJ9 : Nat → FieldType := fun k => match k with
  | _ => .int
abbrev wsJ90 : List Cond := u_ws RJ9 TJ9 0
theorem nmJ9 : ∀ a, a < 0 → ∀ b, b < 0 → a ≠ b → (TJ9 a).2.1 ≠ (TJ9 b).2.1 := by decide +kernel
theorem tyJ9_ok : ∀ k, k < 0 → parseFieldDescriptor (TJ9 k).2.2.1 = some (tyJ9 k) := by decide +kernel
abbrev cJ9_max_7cf53 : ByteArray := prog_13_method_65_code
def yJ9_max_7cf53 : MethodName := ⟨RJ9, "max", "(II)I"⟩
abbrev cJ9_max_f86c9 : ByteArray := prog_13_method_66_code
def yJ9_max_f86c9 : MethodName := ⟨RJ9, "max", "(JJ)J"⟩
abbrev cJ9_min_7cf53 : ByteArray := prog_13_method_69_code
def yJ9_min_7cf53 : MethodName := ⟨RJ9, "min", "(II)I"⟩
abbrev cJ9_min_f86c9 : ByteArray := prog_13_method_70_code
def yJ9_min_f86c9 : MethodName := ⟨RJ9, "min", "(JJ)J"⟩
def RJ0 : String := "java/lang/String"
def TJ0 : u_T := fun k => match k with
  | _ => ("", "", "", false)
def tyJ0 : Nat → FieldType := fun k => match k with
  | _ => .int
abbrev wsJ00 : List Cond := u_ws RJ0 TJ0 0
theorem nmJ0 : ∀ a, a < 0 → ∀ b, b < 0 → a ≠ b → (TJ0 a).2.1 ≠ (TJ0 b).2.1 := by decide +kernel
theorem tyJ0_ok : ∀ k, k < 0 → parseFieldDescriptor (TJ0 k).2.2.1 = some (tyJ0 k) := by decide +kernel
abbrev cJ0_length_8abf5 : ByteArray := prog_14_method_54_code
def yJ0_length_8abf5 : MethodName := ⟨RJ0, "length", "()I"⟩
abbrev cJ0_charAt_5068e : ByteArray := prog_14_method_56_code
def yJ0_charAt_5068e : MethodName := ⟨RJ0, "charAt", "(I)C"⟩
abbrev cJ0_coder_7d493 : ByteArray := prog_14_method_152_code
def yJ0_coder_7d493 : MethodName := ⟨RJ0, "coder", "()B"⟩
abbrev cJ0_isLatin1_aae02 : ByteArray := prog_14_method_154_code
def yJ0_isLatin1_aae02 : MethodName := ⟨RJ0, "isLatin1", "()Z"⟩
abbrev cJ0_checkIndex_df160 : ByteArray := prog_14_method_155_code
def yJ0_checkIndex_df160 : MethodName := ⟨RJ0, "checkIndex", "(II)V"⟩
def RJ1 : String := "java/lang/StringLatin1"
def TJ1 : u_T := fun k => match k with
  | _ => ("", "", "", false)
def tyJ1 : Nat → FieldType := fun k => match k with
  | _ => .int
abbrev wsJ10 : List Cond := u_ws RJ1 TJ1 0
theorem nmJ1 : ∀ a, a < 0 → ∀ b, b < 0 → a ≠ b → (TJ1 a).2.1 ≠ (TJ1 b).2.1 := by decide +kernel
theorem tyJ1_ok : ∀ k, k < 0 → parseFieldDescriptor (TJ1 k).2.2.1 = some (tyJ1 k) := by decide +kernel
abbrev cJ1_charAt_3b067 : ByteArray := prog_15_method_2_code
def yJ1_charAt_3b067 : MethodName := ⟨RJ1, "charAt", "([BI)C"⟩
def RJ2 : String := "java/lang/StringUTF16"
def TJ2 : u_T := fun k => match k with
  | _ => ("", "", "", false)
def tyJ2 : Nat → FieldType := fun k => match k with
  | _ => .int
abbrev wsJ20 : List Cond := u_ws RJ2 TJ2 0
theorem nmJ2 : ∀ a, a < 0 → ∀ b, b < 0 → a ≠ b → (TJ2 a).2.1 ≠ (TJ2 b).2.1 := by decide +kernel
theorem tyJ2_ok : ∀ k, k < 0 → parseFieldDescriptor (TJ2 k).2.2.1 = some (tyJ2 k) := by decide +kernel
abbrev cJ2_getChar_3b067 : ByteArray := prog_16_method_5_code
def yJ2_getChar_3b067 : MethodName := ⟨RJ2, "getChar", "([BI)C"⟩
abbrev cJ2_length_9d52b : ByteArray := prog_16_method_6_code
def yJ2_length_9d52b : MethodName := ⟨RJ2, "length", "([B)I"⟩
abbrev cJ2_charAt_3b067 : ByteArray := prog_16_method_83_code
def yJ2_charAt_3b067 : MethodName := ⟨RJ2, "charAt", "([BI)C"⟩
abbrev cJ2_checkIndex_2214a : ByteArray := prog_16_method_91_code
def yJ2_checkIndex_2214a : MethodName := ⟨RJ2, "checkIndex", "(I[B)V"⟩
def RJ10 : String := "java/lang/System"
def TJ10 : u_T := fun k => match k with
  | _ => ("", "", "", false)
def tyJ10 : Nat → FieldType := fun k => match k with
  | _ => .int
abbrev wsJ100 : List Cond := u_ws RJ10 TJ10 0
theorem nmJ10 : ∀ a, a < 0 → ∀ b, b < 0 → a ≠ b → (TJ10 a).2.1 ≠ (TJ10 b).2.1 := by decide +kernel
theorem tyJ10_ok : ∀ k, k < 0 → parseFieldDescriptor (TJ10 k).2.2.1 = some (tyJ10 k) := by decide +kernel
def RJ7 : String := "java/util/Arrays"
def TJ7 : u_T := fun k => match k with
  | _ => ("", "", "", false)
def tyJ7 : Nat → FieldType := fun k => match k with
  | _ => .int
abbrev wsJ70 : List Cond := u_ws RJ7 TJ7 0
theorem nmJ7 : ∀ a, a < 0 → ∀ b, b < 0 → a ≠ b → (TJ7 a).2.1 ≠ (TJ7 b).2.1 := by decide +kernel
theorem tyJ7_ok : ∀ k, k < 0 → parseFieldDescriptor (TJ7 k).2.2.1 = some (tyJ7 k) := by decide +kernel
abbrev cJ7_fill_d0a16 : ByteArray := prog_18_method_101_code
def yJ7_fill_d0a16 : MethodName := ⟨RJ7, "fill", "([JJ)V"⟩
abbrev cJ7_fill_53178 : ByteArray := prog_18_method_103_code
def yJ7_fill_53178 : MethodName := ⟨RJ7, "fill", "([II)V"⟩
def RJ3 : String := "jdk/internal/util/Preconditions"
def TJ3 : u_T := fun k => match k with
  | _ => ("", "", "", false)
def tyJ3 : Nat → FieldType := fun k => match k with
  | _ => .int
abbrev wsJ30 : List Cond := u_ws RJ3 TJ3 0
theorem nmJ3 : ∀ a, a < 0 → ∀ b, b < 0 → a ≠ b → (TJ3 a).2.1 ≠ (TJ3 b).2.1 := by decide +kernel
theorem tyJ3_ok : ∀ k, k < 0 → parseFieldDescriptor (TJ3 k).2.2.1 = some (tyJ3 k) := by decide +kernel
abbrev cJ3_checkIndex_8e157 : ByteArray := prog_19_method_11_code
def yJ3_checkIndex_8e157 : MethodName := ⟨RJ3, "checkIndex", "(IILjava/util/function/BiFunction;)I"⟩
def RL : String := "MillFarmersLaw"
abbrev cL_law : ByteArray := code
def yL_law : MethodName := ⟨RL, "law", "([I)Z"⟩
abbrev vwCl : List vw_C := [(RX0, TX0, 6), (RX1, TX1, 11), (RX2, TX2, 5), (RX3, TX3, 4), (RX4, TX4, 4), (RX5, TX5, 5), (RX6, TX6, 8), (RX7, TX7, 2), (RX8, TX8, 5), (RX9, TX9, 12), (RX10, TX10, 53)]
end
section
/-! THE LAYER: a method's world is the whole list of cells, by places; a judgement Ev over (pc, locals, stack, cells), a contract Ct -/
def isNest : Cond → Bool
  | .fieldLinkNest .. => true
  | .methodLinkNest .. => true
  | _ => false
def Ts : List Cond := lw_tbl.filter goodWord
def Tn : List Cond := lw_tbl.filter isNest
theorem ts_in {w : Cond} (h : w ∈ lw_tbl) (hg : goodWord w = true) : w ∈ Ts := List.mem_filter.mpr ⟨h, hg⟩
theorem tn_in {w : Cond} (h : w ∈ lw_tbl) (hg : isNest w = true) : w ∈ Tn := List.mem_filter.mpr ⟨h, hg⟩
theorem ts_good {w : Cond} (h : w ∈ Ts) : goodWord w = true := (List.mem_filter.mp h).2
def Nst (U : State) : Prop := ∀ w ∈ Tn, va_Nw w U
theorem Nst.warm {s U : State} (hW : s.WarmedH U.vm) (h : Nst s) : Nst U := by
  intro w hw
  have h1 := h w hw
  have h2 := (List.mem_filter.mp hw).2
  cases w <;> first | exact va_Nw.warmF hW h1 | exact va_Nw.warmM hW h1 | (simp [isNest] at h2)
theorem Nst.same {u U : State} (hv : u.vm = U.vm) (h : Nst u) : Nst U := by
  intro w hw
  have h1 := h w hw
  have h2 := (List.mem_filter.mp hw).2
  cases w <;> first | exact va_Nw.same rfl hv h1 | (simp [isNest] at h2)
/-- a method: its name, its code, its locals, what it returns, its room -/
abbrev MD : Type := MethodName × ByteArray × Nat × Option FieldType × Room
/-- a start: the launch, the classes' numbers and slots, the cells' addresses, the array classes -/
abbrev GG : Type := Launch × va_G × (Nat → Nat) × (Nat → ClassId)
def cv (ad : Nat → Nat) (v : Value) : Value := match v with
  | .ref k => .ref (ad k)
  | w => w
theorem cv_cat (ad : Nat → Nat) (v : Value) : (cv ad v).category = v.category := by cases v <;> rfl
def cz (g : GG) (e : va_E) : va_E := match e with
  | .inl a => .inl (g.2.2.2 a.1, a.2)
  | .inr o => .inr (o.1, o.2.map (cv g.2.2.1))
def wd (g : GG) (hp : List va_E) : va_W := hp.mapIdx (fun k e => (g.2.2.1 k, cz g e))
theorem wd_at {g : GG} {hp : List va_E} {k : Nat} {e : va_E} (h : hp[k]? = some e) : (wd g hp)[k]? = some (g.2.2.1 k, cz g e) := by
  simp [wd, List.getElem?_mapIdx, h]
theorem wd_set {g : GG} {hp : List va_E} {k : Nat} {e : va_E} : (wd g hp).set k (g.2.2.1 k, cz g e) = wd g (hp.set k e) := by
  apply List.ext_getElem?
  intro i
  simp only [wd, List.getElem?_set, List.getElem?_mapIdx, List.length_mapIdx]
  by_cases hi : k = i
  · subst hi
    by_cases hl : k < hp.length
    · simp [hl]
    · simp [hl]
  · simp [hi]
abbrev tysG (g : GG) : List (ClassId × FieldType) := [(g.2.2.2 0, .int), (g.2.2.2 1, .long)]
def nJS : Nat := 7
def lenJS : List Nat := [5, 5, 4, 4, 5, 3, 2]
def bytJS : List (List Int32) := [[112, 114, 105, 99, 101], [113, 117, 111, 116, 97], [111, 118, 101, 114], [100, 101, 98, 116], [115, 116, 97, 110, 100], [100, 117, 101], [111, 102]]
def txJS : List String := ["price", "quota", "over", "debt", "stand", "due", "of"]
def ixJS (i : Nat) : Nat := [47, 56, 61, 67, 69, 71, 86].getD i 0
/-- what stands outside the world: the literals, one static -/
def Sx (g : GG) (A : Nat → Prop) (U : State) (H : Heap) : Prop :=
  vk_S 7 lenJS bytJS (fun i => g.2.2.1 (100 + i)) (fun i => g.2.2.1 (200 + i)) A U H ∧ (∀ i, i < 7 → vk_R RX2 (ixJS i) (txJS.getD i "") (g.2.2.1 (100 + i)) U) ∧ va_Z "java/lang/String" "COMPACT_STRINGS" "Z" (.int 1) A U H
end
section
/-- what a running method knows -/
def Act (g : GG) (M : MD) (A : Nat → Prop) (p : Program) (s : State) (m : MethodId) (args : Array Value) (meth : Method) (c : Code) : Prop :=
  p.tables.exec = Jvm.exec ∧ c.code = M.2.1 ∧ c.maxLocals = M.2.2.1 ∧ s.vm.findClass M.1.cls = some m.cls ∧ (∀ w ∈ Ts, w.before args s = true) ∧ meth.sig.returnType = M.2.2.2.1 ∧ meth.locks = false ∧ va_K g.2.1 vwCl (tysG g) s ∧ Nst s ∧ Sx g A s s.heap ∧ ∀ q, s.heap.size ≤ q → A q
def Qg (g : GG) (A : Nat → Prop) (Post : Option Value → List va_E → Prop) : Array Value → State → Outcome → State → Prop := fun _ st oc t => (∃ (v : Option Value) (hp : List va_E), oc = .returned (v.map (cv g.2.2.1)) ∧ Post v hp ∧ va_P g.2.1 vwCl (wd g hp) t.heap ∧ va_K g.2.1 vwCl (tysG g) t ∧ va_D A (wd g hp)) ∧ va_F A st t
def lvc (g : GG) (lv : List (Nat × Value)) : List (Nat × Value) := lv.map (fun q => (q.1, cv g.2.2.1 q.2))
/-- from here the method comes to its end, with Post -/
def Ev (g : GG) (M : MD) (pc : Nat) (lv : List (Nat × Value)) (st : List Value) (hp : List va_E) (Post : Option Value → List va_E → Prop) : Prop :=
  ∀ (p : Program) (e : Env) (s : State) (m : MethodId) (args : Array Value) (below : List Frame) (meth : Method) (c : Code) (A : Nat → Prop) (H : Heap) (locs : List Loc) (ls : Array Slot), Act g M A p s m args meth c → va_P g.2.1 vwCl (wd g hp) H → va_D A (wd g hp) → va_S A s.heap H locs → lv_has ls M.2.2.1 (lvc g lv) →
    W p g.1 e M.2.2.2.2 s m args below meth c H locs 0 0 (MQ below (Qg g A Post) args s 0 0 A) (F0 m pc ls (st.map (cv g.2.2.1)))
def wsM (M : MD) : List Cond := Cond.code M.1 M.2.1 M.2.2.1 M.2.2.2.1 :: Ts
/-- a method's contract -/
def Ct (g : GG) (M : MD) (as : List Value) (hp : List va_E) (Post : Option Value → List va_E → Prop) : Prop :=
  ∀ sz : Nat, Met g.1 M.1 (wsM M) M.2.2.2.2 (va_Pc (as.map (cv g.2.2.1)) (fun U => U.heap.size = sz ∧ va_P g.2.1 vwCl (wd g hp) U.heap ∧ va_K g.2.1 vwCl (tysG g) U ∧ va_D (fun _ => True) (wd g hp) ∧ Nst U ∧ Sx g (va_A (wd g hp) sz) U U.heap)) (Qg g (va_A (wd g hp) sz) Post) 0 0 (va_A (wd g hp) sz)
def lvGet (lv : List (Nat × Value)) (i : Nat) : Option Value := (lv.find? (fun q => q.1 == i)).map (fun q => q.2)
def lvIns : List (Nat × Value) → Nat → Value → List (Nat × Value)
  | [], i, v => [(i, v)]
  | (j, w) :: t, i, v => if Nat.blt j i then (j, w) :: lvIns t i v else if Nat.beq j i then (i, v) :: t else (i, v) :: (j, w) :: t
def lvSt (lv : List (Nat × Value)) (i : Nat) (v : Value) : List (Nat × Value) := lvIns (lv.filter (fun q => !(q.1 == i) && (!(q.1 == i + 1) && !(q.1 + 1 == i && q.2.category == 2)))) i v
def lvSt1 (lv : List (Nat × Value)) (i : Nat) (v : Value) : List (Nat × Value) := lvIns (lv.filter (fun q => !(q.1 == i) && !(q.1 + 1 == i && q.2.category == 2))) i v
theorem lvIns_mem : ∀ (l : List (Nat × Value)) (i : Nat) (v : Value) (q : Nat × Value), q ∈ lvIns l i v → q = (i, v) ∨ q ∈ l
  | [], i, v, q, h => by simp [lvIns] at h; exact Or.inl h
  | (j, w) :: t, i, v, q, h => by
    unfold lvIns at h
    split at h
    · rcases List.mem_cons.mp h with h | h
      · exact Or.inr (by rw [h]; exact List.mem_cons_self)
      · rcases lvIns_mem t i v q h with h | h
        · exact Or.inl h
        · exact Or.inr (List.mem_cons_of_mem _ h)
    · split at h
      · rcases List.mem_cons.mp h with h | h
        · exact Or.inl h
        · exact Or.inr (List.mem_cons_of_mem _ h)
      · rcases List.mem_cons.mp h with h | h
        · exact Or.inl h
        · exact Or.inr h
theorem lv_memG {ls : Array Slot} {n : Nat} {l l' : List (Nat × Value)} (h : lv_has ls n l) (hs : ∀ q ∈ l', q ∈ l) : lv_has ls n l' := ⟨h.1, h.2.1, fun q hq => h.2.2 q (hs q hq)⟩
theorem lvGet_has {g : GG} {ls : Array Slot} {n : Nat} {lv : List (Nat × Value)} {i : Nat} {v : Value} (h : lv_has ls n (lvc g lv)) (hg : lvGet lv i = some v) : ls[i]? = some (.val (cv g.2.2.1 v)) := by
  unfold lvGet at hg
  cases hf : lv.find? (fun q => q.1 == i) with
  | none => rw [hf] at hg; cases hg
  | some q =>
    rw [hf] at hg
    have h1 := List.mem_of_find?_eq_some hf
    have h2 := List.find?_some hf
    have h3 : q.2 = v := Option.some.inj hg
    have h4 : q.1 = i := by simpa using h2
    have h5 := h.2.2 (q.1, cv g.2.2.1 q.2) (List.mem_map.mpr ⟨q, h1, rfl⟩)
    rw [h3, h4] at h5
    exact h5
theorem lvc_st1 {g : GG} {lv : List (Nat × Value)} {i : Nat} {v : Value} : ∀ q ∈ lvc g (lvSt1 lv i v), q ∈ (i, cv g.2.2.1 v) :: (lvc g lv).filter (fun q => !(q.1 == i) && !(q.1 + 1 == i && q.2.category == 2)) := by
  intro q hq
  obtain ⟨r, hr, rfl⟩ := List.mem_map.mp hq
  rcases lvIns_mem _ _ _ _ hr with h | h
  · rw [h]; exact List.mem_cons_self
  · obtain ⟨h1, h2⟩ := List.mem_filter.mp h
    refine List.mem_cons_of_mem _ (List.mem_filter.mpr ⟨List.mem_map.mpr ⟨r, h1, rfl⟩, ?_⟩)
    rw [cv_cat]
    exact h2
theorem lvc_st2 {g : GG} {lv : List (Nat × Value)} {i : Nat} {v : Value} : ∀ q ∈ lvc g (lvSt lv i v), q ∈ (i, cv g.2.2.1 v) :: (lvc g lv).filter (fun q => !(q.1 == i) && (!(q.1 == i + 1) && !(q.1 + 1 == i && q.2.category == 2))) := by
  intro q hq
  obtain ⟨r, hr, rfl⟩ := List.mem_map.mp hq
  rcases lvIns_mem _ _ _ _ hr with h | h
  · rw [h]; exact List.mem_cons_self
  · obtain ⟨h1, h2⟩ := List.mem_filter.mp h
    refine List.mem_cons_of_mem _ (List.mem_filter.mpr ⟨List.mem_map.mpr ⟨r, h1, rfl⟩, ?_⟩)
    rw [cv_cat]
    exact h2
section EVR
variable {g : GG} {M : MD} {pc : Nat} {lv : List (Nat × Value)} {st : List Value} {hp : List va_E} {Post : Option Value → List va_E → Prop}
theorem ev_post {Post' : Option Value → List va_E → Prop} (h : ∀ v q, Post' v q → Post v q) (k : Ev g M pc lv st hp Post') : Ev g M pc lv st hp Post := by
  intro p e s m args below meth c A H locs ls hA hP hD hS hl T hT X
  obtain ⟨t, a, o, b1, b2, ⟨⟨v, q, c1, c2, c3⟩, c4⟩, b4⟩ := k p e s m args below meth c A H locs ls hA hP hD hS hl T hT X
  exact ⟨t, a, o, b1, b2, ⟨⟨v, q, c1, h v q c2, c3⟩, c4⟩, b4⟩
theorem ev_lv {lv' : List (Nat × Value)} (h : ∀ q ∈ lv', q ∈ lv) (k : Ev g M pc lv' st hp Post) : Ev g M pc lv st hp Post := by
  intro p e s m args below meth c A H locs ls hA hP hD hS hl
  exact k p e s m args below meth c A H locs ls hA hP hD hS (lv_memG hl (fun q hq => by obtain ⟨r, hr, rfl⟩ := List.mem_map.mp hq; exact List.mem_map.mpr ⟨r, h r hr, rfl⟩))

theorem ev_iadd {x y : Int32} (d : decode M.2.1 pc = .ok (.iadd, 1)) (k : Ev g M (pc + 1) lv (.int (x + y) :: st) hp Post) : Ev g M pc lv (.int y :: .int x :: st) hp Post := by
  intro p e s m args below meth c A H locs ls hA hP hD hS hl
  exact lv_iadd hA.1 hA.2.1 d (k p e s m args below meth c A H locs ls hA hP hD hS hl)
theorem ev_isub {x y : Int32} (d : decode M.2.1 pc = .ok (.isub, 1)) (k : Ev g M (pc + 1) lv (.int (x - y) :: st) hp Post) : Ev g M pc lv (.int y :: .int x :: st) hp Post := by
  intro p e s m args below meth c A H locs ls hA hP hD hS hl
  exact lv_isub hA.1 hA.2.1 d (k p e s m args below meth c A H locs ls hA hP hD hS hl)
theorem ev_imul {x y : Int32} (d : decode M.2.1 pc = .ok (.imul, 1)) (k : Ev g M (pc + 1) lv (.int (x * y) :: st) hp Post) : Ev g M pc lv (.int y :: .int x :: st) hp Post := by
  intro p e s m args below meth c A H locs ls hA hP hD hS hl
  exact lv_imul hA.1 hA.2.1 d (k p e s m args below meth c A H locs ls hA hP hD hS hl)
theorem ev_iand {x y : Int32} (d : decode M.2.1 pc = .ok (.iand, 1)) (k : Ev g M (pc + 1) lv (.int (x &&& y) :: st) hp Post) : Ev g M pc lv (.int y :: .int x :: st) hp Post := by
  intro p e s m args below meth c A H locs ls hA hP hD hS hl
  exact lv_iand hA.1 hA.2.1 d (k p e s m args below meth c A H locs ls hA hP hD hS hl)
theorem ev_ior {x y : Int32} (d : decode M.2.1 pc = .ok (.ior, 1)) (k : Ev g M (pc + 1) lv (.int (x ||| y) :: st) hp Post) : Ev g M pc lv (.int y :: .int x :: st) hp Post := by
  intro p e s m args below meth c A H locs ls hA hP hD hS hl
  exact lv_ior hA.1 hA.2.1 d (k p e s m args below meth c A H locs ls hA hP hD hS hl)
theorem ev_ishl {x y : Int32} (d : decode M.2.1 pc = .ok (.ishl, 1)) (k : Ev g M (pc + 1) lv (.int (x <<< (y &&& 31)) :: st) hp Post) : Ev g M pc lv (.int y :: .int x :: st) hp Post := by
  intro p e s m args below meth c A H locs ls hA hP hD hS hl
  exact lv_ishl hA.1 hA.2.1 d (k p e s m args below meth c A H locs ls hA hP hD hS hl)
theorem ev_ishr {x y : Int32} (d : decode M.2.1 pc = .ok (.ishr, 1)) (k : Ev g M (pc + 1) lv (.int (x >>> (y &&& 31)) :: st) hp Post) : Ev g M pc lv (.int y :: .int x :: st) hp Post := by
  intro p e s m args below meth c A H locs ls hA hP hD hS hl
  exact lv_ishr hA.1 hA.2.1 d (k p e s m args below meth c A H locs ls hA hP hD hS hl)
theorem ev_ladd {x y : Int64} (d : decode M.2.1 pc = .ok (.ladd, 1)) (k : Ev g M (pc + 1) lv (.long (x + y) :: st) hp Post) : Ev g M pc lv (.long y :: .long x :: st) hp Post := by
  intro p e s m args below meth c A H locs ls hA hP hD hS hl
  exact lv_ladd hA.1 hA.2.1 d (k p e s m args below meth c A H locs ls hA hP hD hS hl)
theorem ev_lsub {x y : Int64} (d : decode M.2.1 pc = .ok (.lsub, 1)) (k : Ev g M (pc + 1) lv (.long (x - y) :: st) hp Post) : Ev g M pc lv (.long y :: .long x :: st) hp Post := by
  intro p e s m args below meth c A H locs ls hA hP hD hS hl
  exact lv_lsub hA.1 hA.2.1 d (k p e s m args below meth c A H locs ls hA hP hD hS hl)
theorem ev_lmul {x y : Int64} (d : decode M.2.1 pc = .ok (.lmul, 1)) (k : Ev g M (pc + 1) lv (.long (x * y) :: st) hp Post) : Ev g M pc lv (.long y :: .long x :: st) hp Post := by
  intro p e s m args below meth c A H locs ls hA hP hD hS hl
  exact lv_lmul hA.1 hA.2.1 d (k p e s m args below meth c A H locs ls hA hP hD hS hl)
theorem ev_ldiv {x y : Int64} (d : decode M.2.1 pc = .ok (.ldiv, 1)) (h : ¬ y = 0) (k : Ev g M (pc + 1) lv (.long (x / y) :: st) hp Post) : Ev g M pc lv (.long y :: .long x :: st) hp Post := by
  intro p e s m args below meth c A H locs ls hA hP hD hS hl
  exact lv_ldiv hA.1 hA.2.1 d h (k p e s m args below meth c A H locs ls hA hP hD hS hl)
theorem ev_ineg {x : Int32} (d : decode M.2.1 pc = .ok (.ineg, 1)) (k : Ev g M (pc + 1) lv (.int (-x) :: st) hp Post) : Ev g M pc lv (.int x :: st) hp Post := by
  intro p e s m args below meth c A H locs ls hA hP hD hS hl
  exact lv_ineg hA.1 hA.2.1 d (k p e s m args below meth c A H locs ls hA hP hD hS hl)
theorem ev_i2l {x : Int32} (d : decode M.2.1 pc = .ok (.i2l, 1)) (k : Ev g M (pc + 1) lv (.long x.toInt64 :: st) hp Post) : Ev g M pc lv (.int x :: st) hp Post := by
  intro p e s m args below meth c A H locs ls hA hP hD hS hl
  exact lv_i2l hA.1 hA.2.1 d rfl (k p e s m args below meth c A H locs ls hA hP hD hS hl)
theorem ev_l2i {x : Int64} (d : decode M.2.1 pc = .ok (.l2i, 1)) (k : Ev g M (pc + 1) lv (.int x.toInt32 :: st) hp Post) : Ev g M pc lv (.long x :: st) hp Post := by
  intro p e s m args below meth c A H locs ls hA hP hD hS hl
  exact lv_l2i hA.1 hA.2.1 d rfl (k p e s m args below meth c A H locs ls hA hP hD hS hl)
theorem ev_i2c {x : Int32} (d : decode M.2.1 pc = .ok (.i2c, 1)) (k : Ev g M (pc + 1) lv (.int (x.toUInt32 % 65536).toInt32 :: st) hp Post) : Ev g M pc lv (.int x :: st) hp Post := by
  intro p e s m args below meth c A H locs ls hA hP hD hS hl
  exact lv_i2c hA.1 hA.2.1 d rfl (k p e s m args below meth c A H locs ls hA hP hD hS hl)
theorem ev_iushr {x y : Int32} (d : decode M.2.1 pc = .ok (.iushr, 1)) (k : Ev g M (pc + 1) lv (.int (x.toUInt32 >>> (y.toUInt32 &&& Int32.toUInt32 31)).toInt32 :: st) hp Post) : Ev g M pc lv (.int y :: .int x :: st) hp Post := by
  intro p e s m args below meth c A H locs ls hA hP hD hS hl
  exact lv_iushr hA.1 hA.2.1 d rfl (k p e s m args below meth c A H locs ls hA hP hD hS hl)
theorem ev_lshr {x : Int64} {y : Int32} (d : decode M.2.1 pc = .ok (.lshr, 1)) (k : Ev g M (pc + 1) lv (.long (x >>> (y.toInt64 &&& 63)) :: st) hp Post) : Ev g M pc lv (.int y :: .long x :: st) hp Post := by
  intro p e s m args below meth c A H locs ls hA hP hD hS hl
  exact lv_lshr hA.1 hA.2.1 d rfl (k p e s m args below meth c A H locs ls hA hP hD hS hl)
theorem ev_lcmp {x y : Int64} (d : decode M.2.1 pc = .ok (.lcmp, 1)) (k : Ev g M (pc + 1) lv (.int (lg_cmp x y) :: st) hp Post) : Ev g M pc lv (.long y :: .long x :: st) hp Post := by
  intro p e s m args below meth c A H locs ls hA hP hD hS hl
  exact W.lcmp hA.1 hA.2.1 d (k p e s m args below meth c A H locs ls hA hP hD hS hl)
theorem ev_iconst {n : Int} {v : Int32} (d : decode M.2.1 pc = .ok (.iconst n, 1)) (h : Int32.ofInt n = v) (k : Ev g M (pc + 1) lv (.int v :: st) hp Post) : Ev g M pc lv (st) hp Post := by
  intro p e s m args below meth c A H locs ls hA hP hD hS hl
  exact lv_iconst hA.1 hA.2.1 d h (k p e s m args below meth c A H locs ls hA hP hD hS hl)
theorem ev_bipush {n : Int} {v : Int32} (d : decode M.2.1 pc = .ok (.bipush n, 2)) (h : (Int8.ofInt n).toInt32 = v) (k : Ev g M (pc + 2) lv (.int v :: st) hp Post) : Ev g M pc lv (st) hp Post := by
  intro p e s m args below meth c A H locs ls hA hP hD hS hl
  exact lv_bipush hA.1 hA.2.1 d h (k p e s m args below meth c A H locs ls hA hP hD hS hl)
theorem ev_sipush {n : Int} {v : Int32} (d : decode M.2.1 pc = .ok (.sipush n, 3)) (h : (Int16.ofInt n).toInt32 = v) (k : Ev g M (pc + 3) lv (.int v :: st) hp Post) : Ev g M pc lv (st) hp Post := by
  intro p e s m args below meth c A H locs ls hA hP hD hS hl
  exact lv_sipush hA.1 hA.2.1 d h (k p e s m args below meth c A H locs ls hA hP hD hS hl)
theorem ev_lconst {n : Fin 2} {v : Int64} (d : decode M.2.1 pc = .ok (.lconst n, 1)) (h : Int64.ofNat (n : Nat) = v) (k : Ev g M (pc + 1) lv (.long v :: st) hp Post) : Ev g M pc lv (st) hp Post := by
  intro p e s m args below meth c A H locs ls hA hP hD hS hl
  exact lv_lconst hA.1 hA.2.1 d h (k p e s m args below meth c A H locs ls hA hP hD hS hl)
theorem ev_ldc {i : Nat} {v : Int32} (d : decode M.2.1 pc = .ok (.ldc i, 2)) (h : Cond.constant M.1.cls i v ∈ Ts) (k : Ev g M (pc + 2) lv (.int v :: st) hp Post) : Ev g M pc lv st hp Post := by
  intro p e s m args below meth c A H locs ls hA hP hD hS hl
  exact lv_ldc hA.1 hA.2.1 hA.2.2.2.1 (hA.2.2.2.2.1 _ h) d (k p e s m args below meth c A H locs ls hA hP hD hS hl)
theorem ev_ldcw {i : Nat} {v : Int32} (d : decode M.2.1 pc = .ok (.ldc_w i, 3)) (h : Cond.constant M.1.cls i v ∈ Ts) (k : Ev g M (pc + 3) lv (.int v :: st) hp Post) : Ev g M pc lv st hp Post := by
  intro p e s m args below meth c A H locs ls hA hP hD hS hl
  exact lv_ldcw hA.1 hA.2.1 hA.2.2.2.1 (hA.2.2.2.2.1 _ h) d (k p e s m args below meth c A H locs ls hA hP hD hS hl)
theorem ev_ldc2 {i : Nat} {v : Int64} (d : decode M.2.1 pc = .ok (.ldc2_w i, 3)) (h : Cond.constantLong M.1.cls i v ∈ Ts) (k : Ev g M (pc + 3) lv (.long v :: st) hp Post) : Ev g M pc lv st hp Post := by
  intro p e s m args below meth c A H locs ls hA hP hD hS hl
  exact lv_ldc2 hA.1 hA.2.1 hA.2.2.2.1 (hA.2.2.2.2.1 _ h) d (k p e s m args below meth c A H locs ls hA hP hD hS hl)
theorem ev_iload_n {k : Fin 4} {x : Int32} (d : decode M.2.1 pc = .ok (.iload_n k, 1)) (h : lvGet lv k.1 = some (.int x)) (kk : Ev g M (pc + 1) lv (.int x :: st) hp Post) : Ev g M pc lv st hp Post := by
  intro p e s m args below meth c A H locs ls hA hP hD hS hl
  exact lv_iload_n hA.1 hA.2.1 d rfl (lvGet_has hl h) (kk p e s m args below meth c A H locs ls hA hP hD hS hl)
theorem ev_iload {i : Nat} {x : Int32} (d : decode M.2.1 pc = .ok (.iload i, 2)) (h : lvGet lv i = some (.int x)) (kk : Ev g M (pc + 2) lv (.int x :: st) hp Post) : Ev g M pc lv st hp Post := by
  intro p e s m args below meth c A H locs ls hA hP hD hS hl
  exact lv_iload hA.1 hA.2.1 d (lvGet_has hl h) (kk p e s m args below meth c A H locs ls hA hP hD hS hl)
theorem ev_istore_n {k : Fin 4} {x : Int32} {lv' : List (Nat × Value)} (d : decode M.2.1 pc = .ok (.istore_n k, 1)) (hn : k.1 < M.2.2.1) (h : lvSt1 lv k.1 (.int x) = lv') (kk : Ev g M (pc + 1) lv' st hp Post) : Ev g M pc lv (.int x :: st) hp Post := by
  intro p e s m args below meth c A H locs ls hA hP hD hS hl
  subst h
  exact lv_istore_n hA.1 hA.2.1 d rfl hl hn rfl (fun ls' hl' => kk p e s m args below meth c A H locs ls' hA hP hD hS (lv_memG hl' lvc_st1))
theorem ev_istore {i : Nat} {x : Int32} {lv' : List (Nat × Value)} (d : decode M.2.1 pc = .ok (.istore i, 2)) (hn : i < M.2.2.1) (h : lvSt1 lv i (.int x) = lv') (kk : Ev g M (pc + 2) lv' st hp Post) : Ev g M pc lv (.int x :: st) hp Post := by
  intro p e s m args below meth c A H locs ls hA hP hD hS hl
  subst h
  exact lv_istore hA.1 hA.2.1 d hl hn rfl (fun ls' hl' => kk p e s m args below meth c A H locs ls' hA hP hD hS (lv_memG hl' lvc_st1))
theorem ev_lload_n {k : Fin 4} {x : Int64} (d : decode M.2.1 pc = .ok (.lload_n k, 1)) (h : lvGet lv k.1 = some (.long x)) (kk : Ev g M (pc + 1) lv (.long x :: st) hp Post) : Ev g M pc lv st hp Post := by
  intro p e s m args below meth c A H locs ls hA hP hD hS hl
  exact lv_lload_n hA.1 hA.2.1 d rfl (lvGet_has hl h) (kk p e s m args below meth c A H locs ls hA hP hD hS hl)
theorem ev_lload {i : Nat} {x : Int64} (d : decode M.2.1 pc = .ok (.lload i, 2)) (h : lvGet lv i = some (.long x)) (kk : Ev g M (pc + 2) lv (.long x :: st) hp Post) : Ev g M pc lv st hp Post := by
  intro p e s m args below meth c A H locs ls hA hP hD hS hl
  exact lv_lload hA.1 hA.2.1 d (lvGet_has hl h) (kk p e s m args below meth c A H locs ls hA hP hD hS hl)
theorem ev_lstore_n {k : Fin 4} {x : Int64} {lv' : List (Nat × Value)} (d : decode M.2.1 pc = .ok (.lstore_n k, 1)) (hn : k.1 + 1 < M.2.2.1) (h : lvSt lv k.1 (.long x) = lv') (kk : Ev g M (pc + 1) lv' st hp Post) : Ev g M pc lv (.long x :: st) hp Post := by
  intro p e s m args below meth c A H locs ls hA hP hD hS hl
  subst h
  exact lv_lstore_n hA.1 hA.2.1 d rfl hl hn rfl (fun ls' hl' => kk p e s m args below meth c A H locs ls' hA hP hD hS (lv_memG hl' lvc_st2))
theorem ev_lstore {i : Nat} {x : Int64} {lv' : List (Nat × Value)} (d : decode M.2.1 pc = .ok (.lstore i, 2)) (hn : i + 1 < M.2.2.1) (h : lvSt lv i (.long x) = lv') (kk : Ev g M (pc + 2) lv' st hp Post) : Ev g M pc lv (.long x :: st) hp Post := by
  intro p e s m args below meth c A H locs ls hA hP hD hS hl
  subst h
  exact lv_lstore hA.1 hA.2.1 d hl hn rfl (fun ls' hl' => kk p e s m args below meth c A H locs ls' hA hP hD hS (lv_memG hl' lvc_st2))
theorem ev_aload_n {k : Fin 4} {x : Nat} (d : decode M.2.1 pc = .ok (.aload_n k, 1)) (h : lvGet lv k.1 = some (.ref x)) (kk : Ev g M (pc + 1) lv (.ref x :: st) hp Post) : Ev g M pc lv st hp Post := by
  intro p e s m args below meth c A H locs ls hA hP hD hS hl
  exact lv_aload_n hA.1 hA.2.1 d rfl (lvGet_has hl h) (kk p e s m args below meth c A H locs ls hA hP hD hS hl)
theorem ev_aload {i : Nat} {x : Nat} (d : decode M.2.1 pc = .ok (.aload i, 2)) (h : lvGet lv i = some (.ref x)) (kk : Ev g M (pc + 2) lv (.ref x :: st) hp Post) : Ev g M pc lv st hp Post := by
  intro p e s m args below meth c A H locs ls hA hP hD hS hl
  exact lv_aload hA.1 hA.2.1 d (lvGet_has hl h) (kk p e s m args below meth c A H locs ls hA hP hD hS hl)
theorem ev_astore_n {k : Fin 4} {x : Nat} {lv' : List (Nat × Value)} (d : decode M.2.1 pc = .ok (.astore_n k, 1)) (hn : k.1 < M.2.2.1) (h : lvSt1 lv k.1 (.ref x) = lv') (kk : Ev g M (pc + 1) lv' st hp Post) : Ev g M pc lv (.ref x :: st) hp Post := by
  intro p e s m args below meth c A H locs ls hA hP hD hS hl
  subst h
  exact lv_astore_n hA.1 hA.2.1 d rfl hl hn rfl (fun ls' hl' => kk p e s m args below meth c A H locs ls' hA hP hD hS (lv_memG hl' lvc_st1))
theorem ev_astore {i : Nat} {x : Nat} {lv' : List (Nat × Value)} (d : decode M.2.1 pc = .ok (.astore i, 2)) (hn : i < M.2.2.1) (h : lvSt1 lv i (.ref x) = lv') (kk : Ev g M (pc + 2) lv' st hp Post) : Ev g M pc lv (.ref x :: st) hp Post := by
  intro p e s m args below meth c A H locs ls hA hP hD hS hl
  subst h
  exact lv_astore hA.1 hA.2.1 d hl hn rfl (fun ls' hl' => kk p e s m args below meth c A H locs ls' hA hP hD hS (lv_memG hl' lvc_st1))
theorem lvc_get {lv : List (Nat × Value)} {i : Nat} {v : Value} (hg : lvGet lv i = some v) : ∃ k : Nat, (lvc g lv)[k]? = some (i, cv g.2.2.1 v) := by
  unfold lvGet at hg
  cases hf : lv.find? (fun q => q.1 == i) with
  | none => rw [hf] at hg; cases hg
  | some q =>
    rw [hf] at hg
    have h1 := List.mem_of_find?_eq_some hf
    have h2 := List.find?_some hf
    have h3 : q.2 = v := Option.some.inj hg
    have h4 : q.1 = i := by simpa using h2
    have h5 : (i, cv g.2.2.1 v) ∈ lvc g lv := List.mem_map.mpr ⟨q, h1, by rw [h3, h4]⟩
    exact List.getElem?_of_mem h5
theorem ev_iinc {i : Nat} {n : Int} {x : Int32} {lv' : List (Nat × Value)} (d : decode M.2.1 pc = .ok (.iinc i n, 3)) (hx : lvGet lv i = some (.int x)) (hn : i < M.2.2.1) (h : lvSt1 lv i (.int (x + Int32.ofInt n)) = lv') (kk : Ev g M (pc + 3) lv' st hp Post) : Ev g M pc lv st hp Post := by
  intro p e s m args below meth c A H locs ls hA hP hD hS hl
  subst h
  obtain ⟨k, hk⟩ := lvc_get (g := g) hx
  exact lv_iinc hA.1 hA.2.1 d hl hk rfl hn rfl (fun ls' hl' => kk p e s m args below meth c A H locs ls' hA hP hD hS (lv_memG hl' lvc_st1))
theorem ev_dup {v : Value} (d : decode M.2.1 pc = .ok (.dup, 1)) (h : v.category = 1) (k : Ev g M (pc + 1) lv (v :: v :: st) hp Post) : Ev g M pc lv (v :: st) hp Post := by
  intro p e s m args below meth c A H locs ls hA hP hD hS hl
  exact lv_dup hA.1 hA.2.1 d ((cv_cat _ _).trans h) (k p e s m args below meth c A H locs ls hA hP hD hS hl)
theorem ev_pop {v : Value} (d : decode M.2.1 pc = .ok (.pop, 1)) (h : v.category = 1) (k : Ev g M (pc + 1) lv st hp Post) : Ev g M pc lv (v :: st) hp Post := by
  intro p e s m args below meth c A H locs ls hA hP hD hS hl
  exact lv_pop hA.1 hA.2.1 d ((cv_cat _ _).trans h) (k p e s m args below meth c A H locs ls hA hP hD hS hl)
theorem ev_dup2 {v u : Value} (d : decode M.2.1 pc = .ok (.dup2, 1)) (h : v.category = 1) (h2 : u.category = 1) (k : Ev g M (pc + 1) lv (v :: u :: v :: u :: st) hp Post) : Ev g M pc lv (v :: u :: st) hp Post := by
  intro p e s m args below meth c A H locs ls hA hP hD hS hl
  exact lv_dup2_11 hA.1 hA.2.1 d ((cv_cat _ _).trans h) ((cv_cat _ _).trans h2) (k p e s m args below meth c A H locs ls hA hP hD hS hl)
theorem ev_if_eq {x : Int32} {off : Int} {tgt : Nat} (d : decode M.2.1 pc = .ok (.ifCond .eq off, 3)) (ht : (pc : Int) + off = (tgt : Int)) (kt : x = 0 → Ev g M tgt lv st hp Post) (kf : ¬ (x = 0) → Ev g M (pc + 3) lv st hp Post) : Ev g M pc lv (.int x :: st) hp Post := by
  intro p e s m args below meth c A H locs ls hA hP hD hS hl
  exact lv_if_eq hA.1 hA.2.1 d ht (fun q => kt q p e s m args below meth c A H locs ls hA hP hD hS hl) (fun q => kf q p e s m args below meth c A H locs ls hA hP hD hS hl)
theorem ev_icmp_eq {x y : Int32} {off : Int} {tgt : Nat} (d : decode M.2.1 pc = .ok (.if_icmp .eq off, 3)) (ht : (pc : Int) + off = (tgt : Int)) (kt : x = y → Ev g M tgt lv st hp Post) (kf : ¬ (x = y) → Ev g M (pc + 3) lv st hp Post) : Ev g M pc lv (.int y :: .int x :: st) hp Post := by
  intro p e s m args below meth c A H locs ls hA hP hD hS hl
  exact lv_icmp_eq hA.1 hA.2.1 d ht (fun q => kt q p e s m args below meth c A H locs ls hA hP hD hS hl) (fun q => kf q p e s m args below meth c A H locs ls hA hP hD hS hl)
theorem ev_if_ne {x : Int32} {off : Int} {tgt : Nat} (d : decode M.2.1 pc = .ok (.ifCond .ne off, 3)) (ht : (pc : Int) + off = (tgt : Int)) (kt : ¬ x = 0 → Ev g M tgt lv st hp Post) (kf : x = 0 → Ev g M (pc + 3) lv st hp Post) : Ev g M pc lv (.int x :: st) hp Post := by
  intro p e s m args below meth c A H locs ls hA hP hD hS hl
  exact lv_if_ne hA.1 hA.2.1 d ht (fun q => kt q p e s m args below meth c A H locs ls hA hP hD hS hl) (fun q => kf q p e s m args below meth c A H locs ls hA hP hD hS hl)
theorem ev_icmp_ne {x y : Int32} {off : Int} {tgt : Nat} (d : decode M.2.1 pc = .ok (.if_icmp .ne off, 3)) (ht : (pc : Int) + off = (tgt : Int)) (kt : ¬ x = y → Ev g M tgt lv st hp Post) (kf : x = y → Ev g M (pc + 3) lv st hp Post) : Ev g M pc lv (.int y :: .int x :: st) hp Post := by
  intro p e s m args below meth c A H locs ls hA hP hD hS hl
  exact lv_icmp_ne hA.1 hA.2.1 d ht (fun q => kt q p e s m args below meth c A H locs ls hA hP hD hS hl) (fun q => kf q p e s m args below meth c A H locs ls hA hP hD hS hl)
theorem ev_if_lt {x : Int32} {off : Int} {tgt : Nat} (d : decode M.2.1 pc = .ok (.ifCond .lt off, 3)) (ht : (pc : Int) + off = (tgt : Int)) (kt : x < 0 → Ev g M tgt lv st hp Post) (kf : ¬ (x < 0) → Ev g M (pc + 3) lv st hp Post) : Ev g M pc lv (.int x :: st) hp Post := by
  intro p e s m args below meth c A H locs ls hA hP hD hS hl
  exact lv_if_lt hA.1 hA.2.1 d ht (fun q => kt q p e s m args below meth c A H locs ls hA hP hD hS hl) (fun q => kf q p e s m args below meth c A H locs ls hA hP hD hS hl)
theorem ev_icmp_lt {x y : Int32} {off : Int} {tgt : Nat} (d : decode M.2.1 pc = .ok (.if_icmp .lt off, 3)) (ht : (pc : Int) + off = (tgt : Int)) (kt : x < y → Ev g M tgt lv st hp Post) (kf : ¬ (x < y) → Ev g M (pc + 3) lv st hp Post) : Ev g M pc lv (.int y :: .int x :: st) hp Post := by
  intro p e s m args below meth c A H locs ls hA hP hD hS hl
  exact lv_icmp_lt hA.1 hA.2.1 d ht (fun q => kt q p e s m args below meth c A H locs ls hA hP hD hS hl) (fun q => kf q p e s m args below meth c A H locs ls hA hP hD hS hl)
theorem ev_if_ge {x : Int32} {off : Int} {tgt : Nat} (d : decode M.2.1 pc = .ok (.ifCond .ge off, 3)) (ht : (pc : Int) + off = (tgt : Int)) (kt : 0 ≤ x → Ev g M tgt lv st hp Post) (kf : ¬ (0 ≤ x) → Ev g M (pc + 3) lv st hp Post) : Ev g M pc lv (.int x :: st) hp Post := by
  intro p e s m args below meth c A H locs ls hA hP hD hS hl
  exact lv_if_ge hA.1 hA.2.1 d ht (fun q => kt q p e s m args below meth c A H locs ls hA hP hD hS hl) (fun q => kf q p e s m args below meth c A H locs ls hA hP hD hS hl)
theorem ev_icmp_ge {x y : Int32} {off : Int} {tgt : Nat} (d : decode M.2.1 pc = .ok (.if_icmp .ge off, 3)) (ht : (pc : Int) + off = (tgt : Int)) (kt : y ≤ x → Ev g M tgt lv st hp Post) (kf : ¬ (y ≤ x) → Ev g M (pc + 3) lv st hp Post) : Ev g M pc lv (.int y :: .int x :: st) hp Post := by
  intro p e s m args below meth c A H locs ls hA hP hD hS hl
  exact lv_icmp_ge hA.1 hA.2.1 d ht (fun q => kt q p e s m args below meth c A H locs ls hA hP hD hS hl) (fun q => kf q p e s m args below meth c A H locs ls hA hP hD hS hl)
theorem ev_if_gt {x : Int32} {off : Int} {tgt : Nat} (d : decode M.2.1 pc = .ok (.ifCond .gt off, 3)) (ht : (pc : Int) + off = (tgt : Int)) (kt : 0 < x → Ev g M tgt lv st hp Post) (kf : ¬ (0 < x) → Ev g M (pc + 3) lv st hp Post) : Ev g M pc lv (.int x :: st) hp Post := by
  intro p e s m args below meth c A H locs ls hA hP hD hS hl
  exact lv_if_gt hA.1 hA.2.1 d ht (fun q => kt q p e s m args below meth c A H locs ls hA hP hD hS hl) (fun q => kf q p e s m args below meth c A H locs ls hA hP hD hS hl)
theorem ev_icmp_gt {x y : Int32} {off : Int} {tgt : Nat} (d : decode M.2.1 pc = .ok (.if_icmp .gt off, 3)) (ht : (pc : Int) + off = (tgt : Int)) (kt : y < x → Ev g M tgt lv st hp Post) (kf : ¬ (y < x) → Ev g M (pc + 3) lv st hp Post) : Ev g M pc lv (.int y :: .int x :: st) hp Post := by
  intro p e s m args below meth c A H locs ls hA hP hD hS hl
  exact lv_icmp_gt hA.1 hA.2.1 d ht (fun q => kt q p e s m args below meth c A H locs ls hA hP hD hS hl) (fun q => kf q p e s m args below meth c A H locs ls hA hP hD hS hl)
theorem ev_if_le {x : Int32} {off : Int} {tgt : Nat} (d : decode M.2.1 pc = .ok (.ifCond .le off, 3)) (ht : (pc : Int) + off = (tgt : Int)) (kt : x ≤ 0 → Ev g M tgt lv st hp Post) (kf : ¬ (x ≤ 0) → Ev g M (pc + 3) lv st hp Post) : Ev g M pc lv (.int x :: st) hp Post := by
  intro p e s m args below meth c A H locs ls hA hP hD hS hl
  exact lv_if_le hA.1 hA.2.1 d ht (fun q => kt q p e s m args below meth c A H locs ls hA hP hD hS hl) (fun q => kf q p e s m args below meth c A H locs ls hA hP hD hS hl)
theorem ev_icmp_le {x y : Int32} {off : Int} {tgt : Nat} (d : decode M.2.1 pc = .ok (.if_icmp .le off, 3)) (ht : (pc : Int) + off = (tgt : Int)) (kt : x ≤ y → Ev g M tgt lv st hp Post) (kf : ¬ (x ≤ y) → Ev g M (pc + 3) lv st hp Post) : Ev g M pc lv (.int y :: .int x :: st) hp Post := by
  intro p e s m args below meth c A H locs ls hA hP hD hS hl
  exact lv_icmp_le hA.1 hA.2.1 d ht (fun q => kt q p e s m args below meth c A H locs ls hA hP hD hS hl) (fun q => kf q p e s m args below meth c A H locs ls hA hP hD hS hl)
theorem ev_lcmp_eq {x y : Int64} {off : Int} {tgt : Nat} (d0 : decode M.2.1 pc = .ok (.lcmp, 1)) (d : decode M.2.1 (pc + 1) = .ok (.ifCond .eq off, 3)) (ht : ((pc + 1 : Nat) : Int) + off = (tgt : Int)) (kt : x = y → Ev g M tgt lv st hp Post) (kf : ¬ (x = y) → Ev g M (pc + 1 + 3) lv st hp Post) : Ev g M pc lv (.long y :: .long x :: st) hp Post := ev_lcmp d0 (ev_if_eq d ht (fun q => kt ((lg_cmp_eq x y).mp q)) (fun q => kf (fun z => q ((lg_cmp_eq x y).mpr z))))
theorem ev_lcmp_ne {x y : Int64} {off : Int} {tgt : Nat} (d0 : decode M.2.1 pc = .ok (.lcmp, 1)) (d : decode M.2.1 (pc + 1) = .ok (.ifCond .ne off, 3)) (ht : ((pc + 1 : Nat) : Int) + off = (tgt : Int)) (kt : ¬ x = y → Ev g M tgt lv st hp Post) (kf : x = y → Ev g M (pc + 1 + 3) lv st hp Post) : Ev g M pc lv (.long y :: .long x :: st) hp Post := ev_lcmp d0 (ev_if_ne d ht (fun q => kt ((not_congr (lg_cmp_eq x y)).mp q)) (fun q => kf ((lg_cmp_eq x y).mp q)))
theorem ev_lcmp_lt {x y : Int64} {off : Int} {tgt : Nat} (d0 : decode M.2.1 pc = .ok (.lcmp, 1)) (d : decode M.2.1 (pc + 1) = .ok (.ifCond .lt off, 3)) (ht : ((pc + 1 : Nat) : Int) + off = (tgt : Int)) (kt : x < y → Ev g M tgt lv st hp Post) (kf : ¬ (x < y) → Ev g M (pc + 1 + 3) lv st hp Post) : Ev g M pc lv (.long y :: .long x :: st) hp Post := ev_lcmp d0 (ev_if_lt d ht (fun q => kt ((lg_cmp_lt x y).mp q)) (fun q => kf (fun z => q ((lg_cmp_lt x y).mpr z))))
theorem ev_lcmp_ge {x y : Int64} {off : Int} {tgt : Nat} (d0 : decode M.2.1 pc = .ok (.lcmp, 1)) (d : decode M.2.1 (pc + 1) = .ok (.ifCond .ge off, 3)) (ht : ((pc + 1 : Nat) : Int) + off = (tgt : Int)) (kt : y ≤ x → Ev g M tgt lv st hp Post) (kf : ¬ (y ≤ x) → Ev g M (pc + 1 + 3) lv st hp Post) : Ev g M pc lv (.long y :: .long x :: st) hp Post := ev_lcmp d0 (ev_if_ge d ht (fun q => kt ((lg_cmp_ge x y).mp q)) (fun q => kf (fun z => q ((lg_cmp_ge x y).mpr z))))
theorem ev_lcmp_gt {x y : Int64} {off : Int} {tgt : Nat} (d0 : decode M.2.1 pc = .ok (.lcmp, 1)) (d : decode M.2.1 (pc + 1) = .ok (.ifCond .gt off, 3)) (ht : ((pc + 1 : Nat) : Int) + off = (tgt : Int)) (kt : y < x → Ev g M tgt lv st hp Post) (kf : ¬ (y < x) → Ev g M (pc + 1 + 3) lv st hp Post) : Ev g M pc lv (.long y :: .long x :: st) hp Post := ev_lcmp d0 (ev_if_gt d ht (fun q => kt ((lg_cmp_gt x y).mp q)) (fun q => kf (fun z => q ((lg_cmp_gt x y).mpr z))))
theorem ev_lcmp_le {x y : Int64} {off : Int} {tgt : Nat} (d0 : decode M.2.1 pc = .ok (.lcmp, 1)) (d : decode M.2.1 (pc + 1) = .ok (.ifCond .le off, 3)) (ht : ((pc + 1 : Nat) : Int) + off = (tgt : Int)) (kt : x ≤ y → Ev g M tgt lv st hp Post) (kf : ¬ (x ≤ y) → Ev g M (pc + 1 + 3) lv st hp Post) : Ev g M pc lv (.long y :: .long x :: st) hp Post := ev_lcmp d0 (ev_if_le d ht (fun q => kt ((lg_cmp_le x y).mp q)) (fun q => kf (fun z => q ((lg_cmp_le x y).mpr z))))
theorem ev_goto {off : Int} {tgt : Nat} (d : decode M.2.1 pc = .ok (.goto off, 3)) (ht : (pc : Int) + off = (tgt : Int)) (k : Ev g M tgt lv st hp Post) : Ev g M pc lv st hp Post := by
  intro p e s m args below meth c A H locs ls hA hP hD hS hl
  exact lv_goto hA.1 hA.2.1 d ht (k p e s m args below meth c A H locs ls hA hP hD hS hl)
theorem ev_tabOut {x : Int32} {dflt lo hi : Int} {offs : Array Int} {len tgt : Nat} (d : decode M.2.1 pc = .ok (.tableswitch dflt lo hi offs, len)) (h : x.toInt < lo ∨ hi < x.toInt) (ht : (pc : Int) + dflt = (tgt : Int)) (k : Ev g M tgt lv st hp Post) : Ev g M pc lv (.int x :: st) hp Post := by
  intro p e s m args below meth c A H locs ls hA hP hD hS hl
  exact lv_tableOut hA.1 hA.2.1 d h ht (k p e s m args below meth c A H locs ls hA hP hD hS hl)
theorem ev_tabIn {x : Int32} {dflt lo hi : Int} {offs : Array Int} {len tgt : Nat} {off : Int} (d : decode M.2.1 pc = .ok (.tableswitch dflt lo hi offs, len)) (h1 : ¬ x.toInt < lo) (h2 : ¬ hi < x.toInt) (ho : offs[(x.toInt - lo).toNat]? = some off) (ht : (pc : Int) + off = (tgt : Int)) (k : Ev g M tgt lv st hp Post) : Ev g M pc lv (.int x :: st) hp Post := by
  intro p e s m args below meth c A H locs ls hA hP hD hS hl
  exact lv_tableIn hA.1 hA.2.1 d h1 h2 ho ht (k p e s m args below meth c A H locs ls hA hP hD hS hl)
theorem ev_iret {v : Int32} {ty : FieldType} (d : decode M.2.1 pc = .ok (.ireturn, 1)) (hr : M.2.2.2.1 = some ty) (hn : narrow ty (.int v) = .int v) (h : Post (some (.int v)) hp) : Ev g M pc lv [.int v] hp Post := by
  intro p e s m args below meth c A H locs ls hA hP hD hS hl
  exact W.zret hA.1 hA.2.1 (hA.2.2.2.2.2.1.trans hr) hn (fun t ht hW => ⟨⟨some (.int v), hp, rfl, h, by rw [ht]; exact hP, va_K.moved hW.alike hA.2.2.2.2.2.2.2.1, hD⟩, hS.F ht⟩) hS.2.2 d hA.2.2.2.2.2.2.1
theorem ev_lret {v : Int64} (d : decode M.2.1 pc = .ok (.lreturn, 1)) (hr : M.2.2.2.1 = some .long) (h : Post (some (.long v)) hp) : Ev g M pc lv [.long v] hp Post := by
  intro p e s m args below meth c A H locs ls hA hP hD hS hl
  exact W.lret hA.1 hA.2.1 (hA.2.2.2.2.2.1.trans hr) (fun t ht hW => ⟨⟨some (.long v), hp, rfl, h, by rw [ht]; exact hP, va_K.moved hW.alike hA.2.2.2.2.2.2.2.1, hD⟩, hS.F ht⟩) hS.2.2 d hA.2.2.2.2.2.2.1
theorem ev_ret (d : decode M.2.1 pc = .ok (.return_, 1)) (hr : M.2.2.2.1 = none) (h : Post none hp) : Ev g M pc lv [] hp Post := by
  intro p e s m args below meth c A H locs ls hA hP hD hS hl
  exact W.vret hA.1 hA.2.1 (hA.2.2.2.2.2.1.trans hr) (fun t ht hW => ⟨⟨none, hp, rfl, h, by rw [ht]; exact hP, va_K.moved hW.alike hA.2.2.2.2.2.2.2.1, hD⟩, hS.F ht⟩) hS.2.2 d hA.2.2.2.2.2.2.1
end EVR
end
section
/-- a class of the world: its rows stand in the tables -/
def Cok (ci : Nat) (C : String) (T : u_T) (N : Nat) : Prop := vwCl[ci]? = some (C, T, N) ∧ (∀ w ∈ u_ws C T N, w ∈ Ts) ∧ ∃ ty0 : Nat → FieldType, (∀ k, k < N → parseFieldDescriptor (T k).2.2.1 = some (ty0 k)) ∧ (∀ a, a < N → ∀ b, b < N → a ≠ b → (T a).2.1 ≠ (T b).2.1)
/-- a field by its link -/
def Fl (own : String) (idx ci k : Nat) : Prop := ∃ (C : String) (T : u_T) (N : Nat), Cok ci C T N ∧ k < N ∧ (Cond.fieldLink own idx (T k).1 (T k).2.1 (T k).2.2.1 ∈ Ts ∨ ∃ host, Cond.fieldLinkNest own idx (T k).1 (T k).2.1 (T k).2.2.1 host ∈ Tn)
/-- a field that is not final, and its type -/
def Fp (own : String) (idx ci k : Nat) (ty : FieldType) : Prop := ∃ (C : String) (T : u_T) (N : Nat), Cok ci C T N ∧ k < N ∧ (Cond.fieldLink own idx (T k).1 (T k).2.1 (T k).2.2.1 ∈ Ts ∨ ∃ host, Cond.fieldLinkNest own idx (T k).1 (T k).2.1 (T k).2.2.1 host ∈ Tn) ∧ (T k).2.2.2 = false ∧ parseFieldDescriptor (T k).2.2.1 = some ty
theorem Fl.of {own : String} {idx ci k : Nat} {C : String} {T : u_T} {N : Nat} (h : Cok ci C T N) (hk : k < N) (hl : Cond.fieldLink own idx (T k).1 (T k).2.1 (T k).2.2.1 ∈ lw_tbl) : Fl own idx ci k := ⟨C, T, N, h, hk, Or.inl (ts_in hl rfl)⟩
theorem Fl.ofN {own host : String} {idx ci k : Nat} {C : String} {T : u_T} {N : Nat} (h : Cok ci C T N) (hk : k < N) (hl : Cond.fieldLinkNest own idx (T k).1 (T k).2.1 (T k).2.2.1 host ∈ lw_tbl) : Fl own idx ci k := ⟨C, T, N, h, hk, Or.inr ⟨host, tn_in hl rfl⟩⟩
theorem Fp.of {own : String} {idx ci k : Nat} {C : String} {T : u_T} {N : Nat} {ty : FieldType} (h : Cok ci C T N) (hk : k < N) (hl : Cond.fieldLink own idx (T k).1 (T k).2.1 (T k).2.2.1 ∈ lw_tbl) (hf : (T k).2.2.2 = false) (hd : parseFieldDescriptor (T k).2.2.1 = some ty) : Fp own idx ci k ty := ⟨C, T, N, h, hk, Or.inl (ts_in hl rfl), hf, hd⟩
theorem Fp.ofN {own host : String} {idx ci k : Nat} {C : String} {T : u_T} {N : Nat} {ty : FieldType} (h : Cok ci C T N) (hk : k < N) (hl : Cond.fieldLinkNest own idx (T k).1 (T k).2.1 (T k).2.2.1 host ∈ lw_tbl) (hf : (T k).2.2.2 = false) (hd : parseFieldDescriptor (T k).2.2.1 = some ty) : Fp own idx ci k ty := ⟨C, T, N, h, hk, Or.inr ⟨host, tn_in hl rfl⟩, hf, hd⟩
section EVH
variable {g : GG} {M : MD} {pc : Nat} {lv : List (Nat × Value)} {st : List Value} {hp : List va_E} {Post : Option Value → List va_E → Prop}
theorem map_get? {α β : Type} {f : α → β} {l : List α} {k : Nat} {v : α} (h : l[k]? = some v) : (l.map f)[k]? = some (f v) := by rw [List.getElem?_map, h]; rfl
theorem ev_getf {idx ci k q : Nat} {fs : List Value} {v : Value} (d : decode M.2.1 pc = .ok (.getfield idx, 3)) (f : Fl M.1.cls idx ci k) (he : hp[q]? = some (.inr (ci, fs))) (hv : fs[k]? = some v) (kk : Ev g M (pc + 3) lv (v :: st) hp Post) : Ev g M pc lv (.ref q :: st) hp Post := by
  intro p e s m args below meth c A H locs ls hA hP hD hS hl
  obtain ⟨C, T, N, ⟨hc, hin, -⟩, hk, h | ⟨host, h⟩⟩ := f
  · exact va_get hA.1 hA.2.1 hA.2.2.2.2.1 hin hA.2.2.2.1 hA.2.2.2.2.2.2.2.1 hP q (wd_at (g := g) he) hc k hk (hA.2.2.2.2.1 _ h) (fun _ z => z) (map_get? hv) d (kk p e s m args below meth c A H locs ls hA hP hD hS hl)
  · exact va_getN hA.1 hA.2.1 hA.2.2.2.2.1 hin hA.2.2.2.1 hA.2.2.2.2.2.2.2.1 hP q (wd_at (g := g) he) hc k hk (va_Nw.use rfl (hA.2.2.2.2.2.2.2.2.1 _ h)) (fun _ z => z) (map_get? hv) d (kk p e s m args below meth c A H locs ls hA hP hD hS hl)
theorem cz_set {ci k : Nat} {fs : List Value} {v : Value} : cz g (.inr (ci, fs.set k v)) = .inr (ci, (fs.map (cv g.2.2.1)).set k (cv g.2.2.1 v)) := by
  show Sum.inr (ci, (fs.set k v).map (cv g.2.2.1)) = _
  rw [List.map_set]
theorem ev_putf {idx ci k q : Nat} {fs : List Value} {v : Value} {ty : FieldType} {hp' : List va_E} (d : decode M.2.1 pc = .ok (.putfield idx, 3)) (f : Fp M.1.cls idx ci k ty) (he : hp[q]? = some (.inr (ci, fs))) (hkl : Nat.blt k fs.length = true) (hn : ∀ ad : Nat → Nat, narrow ty (cv ad v) = cv ad v) (hf : ∀ ad : Nat → Nat, fits ty (cv ad v) = true) (hs : hp.set q (.inr (ci, fs.set k v)) = hp') (kk : Ev g M (pc + 3) lv st hp' Post) : Ev g M pc lv (v :: .ref q :: st) hp Post := by
  intro p e s m args below meth c A H locs ls hA hP hD hS hl
  subst hs
  obtain ⟨C, T, N, ⟨hc, hin, ty0, h1, h2⟩, hk, h, hfin, hd⟩ := f
  have hlen : k < (fs.map (cv g.2.2.1)).length := by rw [List.length_map]; simpa [Nat.blt_eq] using hkl
  have fin : ∀ (H1 : Heap) (locs1 : List Loc), va_P g.2.1 vwCl ((wd g hp).set q (g.2.2.1 q, .inr (ci, (fs.map (cv g.2.2.1)).set k (cv g.2.2.1 v)))) H1 → va_D A ((wd g hp).set q (g.2.2.1 q, .inr (ci, (fs.map (cv g.2.2.1)).set k (cv g.2.2.1 v)))) → va_S A s.heap H1 locs1 → W p g.1 e M.2.2.2.2 s m args below meth c H1 locs1 0 0 (MQ below (Qg g A Post) args s 0 0 A) (F0 m (pc + 3) ls (st.map (cv g.2.2.1))) := by
    intro H1 locs1 hP1 hD1 hS1
    rw [← cz_set, wd_set] at hP1 hD1
    exact kk p e s m args below meth c A H1 locs1 ls hA hP1 hD1 hS1 hl
  rcases h with h | ⟨host, h⟩
  · exact va_put hA.1 hA.2.1 hA.2.2.2.2.1 hin ty0 h1 h2 hA.2.2.2.1 hA.2.2.2.2.2.2.2.1 hP hD hS q (wd_at (g := g) he) hc k hk (hA.2.2.2.2.1 _ h) (fun _ z => z) hfin hd (hn _) (hf _) hlen d fin
  · exact va_putN hA.1 hA.2.1 hA.2.2.2.2.1 hin ty0 h1 h2 hA.2.2.2.1 hA.2.2.2.2.2.2.2.1 hP hD hS q (wd_at (g := g) he) hc k hk (va_Nw.use rfl (hA.2.2.2.2.2.2.2.2.1 _ h)) (fun _ z => z) hfin hd (hn _) (hf _) hlen d fin
theorem ev_iald {q n : Nat} {f : Nat → Int32} {i : Int32} (d : decode M.2.1 pc = .ok (.iaload, 1)) (he : hp[q]? = some (.inl (0, n, .inl f))) (hin : vp_in i n) (kk : Ev g M (pc + 1) lv (.int (f i.toNatClampNeg) :: st) hp Post) : Ev g M pc lv (.int i :: .ref q :: st) hp Post := by
  intro p e s m args below meth c A H locs ls hA hP hD hS hl
  exact va_iald hA.1 hA.2.1 hA.2.2.2.2.2.2.2.1 hP q 0 (wd_at (g := g) he) rfl hin d (kk p e s m args below meth c A H locs ls hA hP hD hS hl)
theorem ev_lald {q n : Nat} {f : Nat → Int64} {i : Int32} (d : decode M.2.1 pc = .ok (.laload, 1)) (he : hp[q]? = some (.inl (1, n, .inr (.inl f)))) (hin : vp_in i n) (kk : Ev g M (pc + 1) lv (.long (f i.toNatClampNeg) :: st) hp Post) : Ev g M pc lv (.int i :: .ref q :: st) hp Post := by
  intro p e s m args below meth c A H locs ls hA hP hD hS hl
  exact va_lald hA.1 hA.2.1 hA.2.2.2.2.2.2.2.1 hP q 1 (wd_at (g := g) he) rfl hin d (kk p e s m args below meth c A H locs ls hA hP hD hS hl)
theorem ev_iast {q n : Nat} {f : Nat → Int32} {i x : Int32} {hp' : List va_E} (d : decode M.2.1 pc = .ok (.iastore, 1)) (he : hp[q]? = some (.inl (0, n, .inl f))) (hin : vp_in i n) (hs : hp.set q (.inl (0, n, .inl (upd f i.toNatClampNeg x))) = hp') (kk : Ev g M (pc + 1) lv st hp' Post) : Ev g M pc lv (.int x :: .int i :: .ref q :: st) hp Post := by
  intro p e s m args below meth c A H locs ls hA hP hD hS hl
  subst hs
  refine va_iast hA.1 hA.2.1 hA.2.2.2.2.2.2.2.1 hP hD hS q 0 (wd_at (g := g) he) rfl hin d (fun H1 locs1 hP1 hD1 hS1 => ?_)
  have z : (wd g hp).set q (g.2.2.1 q, .inl (g.2.2.2 0, n, .inl (upd f i.toNatClampNeg x))) = wd g (hp.set q (.inl (0, n, .inl (upd f i.toNatClampNeg x)))) := wd_set (g := g) (e := .inl (0, n, .inl (upd f i.toNatClampNeg x)))
  rw [z] at hP1 hD1
  exact kk p e s m args below meth c A H1 locs1 ls hA hP1 hD1 hS1 hl
theorem ev_last {q n : Nat} {f : Nat → Int64} {i : Int32} {x : Int64} {hp' : List va_E} (d : decode M.2.1 pc = .ok (.lastore, 1)) (he : hp[q]? = some (.inl (1, n, .inr (.inl f)))) (hin : vp_in i n) (hs : hp.set q (.inl (1, n, .inr (.inl (vp_updL f i.toNatClampNeg x)))) = hp') (kk : Ev g M (pc + 1) lv st hp' Post) : Ev g M pc lv (.long x :: .int i :: .ref q :: st) hp Post := by
  intro p e s m args below meth c A H locs ls hA hP hD hS hl
  subst hs
  refine va_last hA.1 hA.2.1 hA.2.2.2.2.2.2.2.1 hP hD hS q 1 (wd_at (g := g) he) rfl hin d (fun H1 locs1 hP1 hD1 hS1 => ?_)
  have z : (wd g hp).set q (g.2.2.1 q, .inl (g.2.2.2 1, n, .inr (.inl (vp_updL f i.toNatClampNeg x)))) = wd g (hp.set q (.inl (1, n, .inr (.inl (vp_updL f i.toNatClampNeg x))))) := wd_set (g := g) (e := .inl (1, n, .inr (.inl (vp_updL f i.toNatClampNeg x))))
  rw [z] at hP1 hD1
  exact kk p e s m args below meth c A H1 locs1 ls hA hP1 hD1 hS1 hl
theorem ev_alenI {q n : Nat} {f : Nat → Int32} {v : Int32} (d : decode M.2.1 pc = .ok (.arraylength, 1)) (he : hp[q]? = some (.inl (0, n, .inl f))) (hv : Int32.ofNat n = v) (kk : Ev g M (pc + 1) lv (.int v :: st) hp Post) : Ev g M pc lv (.ref q :: st) hp Post := by
  intro p e s m args below meth c A H locs ls hA hP hD hS hl
  exact va_alen hA.1 hA.2.1 hA.2.2.2.2.2.2.2.1 hP q 0 (wd_at (g := g) he) rfl hv d (kk p e s m args below meth c A H locs ls hA hP hD hS hl)
theorem ev_alenL {q n : Nat} {f : Nat → Int64} {v : Int32} (d : decode M.2.1 pc = .ok (.arraylength, 1)) (he : hp[q]? = some (.inl (1, n, .inr (.inl f)))) (hv : Int32.ofNat n = v) (kk : Ev g M (pc + 1) lv (.int v :: st) hp Post) : Ev g M pc lv (.ref q :: st) hp Post := by
  intro p e s m args below meth c A H locs ls hA hP hD hS hl
  exact va_alen hA.1 hA.2.1 hA.2.2.2.2.2.2.2.1 hP q 1 (wd_at (g := g) he) rfl hv d (kk p e s m args below meth c A H locs ls hA hP hD hS hl)
end EVH
end
section
theorem Sx.moved {g : GG} {A : Nat → Prop} {u U : State} {H : Heap} (hv : u.vm = U.vm) (h : Sx g A u H) : Sx g A U H := by
  have ha : u.vm.Alike U.vm := by rw [← hv]; exact Vm.Alike.refl _
  exact ⟨h.1.moved ha, fun i hi => (h.2.1 i hi).same hv.symm, h.2.2.moved ha⟩
theorem Sx.warm {g : GG} {A : Nat → Prop} {s U : State} {H : Heap} (hW : s.WarmedH U.vm) (h : Sx g A s H) : Sx g A U H := ⟨h.1.moved hW.alike, fun i hi => (h.2.1 i hi).warm hW, h.2.2.moved hW.alike⟩
theorem Sx.kept {g : GG} {A : Nat → Prop} {s : State} {H H1 : Heap} (h : Sx g A s H) (hq : ∀ a : Nat, a < H.size → ¬ A a → H1[a]? = H[a]?) : Sx g A s H1 := ⟨h.1.kept hq, h.2.1, h.2.2.kept hq⟩
theorem Sx.narrow {g : GG} {A B : Nat → Prop} {s : State} {H : Heap} (h : Sx g A s H) (hAB : ∀ q, B q → A q) : Sx g B s H := ⟨h.1.narrow hAB, h.2.1, h.2.2.narrow hAB⟩
theorem lvc_args {g : GG} : ∀ (as : List Value) (i : Nat), lv_args i (as.map (cv g.2.2.1)) = lvc g (lv_args i as)
  | [], _ => rfl
  | v :: vs, i => by
    show (i, cv g.2.2.1 v) :: lv_args (if (cv g.2.2.1 v).category = 2 then i + 2 else i + 1) (vs.map (cv g.2.2.1)) = (i, cv g.2.2.1 v) :: lvc g (lv_args (if v.category = 2 then i + 2 else i + 1) vs)
    rw [cv_cat, lvc_args vs]
theorem lg_sl_len {g : GG} : ∀ (as : List Value), (lg_sl (as.map (cv g.2.2.1))).length = (lg_sl as).length
  | [] => rfl
  | v :: vs => by
    have h := lg_sl_len (g := g) vs
    unfold lg_sl at h ⊢
    rw [List.map_cons, List.flatMap_cons, List.flatMap_cons, List.length_append, List.length_append, h, cv_cat]
    split <;> rfl
theorem ct_of {g : GG} {M : MD} {as : List Value} {hp : List va_E} {Post : Option Value → List va_E → Prop} (hy : plainName M.1.cls = true) (hlen : Nat.ble (lg_sl as).length M.2.2.1 = true) (h : Ev g M 0 (lv_args 0 as) [] hp Post) : Ct g M as hp Post := by
  intro sz
  refine Met.ofW (cc := M.2.1) (maxL := M.2.2.1) (ret := M.2.2.2.1) hy rfl ?_
  intro p e s m args below meth c s₁ B hml hv
  obtain ⟨rfl, hsz, hP, hK, hD0, hN, hX⟩ := hv
  have hts := atoms_spec (ws := wsM M) B.pre
  have hown : s.vm.findClass M.1.cls = some m.cls := findClass_of_methodNamed B.named
  subst hsz
  have hD := hD0.self (sz := s.heap.size)
  generalize hAe : va_A (wd g hp) s.heap.size = A at hD hX ⊢
  have hA : ∀ q : Nat, s.heap.size ≤ q → A q := fun q h => by rw [← hAe]; exact Or.inr h
  have hS : va_S A s.heap s.heap [] := va_S.rf
  have hl := lv_entry (as.map (cv g.2.2.1)) (n := M.2.2.1) (by rw [lg_sl_len]; exact Nat.le_of_ble_eq_true hlen)
  rw [lg_entry_eq]
  rw [lvc_args] at hl
  exact h p e s m _ below meth c A s.heap [] _ ⟨B.exec, B.bytes, hml, hown, fun w hw => hts w (List.mem_cons_of_mem _ hw), B.returns, B.notSynchronized, hK, hN, hX, hA⟩ hP hD hS hl
/-- a contract's end may be weakened -/
theorem ct_post {g : GG} {M : MD} {as : List Value} {hp : List va_E} {Post Post' : Option Value → List va_E → Prop} (h : ∀ v q, Post' v q → Post v q) (k : Ct g M as hp Post') : Ct g M as hp Post := by
  intro sz p e ha hc hk s m args below hf hfit hP hK
  obtain ⟨t, o, b0, b1, b2, ⟨⟨v, q, c1, c2, c3⟩, c4⟩, b4⟩ := k sz p e ha hc hk s m args below hf hfit hP hK
  exact ⟨t, o, b0, b1, b2, ⟨⟨v, q, c1, h v q c2, c3⟩, c4⟩, b4⟩
def Ml (own : String) (idx : Nat) (M' : MD) : Prop := Cond.methodLink own idx M'.1 ∈ Ts ∨ ∃ host, Cond.methodLinkNest own idx M'.1 host ∈ Tn
def Mm (M' : MD) (n : Nat) : Prop := Cond.code M'.1 M'.2.1 M'.2.2.1 M'.2.2.2.1 ∈ Ts ∧ Cond.initialized M'.1.cls ∈ Ts ∧ (M'.1.cls ≠ "java/lang/invoke/MethodHandle" ∧ M'.1.cls ≠ "java/lang/invoke/VarHandle") ∧ (parseMethodDescriptor M'.1.desc).map (fun d => d.parameters.length) = some n ∧ M'.2.2.2.2.cells = 0 ∧ M'.2.2.2.2.slots = 0
def Mv (M' : MD) (n : Nat) : Prop := Mm M' n ∧ Cond.instanceMethod M'.1 ∈ Ts ∧ Cond.selects M'.1.cls M'.1 M'.1 ∈ Ts
def Ms (M' : MD) (n : Nat) : Prop := Mm M' n ∧ Cond.static M'.1 ∈ Ts
theorem wsM_good {M' : MD} (h : Cond.code M'.1 M'.2.1 M'.2.2.1 M'.2.2.2.1 ∈ Ts) : GoodIn Ts (wsM M') := by
  intro w hw
  rcases List.mem_cons.mp hw with rfl | hw
  · exact ⟨h, good_of_word (ts_good h)⟩
  · exact ⟨hw, good_of_word (ts_good hw)⟩
section EVC
variable {g : GG} {M : MD} {pc : Nat} {lv : List (Nat × Value)} {st : List Value} {hp : List va_E} {Post : Option Value → List va_E → Prop}
theorem callG {p : Program} {l : Launch} {e : Env} {R : Room} {s : State} {m : MethodId} {args : Array Value} {below : List Frame} {meth : Method} {c : Code} {H H0 : Heap} {locs : List Loc} {Q : State → Prop} {ls : Array Slot} {rest st0 : List Value} {a : Array Value} {A A1 : Nat → Prop} {Post' : Option Value → List va_E → Prop}
    (hr : va_Run p l e R s m args below meth c H locs 0 0 0 0 (F0 m pc ls st0) rest (Qg g A1 Post' a) A1) (hS : va_S A H0 H locs) (hF : ∀ q, A1 q → A q)
    (kk : ∀ (v : Option Value) (hp' : List va_E) (t : State) (H1 : Heap) (locs1 : List Loc), t.heap = H1 → Post' v hp' → va_P g.2.1 vwCl (wd g hp') H1 → va_D A1 (wd g hp') → va_S A H0 H1 locs1 → W p l e R s m args below meth c H1 locs1 0 0 Q (F0 m (pc + 3) ls ((v.map (cv g.2.2.1)).toList ++ rest))) : W p l e R s m args below meth c H locs 0 0 Q (F0 m pc ls st0) := by
  intro T hT X
  obtain ⟨v, st₀, t, T', L, h0, X', hL, e1, e2, ⟨⟨v', hp', hv, hp, hP, hK, hD⟩, hz, hk⟩, st⟩ := hr T hT X
  cases hv
  rw [h0] at hz hk
  obtain ⟨t2, a1, b1⟩ := kk v' hp' t T'.heap (locs ++ L) e1.symm hp (by rw [e1]; exact hP) hD
    ⟨Nat.le_trans hS.1 (by rw [e1]; exact hz), fun q h1 h2 => by rw [e1, hk q (Nat.lt_of_lt_of_le h1 hS.1) (fun z => h2 (hF q z))]; exact hS.2.1 q h1 h2, fun q hq => by
      rcases List.mem_append.mp hq with h | h
      · exact hS.2.2 q h
      · exact hF _ (hL q h)⟩ T' rfl X'
  exact ⟨t2, st t2 a1, b1⟩
/-- what the callee starts from -/
theorem call_pre {p : Program} {s : State} {m : MethodId} {args : Array Value} {meth : Method} {c : Code} {A : Nat → Prop} {H : Heap} {locs : List Loc} (hA : Act g M A p s m args meth c) (hP : va_P g.2.1 vwCl (wd g hp) H) (hD : va_D A (wd g hp)) (hS : va_S A s.heap H locs) :
    (∀ q, va_A (wd g hp) H.size q → A q) ∧ ∀ U : State, U.heap = H → s.WarmedH U.vm → (U.heap.size = H.size ∧ va_P g.2.1 vwCl (wd g hp) U.heap ∧ va_K g.2.1 vwCl (tysG g) U ∧ va_D (fun _ => True) (wd g hp) ∧ Nst U ∧ Sx g (va_A (wd g hp) H.size) U U.heap) := by
  have hF : ∀ q, va_A (wd g hp) H.size q → A q := by
    intro q h
    rcases h with ⟨k, e, h⟩ | h
    · exact hD.2 k (q, e) h
    · exact hA.2.2.2.2.2.2.2.2.2.2 q (Nat.le_trans hS.1 h)
  refine ⟨hF, fun U hU hW => ⟨by rw [hU], by rw [hU]; exact hP, va_K.moved hW.alike hA.2.2.2.2.2.2.2.1, hD.weaken (fun _ _ _ _ => trivial), hA.2.2.2.2.2.2.2.2.1.warm hW, ?_⟩⟩
  rw [hU]
  exact ((hA.2.2.2.2.2.2.2.2.2.1.kept hS.2.1).warm hW).narrow hF
theorem call_blind {av : List Value} {sz : Nat} {A : Nat → Prop} : FrameBlind (va_Pc av (fun U => U.heap.size = sz ∧ va_P g.2.1 vwCl (wd g hp) U.heap ∧ va_K g.2.1 vwCl (tysG g) U ∧ va_D (fun _ => True) (wd g hp) ∧ Nst U ∧ Sx g A U U.heap)) := by
  intro a U gf mk q
  obtain ⟨q0, q1, qP, qK, qD, qN, qX⟩ := q
  exact ⟨q0, q1, qP, va_K.moved (u := U) (U := U.calling gf mk a) (Vm.Alike.refl U.vm) qK, qD, Nst.same (u := U) (U := U.calling gf mk a) rfl qN, Sx.moved (u := U) (U := U.calling gf mk a) rfl qX⟩
theorem call_B {M' : MD} {n : Nat} {R : Room} {s : State} {args : Array Value} {own : String} {idx : Nat} (mm : Mm M' n) (hts : ∀ w ∈ Ts, w.before args s = true) (hR : M'.2.2.2.2.frames + 1 ≤ R.frames ∧ 8 + (M'.2.2.1 + 11) + M'.2.2.2.2.locals ≤ R.locals) (hl : Cond.methodLink own idx M'.1 ∈ Ts) : CallB R s args own idx M'.1 M'.2.1 M'.2.2.1 M'.2.2.2.1 (wsM M') M'.2.2.2.2 0 0 n :=
  callB_of n hts (wsM_good mm.1) rfl mm.2.2.2.2.1 mm.2.2.2.2.2 (hts _ mm.2.1) (hts _ hl) ⟨mm.2.2.1.1, mm.2.2.1.2, mm.2.2.2.1⟩ hR
theorem call_N {M' : MD} {n : Nat} {R : Room} {s : State} {args : Array Value} {own host : String} {idx : Nat} (mm : Mm M' n) (hts : ∀ w ∈ Ts, w.before args s = true) (hR : M'.2.2.2.2.frames + 1 ≤ R.frames ∧ 8 + (M'.2.2.1 + 11) + M'.2.2.2.2.locals ≤ R.locals) (hl : va_Nw (.methodLinkNest own idx M'.1 host) s) : va_CN R s args own idx M'.1 host M'.2.1 M'.2.2.1 M'.2.2.2.1 (wsM M') M'.2.2.2.2 0 0 n :=
  va_cnB n hts (wsM_good mm.1) rfl mm.2.2.2.2.1 mm.2.2.2.2.2 hl (hts _ mm.2.1) ⟨mm.2.2.1.1, mm.2.2.1.2, mm.2.2.2.1⟩ hR
theorem cat_sum (l : List Value) : ((l.map (cv g.2.2.1)).map fun v => v.category).sum = (l.map fun v => v.category).sum := by
  rw [List.map_map]
  congr 1
  exact List.map_congr_left (fun v _ => cv_cat _ v)
theorem room_of {M M' : MD} (h : (Nat.ble (M'.2.2.2.2.frames + 1) M.2.2.2.2.frames && Nat.ble (8 + (M'.2.2.1 + 11) + M'.2.2.2.2.locals) M.2.2.2.2.locals) = true) : M'.2.2.2.2.frames + 1 ≤ M.2.2.2.2.frames ∧ 8 + (M'.2.2.1 + 11) + M'.2.2.2.2.locals ≤ M.2.2.2.2.locals := by
  rw [Bool.and_eq_true] at h
  exact ⟨Nat.le_of_ble_eq_true h.1, Nat.le_of_ble_eq_true h.2⟩
theorem ev_callV {idx n q : Nat} {M' : MD} {as rest : List Value} {Post' : Option Value → List va_E → Prop} (d : decode M.2.1 pc = .ok (.invokevirtual idx, 3)) (ml : Ml M.1.cls idx M') (mv : Mv M' n) (hr : (Nat.ble (M'.2.2.2.2.frames + 1) M.2.2.2.2.frames && Nat.ble (8 + (M'.2.2.1 + 11) + M'.2.2.2.2.locals) M.2.2.2.2.locals) = true) (hn : as.length = n) (hw : Nat.ble (rest.map fun v => v.category).sum 8 = true)
    {ci : Nat} {fs : List Value} (hq : hp[q]? = some (.inr (ci, fs))) (hci : (vwCl[ci]?).map (fun z => z.1) = some M'.1.cls) (ct : Ct g M' (.ref q :: as) hp Post') (kk : ∀ v hp', Post' v hp' → Ev g M (pc + 3) lv (v.toList ++ rest) hp' Post) : Ev g M pc lv (as.reverse ++ .ref q :: rest) hp Post := by
  intro p e s m args below meth c A H locs ls hA hP hD hS hl
  obtain ⟨hF, hU⟩ := call_pre hA hP hD hS
  have hR := room_of hr
  have hcl : ∃ z, vwCl[ci]? = some z ∧ z.1 = M'.1.cls := by
    cases hz : vwCl[ci]? with
    | none => rw [hz] at hci; cases hci
    | some z => rw [hz] at hci; exact ⟨z, rfl, Option.some.inj hci⟩
  obtain ⟨z, hz, hz1⟩ := hcl
  have hrecv := va_recv hA.2.2.2.2.2.2.2.1 hP hz (wd_at (g := g) hq)
  rw [hz1] at hrecv
  have hst : ((as.reverse ++ Value.ref q :: rest).map (cv g.2.2.1)) = (as.map (cv g.2.2.1)).reverse ++ .ref (g.2.2.1 q) :: rest.map (cv g.2.2.1) := by
    rw [List.map_append, List.map_reverse, List.map_cons]; rfl
  have hsum : (((rest.map (cv g.2.2.1)).map fun v => v.category)).sum ≤ 8 := by rw [cat_sum]; exact Nat.le_of_ble_eq_true hw
  have fin : ∀ (v : Option Value) (hp' : List va_E) (t : State) (H1 : Heap) (locs1 : List Loc), t.heap = H1 → Post' v hp' → va_P g.2.1 vwCl (wd g hp') H1 → va_D (va_A (wd g hp) H.size) (wd g hp') → va_S A s.heap H1 locs1 → W p g.1 e M.2.2.2.2 s m args below meth c H1 locs1 0 0 (MQ below (Qg g A Post) args s 0 0 A) (F0 m (pc + 3) ls ((v.map (cv g.2.2.1)).toList ++ rest.map (cv g.2.2.1))) := by
    intro v hp' t H1 locs1 ht hp1 hP1 hD1 hS1
    have := kk v hp' hp1 p e s m args below meth c A H1 locs1 ls hA hP1 (hD1.weaken (fun _ _ _ h => hF _ h)) hS1 hl
    rw [List.map_append] at this
    cases v <;> exact this
  have hpre : PreV s H M'.1.cls (g.2.2.1 q) (va_Pc ((Value.ref q :: as).map (cv g.2.2.1)) (fun U => U.heap.size = H.size ∧ va_P g.2.1 vwCl (wd g hp) U.heap ∧ va_K g.2.1 vwCl (tysG g) U ∧ va_D (fun _ => True) (wd g hp) ∧ Nst U ∧ Sx g (va_A (wd g hp) H.size) U U.heap)) (as.map (cv g.2.2.1)) := ⟨call_blind, hrecv, fun U h1 h2 => ⟨rfl, hU U h1 h2⟩⟩
  rw [hst]
  rcases ml with hml | ⟨host, hml⟩
  · exact callG (va_runV (As := as.map (cv g.2.2.1)) ⟨hA.1, hA.2.1, hA.2.2.1, hA.2.2.2.1, hA.2.2.2.2.1⟩ (ct H.size) ⟨call_B mv.1 hA.2.2.2.2.1 hR hml, hA.2.2.2.2.1 _ mv.2.1, hA.2.2.2.2.1 _ mv.2.2⟩ hpre rfl (by rw [List.length_map]; exact hn) hl.1 rfl (lv_room hsum) d ⟨Nat.zero_le _, Nat.zero_le _⟩) hS hF fin
  · exact callG (va_runVN (As := as.map (cv g.2.2.1)) ⟨hA.1, hA.2.1, hA.2.2.1, hA.2.2.2.1, hA.2.2.2.2.1⟩ (ct H.size) ⟨call_N mv.1 hA.2.2.2.2.1 hR (hA.2.2.2.2.2.2.2.2.1 _ hml), hA.2.2.2.2.1 _ mv.2.1, hA.2.2.2.2.1 _ mv.2.2⟩ hpre rfl (by rw [List.length_map]; exact hn) hl.1 rfl (lv_room hsum) d ⟨Nat.zero_le _, Nat.zero_le _⟩) hS hF fin
theorem ev_callS {idx n : Nat} {M' : MD} {as rest : List Value} {Post' : Option Value → List va_E → Prop} (d : decode M.2.1 pc = .ok (.invokestatic idx, 3)) (ml : Ml M.1.cls idx M') (mv : Ms M' n) (hr : (Nat.ble (M'.2.2.2.2.frames + 1) M.2.2.2.2.frames && Nat.ble (8 + (M'.2.2.1 + 11) + M'.2.2.2.2.locals) M.2.2.2.2.locals) = true) (hn : as.length = n) (hw : Nat.ble (rest.map fun v => v.category).sum 8 = true)
    (ct : Ct g M' as hp Post') (kk : ∀ v hp', Post' v hp' → Ev g M (pc + 3) lv (v.toList ++ rest) hp' Post) : Ev g M pc lv (as.reverse ++ rest) hp Post := by
  intro p e s m args below meth c A H locs ls hA hP hD hS hl
  obtain ⟨hF, hU⟩ := call_pre hA hP hD hS
  have hR := room_of hr
  have hst : ((as.reverse ++ rest).map (cv g.2.2.1)) = (as.map (cv g.2.2.1)).reverse ++ rest.map (cv g.2.2.1) := by
    rw [List.map_append, List.map_reverse]
  have hsum : (((rest.map (cv g.2.2.1)).map fun v => v.category)).sum ≤ 8 := by rw [cat_sum]; exact Nat.le_of_ble_eq_true hw
  have fin : ∀ (v : Option Value) (hp' : List va_E) (t : State) (H1 : Heap) (locs1 : List Loc), t.heap = H1 → Post' v hp' → va_P g.2.1 vwCl (wd g hp') H1 → va_D (va_A (wd g hp) H.size) (wd g hp') → va_S A s.heap H1 locs1 → W p g.1 e M.2.2.2.2 s m args below meth c H1 locs1 0 0 (MQ below (Qg g A Post) args s 0 0 A) (F0 m (pc + 3) ls ((v.map (cv g.2.2.1)).toList ++ rest.map (cv g.2.2.1))) := by
    intro v hp' t H1 locs1 ht hp1 hP1 hD1 hS1
    have := kk v hp' hp1 p e s m args below meth c A H1 locs1 ls hA hP1 (hD1.weaken (fun _ _ _ h => hF _ h)) hS1 hl
    rw [List.map_append] at this
    cases v <;> exact this
  have hpre : PreS s H (va_Pc (as.map (cv g.2.2.1)) (fun U => U.heap.size = H.size ∧ va_P g.2.1 vwCl (wd g hp) U.heap ∧ va_K g.2.1 vwCl (tysG g) U ∧ va_D (fun _ => True) (wd g hp) ∧ Nst U ∧ Sx g (va_A (wd g hp) H.size) U U.heap)) (as.map (cv g.2.2.1)) := ⟨call_blind, fun U h1 h2 => ⟨rfl, hU U h1 h2⟩⟩
  rw [hst]
  rcases ml with hml | ⟨host, hml⟩
  · exact callG (va_runS (As := as.map (cv g.2.2.1)) ⟨hA.1, hA.2.1, hA.2.2.1, hA.2.2.2.1, hA.2.2.2.2.1⟩ (ct H.size) ⟨call_B mv.1 hA.2.2.2.2.1 hR hml, hA.2.2.2.2.1 _ mv.2⟩ hpre rfl (by rw [List.length_map]; exact hn) hl.1 rfl (lv_room hsum) d ⟨Nat.zero_le _, Nat.zero_le _⟩) hS hF fin
  · exact callG (va_runSN (As := as.map (cv g.2.2.1)) ⟨hA.1, hA.2.1, hA.2.2.1, hA.2.2.2.1, hA.2.2.2.2.1⟩ (ct H.size) ⟨call_N mv.1 hA.2.2.2.2.1 hR (hA.2.2.2.2.2.2.2.2.1 _ hml), hA.2.2.2.2.1 _ mv.2, trivial⟩ hpre rfl (by rw [List.length_map]; exact hn) hl.1 rfl (lv_room hsum) d ⟨Nat.zero_le _, Nat.zero_le _⟩) hS hF fin
end EVC
end
section
section EVS
variable {g : GG} {M : MD} {pc : Nat} {lv : List (Nat × Value)} {st : List Value} {hp : List va_E} {Post : Option Value → List va_E → Prop}
theorem ev_ldcS {idx i : Nat} (d : decode M.2.1 pc = .ok (.ldc idx, 2)) (ho : M.1.cls = RX2) (hi : i < 7) (hx : ixJS i = idx) (k : Ev g M (pc + 2) lv (.ref (100 + i) :: st) hp Post) : Ev g M pc lv st hp Post := by
  intro p e s m args below meth c A H locs ls hA hP hD hS hl
  subst hx
  have hown := hA.2.2.2.1
  rw [ho] at hown
  exact va_ldcS hA.1 hA.2.1 hown (hA.2.2.2.2.2.2.2.2.2.1.2.1 i hi) d (k p e s m args below meth c A H locs ls hA hP hD hS hl)
theorem ev_strVal {idx i : Nat} (d : decode M.2.1 pc = .ok (.getfield idx, 3)) (hl : Cond.fieldLink M.1.cls idx "java/lang/String" "value" "[B" ∈ Ts) (hi : i < 7) (k : Ev g M (pc + 3) lv (.ref (200 + i) :: st) hp Post) : Ev g M pc lv (.ref (100 + i) :: st) hp Post := by
  intro p e s m args below meth c A H locs ls hA hP hD hS hl'
  exact vk_getf hA.1 hA.2.1 (hA.2.2.2.2.2.2.2.2.2.1.1.1 i hi).2.2.1 hS hA.2.2.2.1 (hA.2.2.2.2.1 _ hl) (fun _ z => z) d (k p e s m args below meth c A H locs ls hA hP hD hS hl')
theorem ev_strCoder {idx i : Nat} (d : decode M.2.1 pc = .ok (.getfield idx, 3)) (hl : Cond.fieldLink M.1.cls idx "java/lang/String" "coder" "B" ∈ Ts) (hi : i < 7) (k : Ev g M (pc + 3) lv (.int 0 :: st) hp Post) : Ev g M pc lv (.ref (100 + i) :: st) hp Post := by
  intro p e s m args below meth c A H locs ls hA hP hD hS hl'
  exact vk_getf hA.1 hA.2.1 (hA.2.2.2.2.2.2.2.2.2.1.1.1 i hi).2.1 hS hA.2.2.2.1 (hA.2.2.2.2.1 _ hl) (fun _ z => z) d (k p e s m args below meth c A H locs ls hA hP hD hS hl')
theorem ev_compact {idx : Nat} (d : decode M.2.1 pc = .ok (.getstatic idx, 3)) (hl : Cond.fieldLink M.1.cls idx "java/lang/String" "COMPACT_STRINGS" "Z" ∈ Ts) (k : Ev g M (pc + 3) lv (.int 1 :: st) hp Post) : Ev g M pc lv st hp Post := by
  intro p e s m args below meth c A H locs ls hA hP hD hS hl'
  exact va_gets hA.1 hA.2.1 hA.2.2.2.2.2.2.2.2.2.1.2.2 hS hA.2.2.2.1 (hA.2.2.2.2.1 _ hl) (fun _ z => z) d (k p e s m args below meth c A H locs ls hA hP hD hS hl')
theorem ev_blen {i : Nat} {v : Int32} (d : decode M.2.1 pc = .ok (.arraylength, 1)) (hi : i < 7) (hv : Int32.ofNat (lenJS.getD i 0) = v) (k : Ev g M (pc + 1) lv (.int v :: st) hp Post) : Ev g M pc lv (.ref (200 + i) :: st) hp Post := by
  intro p e s m args below meth c A H locs ls hA hP hD hS hl
  exact va_tlen hA.1 hA.2.1 (hA.2.2.2.2.2.2.2.2.2.1.1.1 i hi).2.2.2 hS hv d (k p e s m args below meth c A H locs ls hA hP hD hS hl)
theorem ev_bald {i : Nat} {j : Int32} (d : decode M.2.1 pc = .ok (.baload, 1)) (hi : i < 7) (hj : vp_in j (lenJS.getD i 0)) (k : Ev g M (pc + 1) lv (.int ((bytJS.getD i []).getD j.toNatClampNeg 0) :: st) hp Post) : Ev g M pc lv (.int j :: .ref (200 + i) :: st) hp Post := by
  intro p e s m args below meth c A H locs ls hA hP hD hS hl
  exact va_tb hA.1 hA.2.1 (hA.2.2.2.2.2.2.2.2.2.1.1.1 i hi).2.2.2 hS hj rfl d (k p e s m args below meth c A H locs ls hA hP hD hS hl)
theorem ev_callT {idx n i : Nat} {M' : MD} {as rest : List Value} {Post' : Option Value → List va_E → Prop} (d : decode M.2.1 pc = .ok (.invokevirtual idx, 3)) (ml : Ml M.1.cls idx M') (mv : Mv M' n) (hr : (Nat.ble (M'.2.2.2.2.frames + 1) M.2.2.2.2.frames && Nat.ble (8 + (M'.2.2.1 + 11) + M'.2.2.2.2.locals) M.2.2.2.2.locals) = true) (hn : as.length = n) (hw : Nat.ble (rest.map fun v => v.category).sum 8 = true)
    (hi : i < 7) (hci : M'.1.cls = "java/lang/String") (ct : Ct g M' (.ref (100 + i) :: as) hp Post') (kk : ∀ v hp', Post' v hp' → Ev g M (pc + 3) lv (v.toList ++ rest) hp' Post) : Ev g M pc lv (as.reverse ++ .ref (100 + i) :: rest) hp Post := by
  intro p e s m args below meth c A H locs ls hA hP hD hS hl
  obtain ⟨hF, hU⟩ := call_pre hA hP hD hS
  have hR := room_of hr
  have hrecv := vk_recv hA.2.2.2.2.2.2.2.2.2.1.1 hi hS
  rw [← hci] at hrecv
  have hst : ((as.reverse ++ Value.ref (100 + i) :: rest).map (cv g.2.2.1)) = (as.map (cv g.2.2.1)).reverse ++ .ref (g.2.2.1 (100 + i)) :: rest.map (cv g.2.2.1) := by
    rw [List.map_append, List.map_reverse, List.map_cons]; rfl
  have hsum : (((rest.map (cv g.2.2.1)).map fun v => v.category)).sum ≤ 8 := by rw [cat_sum]; exact Nat.le_of_ble_eq_true hw
  have fin : ∀ (v : Option Value) (hp' : List va_E) (t : State) (H1 : Heap) (locs1 : List Loc), t.heap = H1 → Post' v hp' → va_P g.2.1 vwCl (wd g hp') H1 → va_D (va_A (wd g hp) H.size) (wd g hp') → va_S A s.heap H1 locs1 → W p g.1 e M.2.2.2.2 s m args below meth c H1 locs1 0 0 (MQ below (Qg g A Post) args s 0 0 A) (F0 m (pc + 3) ls ((v.map (cv g.2.2.1)).toList ++ rest.map (cv g.2.2.1))) := by
    intro v hp' t H1 locs1 ht hp1 hP1 hD1 hS1
    have := kk v hp' hp1 p e s m args below meth c A H1 locs1 ls hA hP1 (hD1.weaken (fun _ _ _ h => hF _ h)) hS1 hl
    rw [List.map_append] at this
    cases v <;> exact this
  have hpre : PreV s H M'.1.cls (g.2.2.1 (100 + i)) (va_Pc ((Value.ref (100 + i) :: as).map (cv g.2.2.1)) (fun U => U.heap.size = H.size ∧ va_P g.2.1 vwCl (wd g hp) U.heap ∧ va_K g.2.1 vwCl (tysG g) U ∧ va_D (fun _ => True) (wd g hp) ∧ Nst U ∧ Sx g (va_A (wd g hp) H.size) U U.heap)) (as.map (cv g.2.2.1)) := ⟨call_blind, hrecv, fun U h1 h2 => ⟨rfl, hU U h1 h2⟩⟩
  rw [hst]
  rcases ml with hml | ⟨host, hml⟩
  · exact callG (va_runV (As := as.map (cv g.2.2.1)) ⟨hA.1, hA.2.1, hA.2.2.1, hA.2.2.2.1, hA.2.2.2.2.1⟩ (ct H.size) ⟨call_B mv.1 hA.2.2.2.2.1 hR hml, hA.2.2.2.2.1 _ mv.2.1, hA.2.2.2.2.1 _ mv.2.2⟩ hpre rfl (by rw [List.length_map]; exact hn) hl.1 rfl (lv_room hsum) d ⟨Nat.zero_le _, Nat.zero_le _⟩) hS hF fin
  · exact callG (va_runVN (As := as.map (cv g.2.2.1)) ⟨hA.1, hA.2.1, hA.2.2.1, hA.2.2.2.1, hA.2.2.2.2.1⟩ (ct H.size) ⟨call_N mv.1 hA.2.2.2.2.1 hR (hA.2.2.2.2.2.2.2.2.1 _ hml), hA.2.2.2.2.1 _ mv.2.1, hA.2.2.2.2.1 _ mv.2.2⟩ hpre rfl (by rw [List.length_map]; exact hn) hl.1 rfl (lv_room hsum) d ⟨Nat.zero_le _, Nat.zero_le _⟩) hS hF fin
theorem ls_ml {p : Program} {s : State} {m : MethodId} {args : Array Value} {meth : Method} {c : Code} {A : Nat → Prop} {ls : Array Slot} (hA : Act g M A p s m args meth c) (hl : lv_has ls M.2.2.1 (lvc g lv)) : c.maxLocals = ls.size := hA.2.2.1.trans hl.1.symm
theorem ev_mmax {idx : Nat} {x y : Int32} (d : decode M.2.1 pc = .ok (.invokestatic idx, 3)) (h1 : Cond.methodLink M.1.cls idx Lib.Math.max.name ∈ Ts) (h2 : Cond.static Lib.Math.max.name ∈ Ts) (h3 : Cond.initialized "java/lang/Math" ∈ Ts) (h4 : Cond.code Lib.Math.max.name Lib.Math.max.code 2 (some .int) ∈ Ts) (hf : Nat.ble 1 M.2.2.2.2.frames = true) (hw : Nat.ble ((st.map fun v => v.category).sum + 13) M.2.2.2.2.locals = true) (k : Ev g M (pc + 3) lv (.int (if x < y then y else x) :: st) hp Post) : Ev g M pc lv (.int y :: .int x :: st) hp Post := by
  intro p e s m args below meth c A H locs ls hA hP hD hS hl
  exact va_mmax hA.1 hA.2.1 (ls_ml hA hl) hA.2.2.2.1 (hA.2.2.2.2.1 _ h1) (hA.2.2.2.2.1 _ h2) (hA.2.2.2.2.1 _ h3) (hA.2.2.2.2.1 _ h4) (Nat.le_of_ble_eq_true hf) (by rw [cat_sum]; exact Nat.le_of_ble_eq_true hw) (Nat.zero_le _) (Nat.zero_le _) d (k p e s m args below meth c A H locs ls hA hP hD hS hl)
theorem ev_mmin {idx : Nat} {x y : Int32} (d : decode M.2.1 pc = .ok (.invokestatic idx, 3)) (h1 : Cond.methodLink M.1.cls idx Lib.Math.min.name ∈ Ts) (h2 : Cond.static Lib.Math.min.name ∈ Ts) (h3 : Cond.initialized "java/lang/Math" ∈ Ts) (h4 : Cond.code Lib.Math.min.name Lib.Math.min.code 2 (some .int) ∈ Ts) (hf : Nat.ble 1 M.2.2.2.2.frames = true) (hw : Nat.ble ((st.map fun v => v.category).sum + 13) M.2.2.2.2.locals = true) (k : Ev g M (pc + 3) lv (.int (if y < x then y else x) :: st) hp Post) : Ev g M pc lv (.int y :: .int x :: st) hp Post := by
  intro p e s m args below meth c A H locs ls hA hP hD hS hl
  exact va_mmin hA.1 hA.2.1 (ls_ml hA hl) hA.2.2.2.1 (hA.2.2.2.2.1 _ h1) (hA.2.2.2.2.1 _ h2) (hA.2.2.2.2.1 _ h3) (hA.2.2.2.2.1 _ h4) (Nat.le_of_ble_eq_true hf) (by rw [cat_sum]; exact Nat.le_of_ble_eq_true hw) (Nat.zero_le _) (Nat.zero_le _) d (k p e s m args below meth c A H locs ls hA hP hD hS hl)
theorem ev_mmax_long {idx : Nat} {x y : Int64} (d : decode M.2.1 pc = .ok (.invokestatic idx, 3)) (h1 : Cond.methodLink M.1.cls idx Lib.MathLoose.max_long.x ∈ Ts) (h2 : Cond.static Lib.MathLoose.max_long.x ∈ Ts) (h3 : Cond.initialized "java/lang/Math" ∈ Ts) (h4 : Cond.code Lib.MathLoose.max_long.x Lib.MathLoose.max_long.code 4 (some .long) ∈ Ts) (hf : Nat.ble 1 M.2.2.2.2.frames = true) (hw : Nat.ble ((st.map fun v => v.category).sum + 15) M.2.2.2.2.locals = true) (k : Ev g M (pc + 3) lv (.long (if y < x then x else y) :: st) hp Post) : Ev g M pc lv (.long y :: .long x :: st) hp Post := by
  intro p e s m args below meth c A H locs ls hA hP hD hS hl
  exact va_mmax_long hA.1 hA.2.1 (ls_ml hA hl) hA.2.2.2.1 (hA.2.2.2.2.1 _ h1) (hA.2.2.2.2.1 _ h2) (hA.2.2.2.2.1 _ h3) (hA.2.2.2.2.1 _ h4) (Nat.le_of_ble_eq_true hf) (by rw [cat_sum]; exact Nat.le_of_ble_eq_true hw) (Nat.zero_le _) (Nat.zero_le _) d (k p e s m args below meth c A H locs ls hA hP hD hS hl)
theorem ev_mmin_long {idx : Nat} {x y : Int64} (d : decode M.2.1 pc = .ok (.invokestatic idx, 3)) (h1 : Cond.methodLink M.1.cls idx Lib.MathLoose.min_long.x ∈ Ts) (h2 : Cond.static Lib.MathLoose.min_long.x ∈ Ts) (h3 : Cond.initialized "java/lang/Math" ∈ Ts) (h4 : Cond.code Lib.MathLoose.min_long.x Lib.MathLoose.min_long.code 4 (some .long) ∈ Ts) (hf : Nat.ble 1 M.2.2.2.2.frames = true) (hw : Nat.ble ((st.map fun v => v.category).sum + 15) M.2.2.2.2.locals = true) (k : Ev g M (pc + 3) lv (.long (if y < x then y else x) :: st) hp Post) : Ev g M pc lv (.long y :: .long x :: st) hp Post := by
  intro p e s m args below meth c A H locs ls hA hP hD hS hl
  exact va_mmin_long hA.1 hA.2.1 (ls_ml hA hl) hA.2.2.2.1 (hA.2.2.2.2.1 _ h1) (hA.2.2.2.2.1 _ h2) (hA.2.2.2.2.1 _ h3) (hA.2.2.2.2.1 _ h4) (Nat.le_of_ble_eq_true hf) (by rw [cat_sum]; exact Nat.le_of_ble_eq_true hw) (Nat.zero_le _) (Nat.zero_le _) d (k p e s m args below meth c A H locs ls hA hP hD hS hl)
theorem ev_copyl {idx q0 q1 n0 n1 : Nat} {f f1 : Nat → Int64} {sp dp n : Int32} {hp' : List va_E} (d : decode M.2.1 pc = .ok (.invokestatic idx, 3)) (h1 : Cond.methodLink M.1.cls idx arraycopyName ∈ Ts) (h2 : Cond.native arraycopyName ∈ Ts) (h3 : Cond.static arraycopyName ∈ Ts) (h4 : Cond.initialized "java/lang/System" ∈ Ts)
    (he0 : hp[q0]? = some (.inl (1, n0, .inr (.inl f)))) (he1 : hp[q1]? = some (.inl (1, n1, .inr (.inl f1)))) (g1 : ¬ sp < 0) (g2 : ¬ dp < 0) (g3 : ¬ n < 0) (g4 : sp.toNatClampNeg + n.toNatClampNeg ≤ n0) (g5 : dp.toNatClampNeg + n.toNatClampNeg ≤ n1) (hf : Nat.ble 1 M.2.2.2.2.frames = true) (hw : Nat.ble ((st.map fun v => v.category).sum + (nativeFrameWords "java/lang/System" "arraycopy" 5 + 11)) M.2.2.2.2.locals = true)
    (hs : hp.set q1 (.inl (1, n1, .inr (.inl (va_cpy f f1 sp.toNatClampNeg dp.toNatClampNeg n.toNatClampNeg)))) = hp') (k : Ev g M (pc + 3) lv st hp' Post) : Ev g M pc lv (.int n :: .int dp :: .ref q1 :: .int sp :: .ref q0 :: st) hp Post := by
  intro p e s m args below meth c A H locs ls hA hP hD hS hl
  subst hs
  refine va_copyl hA.1 hA.2.1 (ls_ml hA hl) hA.2.2.2.1 (hA.2.2.2.2.1 _ h1) (hA.2.2.2.2.1 _ h2) (hA.2.2.2.2.1 _ h3) (hA.2.2.2.2.1 _ h4) hA.2.2.2.2.2.2.2.1 hP hD hS q0 q1 1 1 (wd_at (g := g) he0) (wd_at (g := g) he1) rfl rfl rfl g1 g2 g3 g4 g5 (fun _ _ => rfl) (Nat.le_of_ble_eq_true hf) (by rw [cat_sum]; exact Nat.le_of_ble_eq_true hw) d (fun H1 locs1 hP1 hD1 hS1 => ?_)
  have z : (wd g hp).set q1 (g.2.2.1 q1, .inl (g.2.2.2 1, n1, .inr (.inl (va_cpy f f1 sp.toNatClampNeg dp.toNatClampNeg n.toNatClampNeg)))) = wd g (hp.set q1 (.inl (1, n1, .inr (.inl (va_cpy f f1 sp.toNatClampNeg dp.toNatClampNeg n.toNatClampNeg))))) := wd_set (g := g) (e := .inl (1, n1, .inr (.inl (va_cpy f f1 sp.toNatClampNeg dp.toNatClampNeg n.toNatClampNeg))))
  rw [z] at hP1 hD1
  exact k p e s m args below meth c A H1 locs1 ls hA hP1 hD1 hS1 hl
theorem pl1 : plainName "java/lang/String" = true := by decide +kernel
theorem pl2 : plainName "java/lang/StringLatin1" = true := by decide +kernel
theorem pl4 : plainName "java/util/Arrays" = true := by decide +kernel
end EVS
end
section
/-- what the world's cells hold: ints, int rows, longs, long rows, references that move -/
abbrev St : Type := (Nat → Int32) × (Nat → Nat → Int32) × (Nat → Int64) × (Nat → Nat → Int64) × (Nat → Nat)
def setI (S : St) (n : Nat) (x : Int32) : St := (va_up S.1 n x, S.2)
def setA (S : St) (n : Nat) (f : Nat → Int32) : St := (S.1, va_up S.2.1 n f, S.2.2)
def setL (S : St) (n : Nat) (x : Int64) : St := (S.1, S.2.1, va_up S.2.2.1 n x, S.2.2.2)
def setB (S : St) (n : Nat) (f : Nat → Int64) : St := (S.1, S.2.1, S.2.2.1, va_up S.2.2.2.1 n f, S.2.2.2.2)
def setP (S : St) (n : Nat) (q : Nat) : St := (S.1, S.2.1, S.2.2.1, S.2.2.2.1, va_up S.2.2.2.2 n q)
/-- the cells -/
def hC (S : St) : List va_E := [
  .inr (9, [.ref 1, .ref 5, .ref 9, .ref 14, .ref 16, .ref 17, .ref 26, .ref 30, .ref (S.2.2.2.2 0), .ref (S.2.2.2.2 1), .int (S.1 0), .int (S.1 1)]),
  .inr (4, [.ref 2, .ref 3, .ref 4, .int (S.1 2)]),
  .inl (0, 40, .inl (S.2.1 0)),
  .inl (0, 40, .inl (S.2.1 1)),
  .inl (0, 40, .inl (S.2.1 2)),
  .inr (3, [.ref 6, .ref 7, .ref 8, .int (S.1 3)]),
  .inl (0, 200, .inl (S.2.1 3)),
  .inl (0, 200, .inl (S.2.1 4)),
  .inl (0, 200, .inl (S.2.1 5)),
  .inr (0, [.ref 10, .ref 11, .ref 12, .ref 13, .int (S.1 4), .int (S.1 5)]),
  .inl (0, 300, .inl (S.2.1 6)),
  .inl (0, 300, .inl (S.2.1 7)),
  .inl (0, 300, .inl (S.2.1 8)),
  .inl (0, 300, .inl (S.2.1 9)),
  .inr (7, [.ref 15, .int (S.1 6)]),
  .inl (0, 200, .inl (S.2.1 10)),
  .inr (2, [.ref 14, .ref (S.2.2.2.2 2), .int (S.1 7), .int (S.1 8), .int (S.1 9)]),
  .inr (1, [.ref 18, .ref 19, .ref 20, .ref 21, .ref 22, .ref 23, .ref 24, .ref 25, .long (S.2.2.1 0), .long (S.2.2.1 1), .long (S.2.2.1 2)]),
  .inl (1, 40, .inr (.inl (S.2.2.2.1 0))),
  .inl (1, 40, .inr (.inl (S.2.2.2.1 1))),
  .inl (1, 40, .inr (.inl (S.2.2.2.1 2))),
  .inl (1, 40, .inr (.inl (S.2.2.2.1 3))),
  .inl (1, 40, .inr (.inl (S.2.2.2.1 4))),
  .inl (1, 40, .inr (.inl (S.2.2.2.1 5))),
  .inl (1, 40, .inr (.inl (S.2.2.2.1 6))),
  .inl (1, 40, .inr (.inl (S.2.2.2.1 7))),
  .inr (5, [.ref 27, .ref 28, .ref 29, .int (S.1 10), .int (S.1 11)]),
  .inl (0, 60, .inl (S.2.1 11)),
  .inl (0, 60, .inl (S.2.1 12)),
  .inl (0, 60, .inl (S.2.1 13)),
  .inr (6, [.ref 31, .ref 32, .ref 33, .ref 34, .int (S.1 12), .int (S.1 13), .int (S.1 14), .int (S.1 15)]),
  .inl (0, 16, .inl (S.2.1 14)),
  .inl (0, 16, .inl (S.2.1 15)),
  .inl (0, 2754, .inl (S.2.1 16)),
  .inl (0, 17, .inl (S.2.1 17)),
  .inr (8, [.ref 36, .ref 37, .ref 38, .int (S.1 16), .int (S.1 18)]),
  .inl (0, 5, .inl (S.2.1 18)),
  .inl (0, 4, .inl (S.2.1 20)),
  .inl (0, 4, .inl (S.2.1 22)),
  .inr (8, [.ref 40, .ref 41, .ref 42, .int (S.1 17), .int (S.1 19)]),
  .inl (0, 5, .inl (S.2.1 19)),
  .inl (0, 4, .inl (S.2.1 21)),
  .inl (0, 4, .inl (S.2.1 23)),
  .inr (10, [.int (S.1 20), .int (S.1 21), .int (S.1 22), .ref 44, .ref 45, .ref 46, .int (S.1 23), .ref 47, .ref 48, .ref 49, .int (S.1 24), .ref 50, .ref 51, .ref 52, .ref 53, .int (S.1 25), .ref 54, .int (S.1 26), .ref 55, .ref 56, .int (S.1 27), .ref 57, .int (S.1 28), .ref 58, .ref 59, .ref 60, .int (S.1 29), .int (S.1 30), .int (S.1 31), .int (S.1 32), .long (S.2.2.1 3), .int (S.1 33), .int (S.1 34), .ref 61, .ref 62, .ref 63, .ref 64, .ref 65, .ref 66, .ref 67, .ref 68, .ref 69, .int (S.1 35), .int (S.1 36), .ref 70, .ref 71, .ref 72, .int (S.1 37), .ref 73, .ref 74, .int (S.1 38), .ref 75, .ref 76]),
  .inl (0, 40, .inl (S.2.1 24)),
  .inl (0, 40, .inl (S.2.1 25)),
  .inl (0, 40, .inl (S.2.1 26)),
  .inl (0, 200, .inl (S.2.1 27)),
  .inl (0, 200, .inl (S.2.1 28)),
  .inl (0, 200, .inl (S.2.1 29)),
  .inl (0, 300, .inl (S.2.1 30)),
  .inl (0, 300, .inl (S.2.1 31)),
  .inl (0, 300, .inl (S.2.1 32)),
  .inl (0, 300, .inl (S.2.1 33)),
  .inl (0, 5, .inl (S.2.1 34)),
  .inl (0, 4, .inl (S.2.1 35)),
  .inl (0, 4, .inl (S.2.1 36)),
  .inl (0, 5, .inl (S.2.1 37)),
  .inl (0, 4, .inl (S.2.1 38)),
  .inl (0, 4, .inl (S.2.1 39)),
  .inl (0, 200, .inl (S.2.1 40)),
  .inl (1, 40, .inr (.inl (S.2.2.2.1 8))),
  .inl (1, 40, .inr (.inl (S.2.2.2.1 9))),
  .inl (1, 40, .inr (.inl (S.2.2.2.1 10))),
  .inl (1, 40, .inr (.inl (S.2.2.2.1 11))),
  .inl (1, 40, .inr (.inl (S.2.2.2.1 12))),
  .inl (1, 40, .inr (.inl (S.2.2.2.1 13))),
  .inl (1, 40, .inr (.inl (S.2.2.2.1 14))),
  .inl (1, 40, .inr (.inl (S.2.2.2.1 15))),
  .inl (1, 40, .inr (.inl (S.2.2.2.1 16))),
  .inl (0, 60, .inl (S.2.1 41)),
  .inl (0, 60, .inl (S.2.1 42)),
  .inl (0, 60, .inl (S.2.1 43)),
  .inl (0, 16, .inl (S.2.1 44)),
  .inl (0, 16, .inl (S.2.1 45)),
  .inl (0, 17, .inl (S.2.1 46)),
  .inl (0, 9826, .inl (S.2.1 47))]
section EVL
variable {g : GG} {M : MD} {pc : Nat} {lv : List (Nat × Value)} {st : List Value} {S : St} {Post : Option Value → List va_E → Prop}
theorem get_MF_farmers {idx : Nat} (d : decode M.2.1 pc = .ok (.getfield idx, 3)) (f : Fl M.1.cls idx 9 0) (kk : Ev g M (pc + 3) lv (.ref 1 :: st) (hC S) Post) : Ev g M pc lv (.ref 0 :: st) (hC S) Post := ev_getf d f rfl rfl kk
theorem get_MF_credits {idx : Nat} (d : decode M.2.1 pc = .ok (.getfield idx, 3)) (f : Fl M.1.cls idx 9 1) (kk : Ev g M (pc + 3) lv (.ref 5 :: st) (hC S) Post) : Ev g M pc lv (.ref 0 :: st) (hC S) Post := ev_getf d f rfl rfl kk
theorem get_MF_baskets {idx : Nat} (d : decode M.2.1 pc = .ok (.getfield idx, 3)) (f : Fl M.1.cls idx 9 2) (kk : Ev g M (pc + 3) lv (.ref 9 :: st) (hC S) Post) : Ev g M pc lv (.ref 0 :: st) (hC S) Post := ev_getf d f rfl rfl kk
theorem get_MF_tape {idx : Nat} (d : decode M.2.1 pc = .ok (.getfield idx, 3)) (f : Fl M.1.cls idx 9 3) (kk : Ev g M (pc + 3) lv (.ref 14 :: st) (hC S) Post) : Ev g M pc lv (.ref 0 :: st) (hC S) Post := ev_getf d f rfl rfl kk
theorem get_MF_reader {idx : Nat} (d : decode M.2.1 pc = .ok (.getfield idx, 3)) (f : Fl M.1.cls idx 9 4) (kk : Ev g M (pc + 3) lv (.ref 16 :: st) (hC S) Post) : Ev g M pc lv (.ref 0 :: st) (hC S) Post := ev_getf d f rfl rfl kk
theorem get_MF_books {idx : Nat} (d : decode M.2.1 pc = .ok (.getfield idx, 3)) (f : Fl M.1.cls idx 9 5) (kk : Ev g M (pc + 3) lv (.ref 17 :: st) (hC S) Post) : Ev g M pc lv (.ref 0 :: st) (hC S) Post := ev_getf d f rfl rfl kk
theorem get_MF_land {idx : Nat} (d : decode M.2.1 pc = .ok (.getfield idx, 3)) (f : Fl M.1.cls idx 9 6) (kk : Ev g M (pc + 3) lv (.ref 26 :: st) (hC S) Post) : Ev g M pc lv (.ref 0 :: st) (hC S) Post := ev_getf d f rfl rfl kk
theorem get_MF_road {idx : Nat} (d : decode M.2.1 pc = .ok (.getfield idx, 3)) (f : Fl M.1.cls idx 9 7) (kk : Ev g M (pc + 3) lv (.ref 30 :: st) (hC S) Post) : Ev g M pc lv (.ref 0 :: st) (hC S) Post := ev_getf d f rfl rfl kk
theorem get_MF_terms {idx : Nat} {x : Nat} (d : decode M.2.1 pc = .ok (.getfield idx, 3)) (f : Fl M.1.cls idx 9 8) (h : S.2.2.2.2 0 = x) (kk : Ev g M (pc + 3) lv (.ref x :: st) (hC S) Post) : Ev g M pc lv (.ref 0 :: st) (hC S) Post := by subst h; exact ev_getf d f rfl rfl kk
theorem put_MF_terms {idx : Nat} {x : Nat} (d : decode M.2.1 pc = .ok (.putfield idx, 3)) (f : Fp M.1.cls idx 9 8 (.object "MillFarmers$Terms")) (kk : Ev g M (pc + 3) lv st (hC (setP S 0 x)) Post) : Ev g M pc lv (.ref x :: .ref 0 :: st) (hC S) Post := ev_putf d f rfl rfl (fun _ => rfl) (fun _ => rfl) rfl kk
theorem get_MF_draft {idx : Nat} {x : Nat} (d : decode M.2.1 pc = .ok (.getfield idx, 3)) (f : Fl M.1.cls idx 9 9) (h : S.2.2.2.2 1 = x) (kk : Ev g M (pc + 3) lv (.ref x :: st) (hC S) Post) : Ev g M pc lv (.ref 0 :: st) (hC S) Post := by subst h; exact ev_getf d f rfl rfl kk
theorem put_MF_draft {idx : Nat} {x : Nat} (d : decode M.2.1 pc = .ok (.putfield idx, 3)) (f : Fp M.1.cls idx 9 9 (.object "MillFarmers$Terms")) (kk : Ev g M (pc + 3) lv st (hC (setP S 1 x)) Post) : Ev g M pc lv (.ref x :: .ref 0 :: st) (hC S) Post := ev_putf d f rfl rfl (fun _ => rfl) (fun _ => rfl) rfl kk
theorem get_MF_faultPlace {idx : Nat} {x : Int32} (d : decode M.2.1 pc = .ok (.getfield idx, 3)) (f : Fl M.1.cls idx 9 10) (h : S.1 0 = x) (kk : Ev g M (pc + 3) lv (.int x :: st) (hC S) Post) : Ev g M pc lv (.ref 0 :: st) (hC S) Post := by subst h; exact ev_getf d f rfl rfl kk
theorem put_MF_faultPlace {idx : Nat} {x : Int32} (d : decode M.2.1 pc = .ok (.putfield idx, 3)) (f : Fp M.1.cls idx 9 10 .int) (kk : Ev g M (pc + 3) lv st (hC (setI S 0 x)) Post) : Ev g M pc lv (.int x :: .ref 0 :: st) (hC S) Post := ev_putf d f rfl rfl (fun _ => rfl) (fun _ => rfl) rfl kk
theorem get_MF_refusal {idx : Nat} {x : Int32} (d : decode M.2.1 pc = .ok (.getfield idx, 3)) (f : Fl M.1.cls idx 9 11) (h : S.1 1 = x) (kk : Ev g M (pc + 3) lv (.int x :: st) (hC S) Post) : Ev g M pc lv (.ref 0 :: st) (hC S) Post := by subst h; exact ev_getf d f rfl rfl kk
theorem put_MF_refusal {idx : Nat} {x : Int32} (d : decode M.2.1 pc = .ok (.putfield idx, 3)) (f : Fp M.1.cls idx 9 11 .int) (kk : Ev g M (pc + 3) lv st (hC (setI S 1 x)) Post) : Ev g M pc lv (.int x :: .ref 0 :: st) (hC S) Post := ev_putf d f rfl rfl (fun _ => rfl) (fun _ => rfl) rfl kk
theorem get_F_group {idx : Nat} (d : decode M.2.1 pc = .ok (.getfield idx, 3)) (f : Fl M.1.cls idx 4 0) (kk : Ev g M (pc + 3) lv (.ref 2 :: st) (hC S) Post) : Ev g M pc lv (.ref 1 :: st) (hC S) Post := ev_getf d f rfl rfl kk
theorem get_F_place {idx : Nat} (d : decode M.2.1 pc = .ok (.getfield idx, 3)) (f : Fl M.1.cls idx 4 1) (kk : Ev g M (pc + 3) lv (.ref 3 :: st) (hC S) Post) : Ev g M pc lv (.ref 1 :: st) (hC S) Post := ev_getf d f rfl rfl kk
theorem get_F_fields {idx : Nat} (d : decode M.2.1 pc = .ok (.getfield idx, 3)) (f : Fl M.1.cls idx 4 2) (kk : Ev g M (pc + 3) lv (.ref 4 :: st) (hC S) Post) : Ev g M pc lv (.ref 1 :: st) (hC S) Post := ev_getf d f rfl rfl kk
theorem get_F_size {idx : Nat} {x : Int32} (d : decode M.2.1 pc = .ok (.getfield idx, 3)) (f : Fl M.1.cls idx 4 3) (h : S.1 2 = x) (kk : Ev g M (pc + 3) lv (.int x :: st) (hC S) Post) : Ev g M pc lv (.ref 1 :: st) (hC S) Post := by subst h; exact ev_getf d f rfl rfl kk
theorem put_F_size {idx : Nat} {x : Int32} (d : decode M.2.1 pc = .ok (.putfield idx, 3)) (f : Fp M.1.cls idx 4 3 .int) (kk : Ev g M (pc + 3) lv st (hC (setI S 2 x)) Post) : Ev g M pc lv (.int x :: .ref 1 :: st) (hC S) Post := ev_putf d f rfl rfl (fun _ => rfl) (fun _ => rfl) rfl kk
theorem ld_F_group {i : Int32} {x : Int32} (d : decode M.2.1 pc = .ok (.iaload, 1)) (hin : vp_in i 40) (h : S.2.1 0 i.toNatClampNeg = x) (kk : Ev g M (pc + 1) lv (.int x :: st) (hC S) Post) : Ev g M pc lv (.int i :: .ref 2 :: st) (hC S) Post := by subst h; exact ev_iald d rfl hin kk
theorem ldN_F_group {k : Nat} {x : Int32} (d : decode M.2.1 pc = .ok (.iaload, 1)) (hk : k < 40) (h : S.2.1 0 k = x) (kk : Ev g M (pc + 1) lv (.int x :: st) (hC S) Post) : Ev g M pc lv (.int (nI k) :: .ref 2 :: st) (hC S) Post := ld_F_group d (vp_in_nI hk (by decide)) (by rw [nI_clamp (by omega)]; exact h) kk
theorem as_F_group {i : Int32} {x : Int32} (d : decode M.2.1 pc = .ok (.iastore, 1)) (hin : vp_in i 40) (kk : Ev g M (pc + 1) lv st (hC (setA S 0 (upd (S.2.1 0) i.toNatClampNeg x))) Post) : Ev g M pc lv (.int x :: .int i :: .ref 2 :: st) (hC S) Post := ev_iast d rfl hin rfl kk
theorem asN_F_group {k : Nat} {x : Int32} (d : decode M.2.1 pc = .ok (.iastore, 1)) (hk : k < 40) (kk : Ev g M (pc + 1) lv st (hC (setA S 0 (upd (S.2.1 0) k x))) Post) : Ev g M pc lv (.int x :: .int (nI k) :: .ref 2 :: st) (hC S) Post := as_F_group d (vp_in_nI hk (by decide)) (by rw [nI_clamp (by omega)]; exact kk)
theorem ld_F_place {i : Int32} {x : Int32} (d : decode M.2.1 pc = .ok (.iaload, 1)) (hin : vp_in i 40) (h : S.2.1 1 i.toNatClampNeg = x) (kk : Ev g M (pc + 1) lv (.int x :: st) (hC S) Post) : Ev g M pc lv (.int i :: .ref 3 :: st) (hC S) Post := by subst h; exact ev_iald d rfl hin kk
theorem ldN_F_place {k : Nat} {x : Int32} (d : decode M.2.1 pc = .ok (.iaload, 1)) (hk : k < 40) (h : S.2.1 1 k = x) (kk : Ev g M (pc + 1) lv (.int x :: st) (hC S) Post) : Ev g M pc lv (.int (nI k) :: .ref 3 :: st) (hC S) Post := ld_F_place d (vp_in_nI hk (by decide)) (by rw [nI_clamp (by omega)]; exact h) kk
theorem as_F_place {i : Int32} {x : Int32} (d : decode M.2.1 pc = .ok (.iastore, 1)) (hin : vp_in i 40) (kk : Ev g M (pc + 1) lv st (hC (setA S 1 (upd (S.2.1 1) i.toNatClampNeg x))) Post) : Ev g M pc lv (.int x :: .int i :: .ref 3 :: st) (hC S) Post := ev_iast d rfl hin rfl kk
theorem asN_F_place {k : Nat} {x : Int32} (d : decode M.2.1 pc = .ok (.iastore, 1)) (hk : k < 40) (kk : Ev g M (pc + 1) lv st (hC (setA S 1 (upd (S.2.1 1) k x))) Post) : Ev g M pc lv (.int x :: .int (nI k) :: .ref 3 :: st) (hC S) Post := as_F_place d (vp_in_nI hk (by decide)) (by rw [nI_clamp (by omega)]; exact kk)
theorem ld_F_fields {i : Int32} {x : Int32} (d : decode M.2.1 pc = .ok (.iaload, 1)) (hin : vp_in i 40) (h : S.2.1 2 i.toNatClampNeg = x) (kk : Ev g M (pc + 1) lv (.int x :: st) (hC S) Post) : Ev g M pc lv (.int i :: .ref 4 :: st) (hC S) Post := by subst h; exact ev_iald d rfl hin kk
theorem ldN_F_fields {k : Nat} {x : Int32} (d : decode M.2.1 pc = .ok (.iaload, 1)) (hk : k < 40) (h : S.2.1 2 k = x) (kk : Ev g M (pc + 1) lv (.int x :: st) (hC S) Post) : Ev g M pc lv (.int (nI k) :: .ref 4 :: st) (hC S) Post := ld_F_fields d (vp_in_nI hk (by decide)) (by rw [nI_clamp (by omega)]; exact h) kk
theorem as_F_fields {i : Int32} {x : Int32} (d : decode M.2.1 pc = .ok (.iastore, 1)) (hin : vp_in i 40) (kk : Ev g M (pc + 1) lv st (hC (setA S 2 (upd (S.2.1 2) i.toNatClampNeg x))) Post) : Ev g M pc lv (.int x :: .int i :: .ref 4 :: st) (hC S) Post := ev_iast d rfl hin rfl kk
theorem asN_F_fields {k : Nat} {x : Int32} (d : decode M.2.1 pc = .ok (.iastore, 1)) (hk : k < 40) (kk : Ev g M (pc + 1) lv st (hC (setA S 2 (upd (S.2.1 2) k x))) Post) : Ev g M pc lv (.int x :: .int (nI k) :: .ref 4 :: st) (hC S) Post := as_F_fields d (vp_in_nI hk (by decide)) (by rw [nI_clamp (by omega)]; exact kk)
theorem get_C_farmer {idx : Nat} (d : decode M.2.1 pc = .ok (.getfield idx, 3)) (f : Fl M.1.cls idx 3 0) (kk : Ev g M (pc + 3) lv (.ref 6 :: st) (hC S) Post) : Ev g M pc lv (.ref 5 :: st) (hC S) Post := ev_getf d f rfl rfl kk
theorem get_C_amount {idx : Nat} (d : decode M.2.1 pc = .ok (.getfield idx, 3)) (f : Fl M.1.cls idx 3 1) (kk : Ev g M (pc + 3) lv (.ref 7 :: st) (hC S) Post) : Ev g M pc lv (.ref 5 :: st) (hC S) Post := ev_getf d f rfl rfl kk
theorem get_C_known {idx : Nat} (d : decode M.2.1 pc = .ok (.getfield idx, 3)) (f : Fl M.1.cls idx 3 2) (kk : Ev g M (pc + 3) lv (.ref 8 :: st) (hC S) Post) : Ev g M pc lv (.ref 5 :: st) (hC S) Post := ev_getf d f rfl rfl kk
theorem get_C_size {idx : Nat} {x : Int32} (d : decode M.2.1 pc = .ok (.getfield idx, 3)) (f : Fl M.1.cls idx 3 3) (h : S.1 3 = x) (kk : Ev g M (pc + 3) lv (.int x :: st) (hC S) Post) : Ev g M pc lv (.ref 5 :: st) (hC S) Post := by subst h; exact ev_getf d f rfl rfl kk
theorem put_C_size {idx : Nat} {x : Int32} (d : decode M.2.1 pc = .ok (.putfield idx, 3)) (f : Fp M.1.cls idx 3 3 .int) (kk : Ev g M (pc + 3) lv st (hC (setI S 3 x)) Post) : Ev g M pc lv (.int x :: .ref 5 :: st) (hC S) Post := ev_putf d f rfl rfl (fun _ => rfl) (fun _ => rfl) rfl kk
theorem ld_C_farmer {i : Int32} {x : Int32} (d : decode M.2.1 pc = .ok (.iaload, 1)) (hin : vp_in i 200) (h : S.2.1 3 i.toNatClampNeg = x) (kk : Ev g M (pc + 1) lv (.int x :: st) (hC S) Post) : Ev g M pc lv (.int i :: .ref 6 :: st) (hC S) Post := by subst h; exact ev_iald d rfl hin kk
theorem ldN_C_farmer {k : Nat} {x : Int32} (d : decode M.2.1 pc = .ok (.iaload, 1)) (hk : k < 200) (h : S.2.1 3 k = x) (kk : Ev g M (pc + 1) lv (.int x :: st) (hC S) Post) : Ev g M pc lv (.int (nI k) :: .ref 6 :: st) (hC S) Post := ld_C_farmer d (vp_in_nI hk (by decide)) (by rw [nI_clamp (by omega)]; exact h) kk
theorem as_C_farmer {i : Int32} {x : Int32} (d : decode M.2.1 pc = .ok (.iastore, 1)) (hin : vp_in i 200) (kk : Ev g M (pc + 1) lv st (hC (setA S 3 (upd (S.2.1 3) i.toNatClampNeg x))) Post) : Ev g M pc lv (.int x :: .int i :: .ref 6 :: st) (hC S) Post := ev_iast d rfl hin rfl kk
theorem asN_C_farmer {k : Nat} {x : Int32} (d : decode M.2.1 pc = .ok (.iastore, 1)) (hk : k < 200) (kk : Ev g M (pc + 1) lv st (hC (setA S 3 (upd (S.2.1 3) k x))) Post) : Ev g M pc lv (.int x :: .int (nI k) :: .ref 6 :: st) (hC S) Post := as_C_farmer d (vp_in_nI hk (by decide)) (by rw [nI_clamp (by omega)]; exact kk)
theorem ld_C_amount {i : Int32} {x : Int32} (d : decode M.2.1 pc = .ok (.iaload, 1)) (hin : vp_in i 200) (h : S.2.1 4 i.toNatClampNeg = x) (kk : Ev g M (pc + 1) lv (.int x :: st) (hC S) Post) : Ev g M pc lv (.int i :: .ref 7 :: st) (hC S) Post := by subst h; exact ev_iald d rfl hin kk
theorem ldN_C_amount {k : Nat} {x : Int32} (d : decode M.2.1 pc = .ok (.iaload, 1)) (hk : k < 200) (h : S.2.1 4 k = x) (kk : Ev g M (pc + 1) lv (.int x :: st) (hC S) Post) : Ev g M pc lv (.int (nI k) :: .ref 7 :: st) (hC S) Post := ld_C_amount d (vp_in_nI hk (by decide)) (by rw [nI_clamp (by omega)]; exact h) kk
theorem as_C_amount {i : Int32} {x : Int32} (d : decode M.2.1 pc = .ok (.iastore, 1)) (hin : vp_in i 200) (kk : Ev g M (pc + 1) lv st (hC (setA S 4 (upd (S.2.1 4) i.toNatClampNeg x))) Post) : Ev g M pc lv (.int x :: .int i :: .ref 7 :: st) (hC S) Post := ev_iast d rfl hin rfl kk
theorem asN_C_amount {k : Nat} {x : Int32} (d : decode M.2.1 pc = .ok (.iastore, 1)) (hk : k < 200) (kk : Ev g M (pc + 1) lv st (hC (setA S 4 (upd (S.2.1 4) k x))) Post) : Ev g M pc lv (.int x :: .int (nI k) :: .ref 7 :: st) (hC S) Post := as_C_amount d (vp_in_nI hk (by decide)) (by rw [nI_clamp (by omega)]; exact kk)
theorem ld_C_known {i : Int32} {x : Int32} (d : decode M.2.1 pc = .ok (.iaload, 1)) (hin : vp_in i 200) (h : S.2.1 5 i.toNatClampNeg = x) (kk : Ev g M (pc + 1) lv (.int x :: st) (hC S) Post) : Ev g M pc lv (.int i :: .ref 8 :: st) (hC S) Post := by subst h; exact ev_iald d rfl hin kk
theorem ldN_C_known {k : Nat} {x : Int32} (d : decode M.2.1 pc = .ok (.iaload, 1)) (hk : k < 200) (h : S.2.1 5 k = x) (kk : Ev g M (pc + 1) lv (.int x :: st) (hC S) Post) : Ev g M pc lv (.int (nI k) :: .ref 8 :: st) (hC S) Post := ld_C_known d (vp_in_nI hk (by decide)) (by rw [nI_clamp (by omega)]; exact h) kk
theorem as_C_known {i : Int32} {x : Int32} (d : decode M.2.1 pc = .ok (.iastore, 1)) (hin : vp_in i 200) (kk : Ev g M (pc + 1) lv st (hC (setA S 5 (upd (S.2.1 5) i.toNatClampNeg x))) Post) : Ev g M pc lv (.int x :: .int i :: .ref 8 :: st) (hC S) Post := ev_iast d rfl hin rfl kk
theorem asN_C_known {k : Nat} {x : Int32} (d : decode M.2.1 pc = .ok (.iastore, 1)) (hk : k < 200) (kk : Ev g M (pc + 1) lv st (hC (setA S 5 (upd (S.2.1 5) k x))) Post) : Ev g M pc lv (.int x :: .int (nI k) :: .ref 8 :: st) (hC S) Post := as_C_known d (vp_in_nI hk (by decide)) (by rw [nI_clamp (by omega)]; exact kk)
theorem get_K_farmer {idx : Nat} (d : decode M.2.1 pc = .ok (.getfield idx, 3)) (f : Fl M.1.cls idx 0 0) (kk : Ev g M (pc + 3) lv (.ref 10 :: st) (hC S) Post) : Ev g M pc lv (.ref 9 :: st) (hC S) Post := ev_getf d f rfl rfl kk
theorem get_K_weight {idx : Nat} (d : decode M.2.1 pc = .ok (.getfield idx, 3)) (f : Fl M.1.cls idx 0 1) (kk : Ev g M (pc + 3) lv (.ref 11 :: st) (hC S) Post) : Ev g M pc lv (.ref 9 :: st) (hC S) Post := ev_getf d f rfl rfl kk
theorem get_K_grade {idx : Nat} (d : decode M.2.1 pc = .ok (.getfield idx, 3)) (f : Fl M.1.cls idx 0 2) (kk : Ev g M (pc + 3) lv (.ref 12 :: st) (hC S) Post) : Ev g M pc lv (.ref 9 :: st) (hC S) Post := ev_getf d f rfl rfl kk
theorem get_K_known {idx : Nat} (d : decode M.2.1 pc = .ok (.getfield idx, 3)) (f : Fl M.1.cls idx 0 3) (kk : Ev g M (pc + 3) lv (.ref 13 :: st) (hC S) Post) : Ev g M pc lv (.ref 9 :: st) (hC S) Post := ev_getf d f rfl rfl kk
theorem get_K_size {idx : Nat} {x : Int32} (d : decode M.2.1 pc = .ok (.getfield idx, 3)) (f : Fl M.1.cls idx 0 4) (h : S.1 4 = x) (kk : Ev g M (pc + 3) lv (.int x :: st) (hC S) Post) : Ev g M pc lv (.ref 9 :: st) (hC S) Post := by subst h; exact ev_getf d f rfl rfl kk
theorem put_K_size {idx : Nat} {x : Int32} (d : decode M.2.1 pc = .ok (.putfield idx, 3)) (f : Fp M.1.cls idx 0 4 .int) (kk : Ev g M (pc + 3) lv st (hC (setI S 4 x)) Post) : Ev g M pc lv (.int x :: .ref 9 :: st) (hC S) Post := ev_putf d f rfl rfl (fun _ => rfl) (fun _ => rfl) rfl kk
theorem get_K_weightTogether {idx : Nat} {x : Int32} (d : decode M.2.1 pc = .ok (.getfield idx, 3)) (f : Fl M.1.cls idx 0 5) (h : S.1 5 = x) (kk : Ev g M (pc + 3) lv (.int x :: st) (hC S) Post) : Ev g M pc lv (.ref 9 :: st) (hC S) Post := by subst h; exact ev_getf d f rfl rfl kk
theorem put_K_weightTogether {idx : Nat} {x : Int32} (d : decode M.2.1 pc = .ok (.putfield idx, 3)) (f : Fp M.1.cls idx 0 5 .int) (kk : Ev g M (pc + 3) lv st (hC (setI S 5 x)) Post) : Ev g M pc lv (.int x :: .ref 9 :: st) (hC S) Post := ev_putf d f rfl rfl (fun _ => rfl) (fun _ => rfl) rfl kk
theorem ld_K_farmer {i : Int32} {x : Int32} (d : decode M.2.1 pc = .ok (.iaload, 1)) (hin : vp_in i 300) (h : S.2.1 6 i.toNatClampNeg = x) (kk : Ev g M (pc + 1) lv (.int x :: st) (hC S) Post) : Ev g M pc lv (.int i :: .ref 10 :: st) (hC S) Post := by subst h; exact ev_iald d rfl hin kk
theorem ldN_K_farmer {k : Nat} {x : Int32} (d : decode M.2.1 pc = .ok (.iaload, 1)) (hk : k < 300) (h : S.2.1 6 k = x) (kk : Ev g M (pc + 1) lv (.int x :: st) (hC S) Post) : Ev g M pc lv (.int (nI k) :: .ref 10 :: st) (hC S) Post := ld_K_farmer d (vp_in_nI hk (by decide)) (by rw [nI_clamp (by omega)]; exact h) kk
theorem as_K_farmer {i : Int32} {x : Int32} (d : decode M.2.1 pc = .ok (.iastore, 1)) (hin : vp_in i 300) (kk : Ev g M (pc + 1) lv st (hC (setA S 6 (upd (S.2.1 6) i.toNatClampNeg x))) Post) : Ev g M pc lv (.int x :: .int i :: .ref 10 :: st) (hC S) Post := ev_iast d rfl hin rfl kk
theorem asN_K_farmer {k : Nat} {x : Int32} (d : decode M.2.1 pc = .ok (.iastore, 1)) (hk : k < 300) (kk : Ev g M (pc + 1) lv st (hC (setA S 6 (upd (S.2.1 6) k x))) Post) : Ev g M pc lv (.int x :: .int (nI k) :: .ref 10 :: st) (hC S) Post := as_K_farmer d (vp_in_nI hk (by decide)) (by rw [nI_clamp (by omega)]; exact kk)
theorem ld_K_weight {i : Int32} {x : Int32} (d : decode M.2.1 pc = .ok (.iaload, 1)) (hin : vp_in i 300) (h : S.2.1 7 i.toNatClampNeg = x) (kk : Ev g M (pc + 1) lv (.int x :: st) (hC S) Post) : Ev g M pc lv (.int i :: .ref 11 :: st) (hC S) Post := by subst h; exact ev_iald d rfl hin kk
theorem ldN_K_weight {k : Nat} {x : Int32} (d : decode M.2.1 pc = .ok (.iaload, 1)) (hk : k < 300) (h : S.2.1 7 k = x) (kk : Ev g M (pc + 1) lv (.int x :: st) (hC S) Post) : Ev g M pc lv (.int (nI k) :: .ref 11 :: st) (hC S) Post := ld_K_weight d (vp_in_nI hk (by decide)) (by rw [nI_clamp (by omega)]; exact h) kk
theorem as_K_weight {i : Int32} {x : Int32} (d : decode M.2.1 pc = .ok (.iastore, 1)) (hin : vp_in i 300) (kk : Ev g M (pc + 1) lv st (hC (setA S 7 (upd (S.2.1 7) i.toNatClampNeg x))) Post) : Ev g M pc lv (.int x :: .int i :: .ref 11 :: st) (hC S) Post := ev_iast d rfl hin rfl kk
theorem asN_K_weight {k : Nat} {x : Int32} (d : decode M.2.1 pc = .ok (.iastore, 1)) (hk : k < 300) (kk : Ev g M (pc + 1) lv st (hC (setA S 7 (upd (S.2.1 7) k x))) Post) : Ev g M pc lv (.int x :: .int (nI k) :: .ref 11 :: st) (hC S) Post := as_K_weight d (vp_in_nI hk (by decide)) (by rw [nI_clamp (by omega)]; exact kk)
theorem ld_K_grade {i : Int32} {x : Int32} (d : decode M.2.1 pc = .ok (.iaload, 1)) (hin : vp_in i 300) (h : S.2.1 8 i.toNatClampNeg = x) (kk : Ev g M (pc + 1) lv (.int x :: st) (hC S) Post) : Ev g M pc lv (.int i :: .ref 12 :: st) (hC S) Post := by subst h; exact ev_iald d rfl hin kk
theorem ldN_K_grade {k : Nat} {x : Int32} (d : decode M.2.1 pc = .ok (.iaload, 1)) (hk : k < 300) (h : S.2.1 8 k = x) (kk : Ev g M (pc + 1) lv (.int x :: st) (hC S) Post) : Ev g M pc lv (.int (nI k) :: .ref 12 :: st) (hC S) Post := ld_K_grade d (vp_in_nI hk (by decide)) (by rw [nI_clamp (by omega)]; exact h) kk
theorem as_K_grade {i : Int32} {x : Int32} (d : decode M.2.1 pc = .ok (.iastore, 1)) (hin : vp_in i 300) (kk : Ev g M (pc + 1) lv st (hC (setA S 8 (upd (S.2.1 8) i.toNatClampNeg x))) Post) : Ev g M pc lv (.int x :: .int i :: .ref 12 :: st) (hC S) Post := ev_iast d rfl hin rfl kk
theorem asN_K_grade {k : Nat} {x : Int32} (d : decode M.2.1 pc = .ok (.iastore, 1)) (hk : k < 300) (kk : Ev g M (pc + 1) lv st (hC (setA S 8 (upd (S.2.1 8) k x))) Post) : Ev g M pc lv (.int x :: .int (nI k) :: .ref 12 :: st) (hC S) Post := as_K_grade d (vp_in_nI hk (by decide)) (by rw [nI_clamp (by omega)]; exact kk)
theorem ld_K_known {i : Int32} {x : Int32} (d : decode M.2.1 pc = .ok (.iaload, 1)) (hin : vp_in i 300) (h : S.2.1 9 i.toNatClampNeg = x) (kk : Ev g M (pc + 1) lv (.int x :: st) (hC S) Post) : Ev g M pc lv (.int i :: .ref 13 :: st) (hC S) Post := by subst h; exact ev_iald d rfl hin kk
theorem ldN_K_known {k : Nat} {x : Int32} (d : decode M.2.1 pc = .ok (.iaload, 1)) (hk : k < 300) (h : S.2.1 9 k = x) (kk : Ev g M (pc + 1) lv (.int x :: st) (hC S) Post) : Ev g M pc lv (.int (nI k) :: .ref 13 :: st) (hC S) Post := ld_K_known d (vp_in_nI hk (by decide)) (by rw [nI_clamp (by omega)]; exact h) kk
theorem as_K_known {i : Int32} {x : Int32} (d : decode M.2.1 pc = .ok (.iastore, 1)) (hin : vp_in i 300) (kk : Ev g M (pc + 1) lv st (hC (setA S 9 (upd (S.2.1 9) i.toNatClampNeg x))) Post) : Ev g M pc lv (.int x :: .int i :: .ref 13 :: st) (hC S) Post := ev_iast d rfl hin rfl kk
theorem asN_K_known {k : Nat} {x : Int32} (d : decode M.2.1 pc = .ok (.iastore, 1)) (hk : k < 300) (kk : Ev g M (pc + 1) lv st (hC (setA S 9 (upd (S.2.1 9) k x))) Post) : Ev g M pc lv (.int x :: .int (nI k) :: .ref 13 :: st) (hC S) Post := as_K_known d (vp_in_nI hk (by decide)) (by rw [nI_clamp (by omega)]; exact kk)
theorem get_TP_bytes {idx : Nat} (d : decode M.2.1 pc = .ok (.getfield idx, 3)) (f : Fl M.1.cls idx 7 0) (kk : Ev g M (pc + 3) lv (.ref 15 :: st) (hC S) Post) : Ev g M pc lv (.ref 14 :: st) (hC S) Post := ev_getf d f rfl rfl kk
theorem get_TP_length {idx : Nat} {x : Int32} (d : decode M.2.1 pc = .ok (.getfield idx, 3)) (f : Fl M.1.cls idx 7 1) (h : S.1 6 = x) (kk : Ev g M (pc + 3) lv (.int x :: st) (hC S) Post) : Ev g M pc lv (.ref 14 :: st) (hC S) Post := by subst h; exact ev_getf d f rfl rfl kk
theorem put_TP_length {idx : Nat} {x : Int32} (d : decode M.2.1 pc = .ok (.putfield idx, 3)) (f : Fp M.1.cls idx 7 1 .int) (kk : Ev g M (pc + 3) lv st (hC (setI S 6 x)) Post) : Ev g M pc lv (.int x :: .ref 14 :: st) (hC S) Post := ev_putf d f rfl rfl (fun _ => rfl) (fun _ => rfl) rfl kk
theorem ld_TP_bytes {i : Int32} {x : Int32} (d : decode M.2.1 pc = .ok (.iaload, 1)) (hin : vp_in i 200) (h : S.2.1 10 i.toNatClampNeg = x) (kk : Ev g M (pc + 1) lv (.int x :: st) (hC S) Post) : Ev g M pc lv (.int i :: .ref 15 :: st) (hC S) Post := by subst h; exact ev_iald d rfl hin kk
theorem ldN_TP_bytes {k : Nat} {x : Int32} (d : decode M.2.1 pc = .ok (.iaload, 1)) (hk : k < 200) (h : S.2.1 10 k = x) (kk : Ev g M (pc + 1) lv (.int x :: st) (hC S) Post) : Ev g M pc lv (.int (nI k) :: .ref 15 :: st) (hC S) Post := ld_TP_bytes d (vp_in_nI hk (by decide)) (by rw [nI_clamp (by omega)]; exact h) kk
theorem as_TP_bytes {i : Int32} {x : Int32} (d : decode M.2.1 pc = .ok (.iastore, 1)) (hin : vp_in i 200) (kk : Ev g M (pc + 1) lv st (hC (setA S 10 (upd (S.2.1 10) i.toNatClampNeg x))) Post) : Ev g M pc lv (.int x :: .int i :: .ref 15 :: st) (hC S) Post := ev_iast d rfl hin rfl kk
theorem asN_TP_bytes {k : Nat} {x : Int32} (d : decode M.2.1 pc = .ok (.iastore, 1)) (hk : k < 200) (kk : Ev g M (pc + 1) lv st (hC (setA S 10 (upd (S.2.1 10) k x))) Post) : Ev g M pc lv (.int x :: .int (nI k) :: .ref 15 :: st) (hC S) Post := as_TP_bytes d (vp_in_nI hk (by decide)) (by rw [nI_clamp (by omega)]; exact kk)
theorem get_R_text {idx : Nat} (d : decode M.2.1 pc = .ok (.getfield idx, 3)) (f : Fl M.1.cls idx 2 0) (kk : Ev g M (pc + 3) lv (.ref 14 :: st) (hC S) Post) : Ev g M pc lv (.ref 16 :: st) (hC S) Post := ev_getf d f rfl rfl kk
theorem get_R_terms {idx : Nat} {x : Nat} (d : decode M.2.1 pc = .ok (.getfield idx, 3)) (f : Fl M.1.cls idx 2 1) (h : S.2.2.2.2 2 = x) (kk : Ev g M (pc + 3) lv (.ref x :: st) (hC S) Post) : Ev g M pc lv (.ref 16 :: st) (hC S) Post := by subst h; exact ev_getf d f rfl rfl kk
theorem put_R_terms {idx : Nat} {x : Nat} (d : decode M.2.1 pc = .ok (.putfield idx, 3)) (f : Fp M.1.cls idx 2 1 (.object "MillFarmers$Terms")) (kk : Ev g M (pc + 3) lv st (hC (setP S 2 x)) Post) : Ev g M pc lv (.ref x :: .ref 16 :: st) (hC S) Post := ev_putf d f rfl rfl (fun _ => rfl) (fun _ => rfl) rfl kk
theorem get_R_kind {idx : Nat} {x : Int32} (d : decode M.2.1 pc = .ok (.getfield idx, 3)) (f : Fl M.1.cls idx 2 2) (h : S.1 7 = x) (kk : Ev g M (pc + 3) lv (.int x :: st) (hC S) Post) : Ev g M pc lv (.ref 16 :: st) (hC S) Post := by subst h; exact ev_getf d f rfl rfl kk
theorem put_R_kind {idx : Nat} {x : Int32} (d : decode M.2.1 pc = .ok (.putfield idx, 3)) (f : Fp M.1.cls idx 2 2 .int) (kk : Ev g M (pc + 3) lv st (hC (setI S 7 x)) Post) : Ev g M pc lv (.int x :: .ref 16 :: st) (hC S) Post := ev_putf d f rfl rfl (fun _ => rfl) (fun _ => rfl) rfl kk
theorem get_R_start {idx : Nat} {x : Int32} (d : decode M.2.1 pc = .ok (.getfield idx, 3)) (f : Fl M.1.cls idx 2 3) (h : S.1 8 = x) (kk : Ev g M (pc + 3) lv (.int x :: st) (hC S) Post) : Ev g M pc lv (.ref 16 :: st) (hC S) Post := by subst h; exact ev_getf d f rfl rfl kk
theorem put_R_start {idx : Nat} {x : Int32} (d : decode M.2.1 pc = .ok (.putfield idx, 3)) (f : Fp M.1.cls idx 2 3 .int) (kk : Ev g M (pc + 3) lv st (hC (setI S 8 x)) Post) : Ev g M pc lv (.int x :: .ref 16 :: st) (hC S) Post := ev_putf d f rfl rfl (fun _ => rfl) (fun _ => rfl) rfl kk
theorem get_R_behind {idx : Nat} {x : Int32} (d : decode M.2.1 pc = .ok (.getfield idx, 3)) (f : Fl M.1.cls idx 2 4) (h : S.1 9 = x) (kk : Ev g M (pc + 3) lv (.int x :: st) (hC S) Post) : Ev g M pc lv (.ref 16 :: st) (hC S) Post := by subst h; exact ev_getf d f rfl rfl kk
theorem put_R_behind {idx : Nat} {x : Int32} (d : decode M.2.1 pc = .ok (.putfield idx, 3)) (f : Fp M.1.cls idx 2 4 .int) (kk : Ev g M (pc + 3) lv st (hC (setI S 9 x)) Post) : Ev g M pc lv (.int x :: .ref 16 :: st) (hC S) Post := ev_putf d f rfl rfl (fun _ => rfl) (fun _ => rfl) rfl kk
theorem get_BK_weight {idx : Nat} (d : decode M.2.1 pc = .ok (.getfield idx, 3)) (f : Fl M.1.cls idx 1 0) (kk : Ev g M (pc + 3) lv (.ref 18 :: st) (hC S) Post) : Ev g M pc lv (.ref 17 :: st) (hC S) Post := ev_getf d f rfl rfl kk
theorem get_BK_lent {idx : Nat} (d : decode M.2.1 pc = .ok (.getfield idx, 3)) (f : Fl M.1.cls idx 1 1) (kk : Ev g M (pc + 3) lv (.ref 19 :: st) (hC S) Post) : Ev g M pc lv (.ref 17 :: st) (hC S) Post := ev_getf d f rfl rfl kk
theorem get_BK_check {idx : Nat} (d : decode M.2.1 pc = .ok (.getfield idx, 3)) (f : Fl M.1.cls idx 1 2) (kk : Ev g M (pc + 3) lv (.ref 20 :: st) (hC S) Post) : Ev g M pc lv (.ref 17 :: st) (hC S) Post := ev_getf d f rfl rfl kk
theorem get_BK_beyond {idx : Nat} (d : decode M.2.1 pc = .ok (.getfield idx, 3)) (f : Fl M.1.cls idx 1 3) (kk : Ev g M (pc + 3) lv (.ref 21 :: st) (hC S) Post) : Ev g M pc lv (.ref 17 :: st) (hC S) Post := ev_getf d f rfl rfl kk
theorem get_BK_off {idx : Nat} (d : decode M.2.1 pc = .ok (.getfield idx, 3)) (f : Fl M.1.cls idx 1 4) (kk : Ev g M (pc + 3) lv (.ref 22 :: st) (hC S) Post) : Ev g M pc lv (.ref 17 :: st) (hC S) Post := ev_getf d f rfl rfl kk
theorem get_BK_able {idx : Nat} (d : decode M.2.1 pc = .ok (.getfield idx, 3)) (f : Fl M.1.cls idx 1 5) (kk : Ev g M (pc + 3) lv (.ref 23 :: st) (hC S) Post) : Ev g M pc lv (.ref 17 :: st) (hC S) Post := ev_getf d f rfl rfl kk
theorem get_BK_given {idx : Nat} (d : decode M.2.1 pc = .ok (.getfield idx, 3)) (f : Fl M.1.cls idx 1 6) (kk : Ev g M (pc + 3) lv (.ref 24 :: st) (hC S) Post) : Ev g M pc lv (.ref 17 :: st) (hC S) Post := ev_getf d f rfl rfl kk
theorem get_BK_paid {idx : Nat} (d : decode M.2.1 pc = .ok (.getfield idx, 3)) (f : Fl M.1.cls idx 1 7) (kk : Ev g M (pc + 3) lv (.ref 25 :: st) (hC S) Post) : Ev g M pc lv (.ref 17 :: st) (hC S) Post := ev_getf d f rfl rfl kk
theorem get_BK_owedTogether {idx : Nat} {x : Int64} (d : decode M.2.1 pc = .ok (.getfield idx, 3)) (f : Fl M.1.cls idx 1 8) (h : S.2.2.1 0 = x) (kk : Ev g M (pc + 3) lv (.long x :: st) (hC S) Post) : Ev g M pc lv (.ref 17 :: st) (hC S) Post := by subst h; exact ev_getf d f rfl rfl kk
theorem put_BK_owedTogether {idx : Nat} {x : Int64} (d : decode M.2.1 pc = .ok (.putfield idx, 3)) (f : Fp M.1.cls idx 1 8 .long) (kk : Ev g M (pc + 3) lv st (hC (setL S 0 x)) Post) : Ev g M pc lv (.long x :: .ref 17 :: st) (hC S) Post := ev_putf d f rfl rfl (fun _ => rfl) (fun _ => rfl) rfl kk
theorem get_BK_ableTogether {idx : Nat} {x : Int64} (d : decode M.2.1 pc = .ok (.getfield idx, 3)) (f : Fl M.1.cls idx 1 9) (h : S.2.2.1 1 = x) (kk : Ev g M (pc + 3) lv (.long x :: st) (hC S) Post) : Ev g M pc lv (.ref 17 :: st) (hC S) Post := by subst h; exact ev_getf d f rfl rfl kk
theorem put_BK_ableTogether {idx : Nat} {x : Int64} (d : decode M.2.1 pc = .ok (.putfield idx, 3)) (f : Fp M.1.cls idx 1 9 .long) (kk : Ev g M (pc + 3) lv st (hC (setL S 1 x)) Post) : Ev g M pc lv (.long x :: .ref 17 :: st) (hC S) Post := ev_putf d f rfl rfl (fun _ => rfl) (fun _ => rfl) rfl kk
theorem get_BK_givenTogether {idx : Nat} {x : Int64} (d : decode M.2.1 pc = .ok (.getfield idx, 3)) (f : Fl M.1.cls idx 1 10) (h : S.2.2.1 2 = x) (kk : Ev g M (pc + 3) lv (.long x :: st) (hC S) Post) : Ev g M pc lv (.ref 17 :: st) (hC S) Post := by subst h; exact ev_getf d f rfl rfl kk
theorem put_BK_givenTogether {idx : Nat} {x : Int64} (d : decode M.2.1 pc = .ok (.putfield idx, 3)) (f : Fp M.1.cls idx 1 10 .long) (kk : Ev g M (pc + 3) lv st (hC (setL S 2 x)) Post) : Ev g M pc lv (.long x :: .ref 17 :: st) (hC S) Post := ev_putf d f rfl rfl (fun _ => rfl) (fun _ => rfl) rfl kk
theorem ld_BK_weight {i : Int32} {x : Int64} (d : decode M.2.1 pc = .ok (.laload, 1)) (hin : vp_in i 40) (h : S.2.2.2.1 0 i.toNatClampNeg = x) (kk : Ev g M (pc + 1) lv (.long x :: st) (hC S) Post) : Ev g M pc lv (.int i :: .ref 18 :: st) (hC S) Post := by subst h; exact ev_lald d rfl hin kk
theorem ldN_BK_weight {k : Nat} {x : Int64} (d : decode M.2.1 pc = .ok (.laload, 1)) (hk : k < 40) (h : S.2.2.2.1 0 k = x) (kk : Ev g M (pc + 1) lv (.long x :: st) (hC S) Post) : Ev g M pc lv (.int (nI k) :: .ref 18 :: st) (hC S) Post := ld_BK_weight d (vp_in_nI hk (by decide)) (by rw [nI_clamp (by omega)]; exact h) kk
theorem as_BK_weight {i : Int32} {x : Int64} (d : decode M.2.1 pc = .ok (.lastore, 1)) (hin : vp_in i 40) (kk : Ev g M (pc + 1) lv st (hC (setB S 0 (vp_updL (S.2.2.2.1 0) i.toNatClampNeg x))) Post) : Ev g M pc lv (.long x :: .int i :: .ref 18 :: st) (hC S) Post := ev_last d rfl hin rfl kk
theorem asN_BK_weight {k : Nat} {x : Int64} (d : decode M.2.1 pc = .ok (.lastore, 1)) (hk : k < 40) (kk : Ev g M (pc + 1) lv st (hC (setB S 0 (vp_updL (S.2.2.2.1 0) k x))) Post) : Ev g M pc lv (.long x :: .int (nI k) :: .ref 18 :: st) (hC S) Post := as_BK_weight d (vp_in_nI hk (by decide)) (by rw [nI_clamp (by omega)]; exact kk)
theorem ld_BK_lent {i : Int32} {x : Int64} (d : decode M.2.1 pc = .ok (.laload, 1)) (hin : vp_in i 40) (h : S.2.2.2.1 1 i.toNatClampNeg = x) (kk : Ev g M (pc + 1) lv (.long x :: st) (hC S) Post) : Ev g M pc lv (.int i :: .ref 19 :: st) (hC S) Post := by subst h; exact ev_lald d rfl hin kk
theorem ldN_BK_lent {k : Nat} {x : Int64} (d : decode M.2.1 pc = .ok (.laload, 1)) (hk : k < 40) (h : S.2.2.2.1 1 k = x) (kk : Ev g M (pc + 1) lv (.long x :: st) (hC S) Post) : Ev g M pc lv (.int (nI k) :: .ref 19 :: st) (hC S) Post := ld_BK_lent d (vp_in_nI hk (by decide)) (by rw [nI_clamp (by omega)]; exact h) kk
theorem as_BK_lent {i : Int32} {x : Int64} (d : decode M.2.1 pc = .ok (.lastore, 1)) (hin : vp_in i 40) (kk : Ev g M (pc + 1) lv st (hC (setB S 1 (vp_updL (S.2.2.2.1 1) i.toNatClampNeg x))) Post) : Ev g M pc lv (.long x :: .int i :: .ref 19 :: st) (hC S) Post := ev_last d rfl hin rfl kk
theorem asN_BK_lent {k : Nat} {x : Int64} (d : decode M.2.1 pc = .ok (.lastore, 1)) (hk : k < 40) (kk : Ev g M (pc + 1) lv st (hC (setB S 1 (vp_updL (S.2.2.2.1 1) k x))) Post) : Ev g M pc lv (.long x :: .int (nI k) :: .ref 19 :: st) (hC S) Post := as_BK_lent d (vp_in_nI hk (by decide)) (by rw [nI_clamp (by omega)]; exact kk)
theorem ld_BK_check {i : Int32} {x : Int64} (d : decode M.2.1 pc = .ok (.laload, 1)) (hin : vp_in i 40) (h : S.2.2.2.1 2 i.toNatClampNeg = x) (kk : Ev g M (pc + 1) lv (.long x :: st) (hC S) Post) : Ev g M pc lv (.int i :: .ref 20 :: st) (hC S) Post := by subst h; exact ev_lald d rfl hin kk
theorem ldN_BK_check {k : Nat} {x : Int64} (d : decode M.2.1 pc = .ok (.laload, 1)) (hk : k < 40) (h : S.2.2.2.1 2 k = x) (kk : Ev g M (pc + 1) lv (.long x :: st) (hC S) Post) : Ev g M pc lv (.int (nI k) :: .ref 20 :: st) (hC S) Post := ld_BK_check d (vp_in_nI hk (by decide)) (by rw [nI_clamp (by omega)]; exact h) kk
theorem as_BK_check {i : Int32} {x : Int64} (d : decode M.2.1 pc = .ok (.lastore, 1)) (hin : vp_in i 40) (kk : Ev g M (pc + 1) lv st (hC (setB S 2 (vp_updL (S.2.2.2.1 2) i.toNatClampNeg x))) Post) : Ev g M pc lv (.long x :: .int i :: .ref 20 :: st) (hC S) Post := ev_last d rfl hin rfl kk
theorem asN_BK_check {k : Nat} {x : Int64} (d : decode M.2.1 pc = .ok (.lastore, 1)) (hk : k < 40) (kk : Ev g M (pc + 1) lv st (hC (setB S 2 (vp_updL (S.2.2.2.1 2) k x))) Post) : Ev g M pc lv (.long x :: .int (nI k) :: .ref 20 :: st) (hC S) Post := as_BK_check d (vp_in_nI hk (by decide)) (by rw [nI_clamp (by omega)]; exact kk)
theorem ld_BK_beyond {i : Int32} {x : Int64} (d : decode M.2.1 pc = .ok (.laload, 1)) (hin : vp_in i 40) (h : S.2.2.2.1 3 i.toNatClampNeg = x) (kk : Ev g M (pc + 1) lv (.long x :: st) (hC S) Post) : Ev g M pc lv (.int i :: .ref 21 :: st) (hC S) Post := by subst h; exact ev_lald d rfl hin kk
theorem ldN_BK_beyond {k : Nat} {x : Int64} (d : decode M.2.1 pc = .ok (.laload, 1)) (hk : k < 40) (h : S.2.2.2.1 3 k = x) (kk : Ev g M (pc + 1) lv (.long x :: st) (hC S) Post) : Ev g M pc lv (.int (nI k) :: .ref 21 :: st) (hC S) Post := ld_BK_beyond d (vp_in_nI hk (by decide)) (by rw [nI_clamp (by omega)]; exact h) kk
theorem as_BK_beyond {i : Int32} {x : Int64} (d : decode M.2.1 pc = .ok (.lastore, 1)) (hin : vp_in i 40) (kk : Ev g M (pc + 1) lv st (hC (setB S 3 (vp_updL (S.2.2.2.1 3) i.toNatClampNeg x))) Post) : Ev g M pc lv (.long x :: .int i :: .ref 21 :: st) (hC S) Post := ev_last d rfl hin rfl kk
theorem asN_BK_beyond {k : Nat} {x : Int64} (d : decode M.2.1 pc = .ok (.lastore, 1)) (hk : k < 40) (kk : Ev g M (pc + 1) lv st (hC (setB S 3 (vp_updL (S.2.2.2.1 3) k x))) Post) : Ev g M pc lv (.long x :: .int (nI k) :: .ref 21 :: st) (hC S) Post := as_BK_beyond d (vp_in_nI hk (by decide)) (by rw [nI_clamp (by omega)]; exact kk)
theorem ld_BK_off {i : Int32} {x : Int64} (d : decode M.2.1 pc = .ok (.laload, 1)) (hin : vp_in i 40) (h : S.2.2.2.1 4 i.toNatClampNeg = x) (kk : Ev g M (pc + 1) lv (.long x :: st) (hC S) Post) : Ev g M pc lv (.int i :: .ref 22 :: st) (hC S) Post := by subst h; exact ev_lald d rfl hin kk
theorem ldN_BK_off {k : Nat} {x : Int64} (d : decode M.2.1 pc = .ok (.laload, 1)) (hk : k < 40) (h : S.2.2.2.1 4 k = x) (kk : Ev g M (pc + 1) lv (.long x :: st) (hC S) Post) : Ev g M pc lv (.int (nI k) :: .ref 22 :: st) (hC S) Post := ld_BK_off d (vp_in_nI hk (by decide)) (by rw [nI_clamp (by omega)]; exact h) kk
theorem as_BK_off {i : Int32} {x : Int64} (d : decode M.2.1 pc = .ok (.lastore, 1)) (hin : vp_in i 40) (kk : Ev g M (pc + 1) lv st (hC (setB S 4 (vp_updL (S.2.2.2.1 4) i.toNatClampNeg x))) Post) : Ev g M pc lv (.long x :: .int i :: .ref 22 :: st) (hC S) Post := ev_last d rfl hin rfl kk
theorem asN_BK_off {k : Nat} {x : Int64} (d : decode M.2.1 pc = .ok (.lastore, 1)) (hk : k < 40) (kk : Ev g M (pc + 1) lv st (hC (setB S 4 (vp_updL (S.2.2.2.1 4) k x))) Post) : Ev g M pc lv (.long x :: .int (nI k) :: .ref 22 :: st) (hC S) Post := as_BK_off d (vp_in_nI hk (by decide)) (by rw [nI_clamp (by omega)]; exact kk)
theorem ld_BK_able {i : Int32} {x : Int64} (d : decode M.2.1 pc = .ok (.laload, 1)) (hin : vp_in i 40) (h : S.2.2.2.1 5 i.toNatClampNeg = x) (kk : Ev g M (pc + 1) lv (.long x :: st) (hC S) Post) : Ev g M pc lv (.int i :: .ref 23 :: st) (hC S) Post := by subst h; exact ev_lald d rfl hin kk
theorem ldN_BK_able {k : Nat} {x : Int64} (d : decode M.2.1 pc = .ok (.laload, 1)) (hk : k < 40) (h : S.2.2.2.1 5 k = x) (kk : Ev g M (pc + 1) lv (.long x :: st) (hC S) Post) : Ev g M pc lv (.int (nI k) :: .ref 23 :: st) (hC S) Post := ld_BK_able d (vp_in_nI hk (by decide)) (by rw [nI_clamp (by omega)]; exact h) kk
theorem as_BK_able {i : Int32} {x : Int64} (d : decode M.2.1 pc = .ok (.lastore, 1)) (hin : vp_in i 40) (kk : Ev g M (pc + 1) lv st (hC (setB S 5 (vp_updL (S.2.2.2.1 5) i.toNatClampNeg x))) Post) : Ev g M pc lv (.long x :: .int i :: .ref 23 :: st) (hC S) Post := ev_last d rfl hin rfl kk
theorem asN_BK_able {k : Nat} {x : Int64} (d : decode M.2.1 pc = .ok (.lastore, 1)) (hk : k < 40) (kk : Ev g M (pc + 1) lv st (hC (setB S 5 (vp_updL (S.2.2.2.1 5) k x))) Post) : Ev g M pc lv (.long x :: .int (nI k) :: .ref 23 :: st) (hC S) Post := as_BK_able d (vp_in_nI hk (by decide)) (by rw [nI_clamp (by omega)]; exact kk)
theorem ld_BK_given {i : Int32} {x : Int64} (d : decode M.2.1 pc = .ok (.laload, 1)) (hin : vp_in i 40) (h : S.2.2.2.1 6 i.toNatClampNeg = x) (kk : Ev g M (pc + 1) lv (.long x :: st) (hC S) Post) : Ev g M pc lv (.int i :: .ref 24 :: st) (hC S) Post := by subst h; exact ev_lald d rfl hin kk
theorem ldN_BK_given {k : Nat} {x : Int64} (d : decode M.2.1 pc = .ok (.laload, 1)) (hk : k < 40) (h : S.2.2.2.1 6 k = x) (kk : Ev g M (pc + 1) lv (.long x :: st) (hC S) Post) : Ev g M pc lv (.int (nI k) :: .ref 24 :: st) (hC S) Post := ld_BK_given d (vp_in_nI hk (by decide)) (by rw [nI_clamp (by omega)]; exact h) kk
theorem as_BK_given {i : Int32} {x : Int64} (d : decode M.2.1 pc = .ok (.lastore, 1)) (hin : vp_in i 40) (kk : Ev g M (pc + 1) lv st (hC (setB S 6 (vp_updL (S.2.2.2.1 6) i.toNatClampNeg x))) Post) : Ev g M pc lv (.long x :: .int i :: .ref 24 :: st) (hC S) Post := ev_last d rfl hin rfl kk
theorem asN_BK_given {k : Nat} {x : Int64} (d : decode M.2.1 pc = .ok (.lastore, 1)) (hk : k < 40) (kk : Ev g M (pc + 1) lv st (hC (setB S 6 (vp_updL (S.2.2.2.1 6) k x))) Post) : Ev g M pc lv (.long x :: .int (nI k) :: .ref 24 :: st) (hC S) Post := as_BK_given d (vp_in_nI hk (by decide)) (by rw [nI_clamp (by omega)]; exact kk)
theorem ld_BK_paid {i : Int32} {x : Int64} (d : decode M.2.1 pc = .ok (.laload, 1)) (hin : vp_in i 40) (h : S.2.2.2.1 7 i.toNatClampNeg = x) (kk : Ev g M (pc + 1) lv (.long x :: st) (hC S) Post) : Ev g M pc lv (.int i :: .ref 25 :: st) (hC S) Post := by subst h; exact ev_lald d rfl hin kk
theorem ldN_BK_paid {k : Nat} {x : Int64} (d : decode M.2.1 pc = .ok (.laload, 1)) (hk : k < 40) (h : S.2.2.2.1 7 k = x) (kk : Ev g M (pc + 1) lv (.long x :: st) (hC S) Post) : Ev g M pc lv (.int (nI k) :: .ref 25 :: st) (hC S) Post := ld_BK_paid d (vp_in_nI hk (by decide)) (by rw [nI_clamp (by omega)]; exact h) kk
theorem as_BK_paid {i : Int32} {x : Int64} (d : decode M.2.1 pc = .ok (.lastore, 1)) (hin : vp_in i 40) (kk : Ev g M (pc + 1) lv st (hC (setB S 7 (vp_updL (S.2.2.2.1 7) i.toNatClampNeg x))) Post) : Ev g M pc lv (.long x :: .int i :: .ref 25 :: st) (hC S) Post := ev_last d rfl hin rfl kk
theorem asN_BK_paid {k : Nat} {x : Int64} (d : decode M.2.1 pc = .ok (.lastore, 1)) (hk : k < 40) (kk : Ev g M (pc + 1) lv st (hC (setB S 7 (vp_updL (S.2.2.2.1 7) k x))) Post) : Ev g M pc lv (.long x :: .int (nI k) :: .ref 25 :: st) (hC S) Post := as_BK_paid d (vp_in_nI hk (by decide)) (by rw [nI_clamp (by omega)]; exact kk)
theorem get_LA_from {idx : Nat} (d : decode M.2.1 pc = .ok (.getfield idx, 3)) (f : Fl M.1.cls idx 5 0) (kk : Ev g M (pc + 3) lv (.ref 27 :: st) (hC S) Post) : Ev g M pc lv (.ref 26 :: st) (hC S) Post := ev_getf d f rfl rfl kk
theorem get_LA_to {idx : Nat} (d : decode M.2.1 pc = .ok (.getfield idx, 3)) (f : Fl M.1.cls idx 5 1) (kk : Ev g M (pc + 3) lv (.ref 28 :: st) (hC S) Post) : Ev g M pc lv (.ref 26 :: st) (hC S) Post := ev_getf d f rfl rfl kk
theorem get_LA_part {idx : Nat} (d : decode M.2.1 pc = .ok (.getfield idx, 3)) (f : Fl M.1.cls idx 5 2) (kk : Ev g M (pc + 3) lv (.ref 29 :: st) (hC S) Post) : Ev g M pc lv (.ref 26 :: st) (hC S) Post := ev_getf d f rfl rfl kk
theorem get_LA_size {idx : Nat} {x : Int32} (d : decode M.2.1 pc = .ok (.getfield idx, 3)) (f : Fl M.1.cls idx 5 3) (h : S.1 10 = x) (kk : Ev g M (pc + 3) lv (.int x :: st) (hC S) Post) : Ev g M pc lv (.ref 26 :: st) (hC S) Post := by subst h; exact ev_getf d f rfl rfl kk
theorem put_LA_size {idx : Nat} {x : Int32} (d : decode M.2.1 pc = .ok (.putfield idx, 3)) (f : Fp M.1.cls idx 5 3 .int) (kk : Ev g M (pc + 3) lv st (hC (setI S 10 x)) Post) : Ev g M pc lv (.int x :: .ref 26 :: st) (hC S) Post := ev_putf d f rfl rfl (fun _ => rfl) (fun _ => rfl) rfl kk
theorem get_LA_yieldOfField {idx : Nat} {x : Int32} (d : decode M.2.1 pc = .ok (.getfield idx, 3)) (f : Fl M.1.cls idx 5 4) (h : S.1 11 = x) (kk : Ev g M (pc + 3) lv (.int x :: st) (hC S) Post) : Ev g M pc lv (.ref 26 :: st) (hC S) Post := by subst h; exact ev_getf d f rfl rfl kk
theorem put_LA_yieldOfField {idx : Nat} {x : Int32} (d : decode M.2.1 pc = .ok (.putfield idx, 3)) (f : Fp M.1.cls idx 5 4 .int) (kk : Ev g M (pc + 3) lv st (hC (setI S 11 x)) Post) : Ev g M pc lv (.int x :: .ref 26 :: st) (hC S) Post := ev_putf d f rfl rfl (fun _ => rfl) (fun _ => rfl) rfl kk
theorem ld_LA_from {i : Int32} {x : Int32} (d : decode M.2.1 pc = .ok (.iaload, 1)) (hin : vp_in i 60) (h : S.2.1 11 i.toNatClampNeg = x) (kk : Ev g M (pc + 1) lv (.int x :: st) (hC S) Post) : Ev g M pc lv (.int i :: .ref 27 :: st) (hC S) Post := by subst h; exact ev_iald d rfl hin kk
theorem ldN_LA_from {k : Nat} {x : Int32} (d : decode M.2.1 pc = .ok (.iaload, 1)) (hk : k < 60) (h : S.2.1 11 k = x) (kk : Ev g M (pc + 1) lv (.int x :: st) (hC S) Post) : Ev g M pc lv (.int (nI k) :: .ref 27 :: st) (hC S) Post := ld_LA_from d (vp_in_nI hk (by decide)) (by rw [nI_clamp (by omega)]; exact h) kk
theorem as_LA_from {i : Int32} {x : Int32} (d : decode M.2.1 pc = .ok (.iastore, 1)) (hin : vp_in i 60) (kk : Ev g M (pc + 1) lv st (hC (setA S 11 (upd (S.2.1 11) i.toNatClampNeg x))) Post) : Ev g M pc lv (.int x :: .int i :: .ref 27 :: st) (hC S) Post := ev_iast d rfl hin rfl kk
theorem asN_LA_from {k : Nat} {x : Int32} (d : decode M.2.1 pc = .ok (.iastore, 1)) (hk : k < 60) (kk : Ev g M (pc + 1) lv st (hC (setA S 11 (upd (S.2.1 11) k x))) Post) : Ev g M pc lv (.int x :: .int (nI k) :: .ref 27 :: st) (hC S) Post := as_LA_from d (vp_in_nI hk (by decide)) (by rw [nI_clamp (by omega)]; exact kk)
theorem ld_LA_to {i : Int32} {x : Int32} (d : decode M.2.1 pc = .ok (.iaload, 1)) (hin : vp_in i 60) (h : S.2.1 12 i.toNatClampNeg = x) (kk : Ev g M (pc + 1) lv (.int x :: st) (hC S) Post) : Ev g M pc lv (.int i :: .ref 28 :: st) (hC S) Post := by subst h; exact ev_iald d rfl hin kk
theorem ldN_LA_to {k : Nat} {x : Int32} (d : decode M.2.1 pc = .ok (.iaload, 1)) (hk : k < 60) (h : S.2.1 12 k = x) (kk : Ev g M (pc + 1) lv (.int x :: st) (hC S) Post) : Ev g M pc lv (.int (nI k) :: .ref 28 :: st) (hC S) Post := ld_LA_to d (vp_in_nI hk (by decide)) (by rw [nI_clamp (by omega)]; exact h) kk
theorem as_LA_to {i : Int32} {x : Int32} (d : decode M.2.1 pc = .ok (.iastore, 1)) (hin : vp_in i 60) (kk : Ev g M (pc + 1) lv st (hC (setA S 12 (upd (S.2.1 12) i.toNatClampNeg x))) Post) : Ev g M pc lv (.int x :: .int i :: .ref 28 :: st) (hC S) Post := ev_iast d rfl hin rfl kk
theorem asN_LA_to {k : Nat} {x : Int32} (d : decode M.2.1 pc = .ok (.iastore, 1)) (hk : k < 60) (kk : Ev g M (pc + 1) lv st (hC (setA S 12 (upd (S.2.1 12) k x))) Post) : Ev g M pc lv (.int x :: .int (nI k) :: .ref 28 :: st) (hC S) Post := as_LA_to d (vp_in_nI hk (by decide)) (by rw [nI_clamp (by omega)]; exact kk)
theorem ld_LA_part {i : Int32} {x : Int32} (d : decode M.2.1 pc = .ok (.iaload, 1)) (hin : vp_in i 60) (h : S.2.1 13 i.toNatClampNeg = x) (kk : Ev g M (pc + 1) lv (.int x :: st) (hC S) Post) : Ev g M pc lv (.int i :: .ref 29 :: st) (hC S) Post := by subst h; exact ev_iald d rfl hin kk
theorem ldN_LA_part {k : Nat} {x : Int32} (d : decode M.2.1 pc = .ok (.iaload, 1)) (hk : k < 60) (h : S.2.1 13 k = x) (kk : Ev g M (pc + 1) lv (.int x :: st) (hC S) Post) : Ev g M pc lv (.int (nI k) :: .ref 29 :: st) (hC S) Post := ld_LA_part d (vp_in_nI hk (by decide)) (by rw [nI_clamp (by omega)]; exact h) kk
theorem as_LA_part {i : Int32} {x : Int32} (d : decode M.2.1 pc = .ok (.iastore, 1)) (hin : vp_in i 60) (kk : Ev g M (pc + 1) lv st (hC (setA S 13 (upd (S.2.1 13) i.toNatClampNeg x))) Post) : Ev g M pc lv (.int x :: .int i :: .ref 29 :: st) (hC S) Post := ev_iast d rfl hin rfl kk
theorem asN_LA_part {k : Nat} {x : Int32} (d : decode M.2.1 pc = .ok (.iastore, 1)) (hk : k < 60) (kk : Ev g M (pc + 1) lv st (hC (setA S 13 (upd (S.2.1 13) k x))) Post) : Ev g M pc lv (.int x :: .int (nI k) :: .ref 29 :: st) (hC S) Post := as_LA_part d (vp_in_nI hk (by decide)) (by rw [nI_clamp (by omega)]; exact kk)
theorem get_RD_place {idx : Nat} (d : decode M.2.1 pc = .ok (.getfield idx, 3)) (f : Fl M.1.cls idx 6 0) (kk : Ev g M (pc + 3) lv (.ref 31 :: st) (hC S) Post) : Ev g M pc lv (.ref 30 :: st) (hC S) Post := ev_getf d f rfl rfl kk
theorem get_RD_hour {idx : Nat} (d : decode M.2.1 pc = .ok (.getfield idx, 3)) (f : Fl M.1.cls idx 6 1) (kk : Ev g M (pc + 3) lv (.ref 32 :: st) (hC S) Post) : Ev g M pc lv (.ref 30 :: st) (hC S) Post := ev_getf d f rfl rfl kk
theorem get_RD_earliest {idx : Nat} (d : decode M.2.1 pc = .ok (.getfield idx, 3)) (f : Fl M.1.cls idx 6 2) (kk : Ev g M (pc + 3) lv (.ref 33 :: st) (hC S) Post) : Ev g M pc lv (.ref 30 :: st) (hC S) Post := ev_getf d f rfl rfl kk
theorem get_RD_hourOfCount {idx : Nat} (d : decode M.2.1 pc = .ok (.getfield idx, 3)) (f : Fl M.1.cls idx 6 3) (kk : Ev g M (pc + 3) lv (.ref 34 :: st) (hC S) Post) : Ev g M pc lv (.ref 30 :: st) (hC S) Post := ev_getf d f rfl rfl kk
theorem get_RD_size {idx : Nat} {x : Int32} (d : decode M.2.1 pc = .ok (.getfield idx, 3)) (f : Fl M.1.cls idx 6 4) (h : S.1 12 = x) (kk : Ev g M (pc + 3) lv (.int x :: st) (hC S) Post) : Ev g M pc lv (.ref 30 :: st) (hC S) Post := by subst h; exact ev_getf d f rfl rfl kk
theorem put_RD_size {idx : Nat} {x : Int32} (d : decode M.2.1 pc = .ok (.putfield idx, 3)) (f : Fp M.1.cls idx 6 4 .int) (kk : Ev g M (pc + 3) lv st (hC (setI S 12 x)) Post) : Ev g M pc lv (.int x :: .ref 30 :: st) (hC S) Post := ev_putf d f rfl rfl (fun _ => rfl) (fun _ => rfl) rfl kk
theorem get_RD_begin {idx : Nat} {x : Int32} (d : decode M.2.1 pc = .ok (.getfield idx, 3)) (f : Fl M.1.cls idx 6 5) (h : S.1 13 = x) (kk : Ev g M (pc + 3) lv (.int x :: st) (hC S) Post) : Ev g M pc lv (.ref 30 :: st) (hC S) Post := by subst h; exact ev_getf d f rfl rfl kk
theorem put_RD_begin {idx : Nat} {x : Int32} (d : decode M.2.1 pc = .ok (.putfield idx, 3)) (f : Fp M.1.cls idx 6 5 .int) (kk : Ev g M (pc + 3) lv st (hC (setI S 13 x)) Post) : Ev g M pc lv (.int x :: .ref 30 :: st) (hC S) Post := ev_putf d f rfl rfl (fun _ => rfl) (fun _ => rfl) rfl kk
theorem get_RD_left {idx : Nat} {x : Int32} (d : decode M.2.1 pc = .ok (.getfield idx, 3)) (f : Fl M.1.cls idx 6 6) (h : S.1 14 = x) (kk : Ev g M (pc + 3) lv (.int x :: st) (hC S) Post) : Ev g M pc lv (.ref 30 :: st) (hC S) Post := by subst h; exact ev_getf d f rfl rfl kk
theorem put_RD_left {idx : Nat} {x : Int32} (d : decode M.2.1 pc = .ok (.putfield idx, 3)) (f : Fp M.1.cls idx 6 6 .int) (kk : Ev g M (pc + 3) lv st (hC (setI S 14 x)) Post) : Ev g M pc lv (.int x :: .ref 30 :: st) (hC S) Post := ev_putf d f rfl rfl (fun _ => rfl) (fun _ => rfl) rfl kk
theorem get_RD_right {idx : Nat} {x : Int32} (d : decode M.2.1 pc = .ok (.getfield idx, 3)) (f : Fl M.1.cls idx 6 7) (h : S.1 15 = x) (kk : Ev g M (pc + 3) lv (.int x :: st) (hC S) Post) : Ev g M pc lv (.ref 30 :: st) (hC S) Post := by subst h; exact ev_getf d f rfl rfl kk
theorem put_RD_right {idx : Nat} {x : Int32} (d : decode M.2.1 pc = .ok (.putfield idx, 3)) (f : Fp M.1.cls idx 6 7 .int) (kk : Ev g M (pc + 3) lv st (hC (setI S 15 x)) Post) : Ev g M pc lv (.int x :: .ref 30 :: st) (hC S) Post := ev_putf d f rfl rfl (fun _ => rfl) (fun _ => rfl) rfl kk
theorem ld_RD_place {i : Int32} {x : Int32} (d : decode M.2.1 pc = .ok (.iaload, 1)) (hin : vp_in i 16) (h : S.2.1 14 i.toNatClampNeg = x) (kk : Ev g M (pc + 1) lv (.int x :: st) (hC S) Post) : Ev g M pc lv (.int i :: .ref 31 :: st) (hC S) Post := by subst h; exact ev_iald d rfl hin kk
theorem ldN_RD_place {k : Nat} {x : Int32} (d : decode M.2.1 pc = .ok (.iaload, 1)) (hk : k < 16) (h : S.2.1 14 k = x) (kk : Ev g M (pc + 1) lv (.int x :: st) (hC S) Post) : Ev g M pc lv (.int (nI k) :: .ref 31 :: st) (hC S) Post := ld_RD_place d (vp_in_nI hk (by decide)) (by rw [nI_clamp (by omega)]; exact h) kk
theorem as_RD_place {i : Int32} {x : Int32} (d : decode M.2.1 pc = .ok (.iastore, 1)) (hin : vp_in i 16) (kk : Ev g M (pc + 1) lv st (hC (setA S 14 (upd (S.2.1 14) i.toNatClampNeg x))) Post) : Ev g M pc lv (.int x :: .int i :: .ref 31 :: st) (hC S) Post := ev_iast d rfl hin rfl kk
theorem asN_RD_place {k : Nat} {x : Int32} (d : decode M.2.1 pc = .ok (.iastore, 1)) (hk : k < 16) (kk : Ev g M (pc + 1) lv st (hC (setA S 14 (upd (S.2.1 14) k x))) Post) : Ev g M pc lv (.int x :: .int (nI k) :: .ref 31 :: st) (hC S) Post := as_RD_place d (vp_in_nI hk (by decide)) (by rw [nI_clamp (by omega)]; exact kk)
theorem ld_RD_hour {i : Int32} {x : Int32} (d : decode M.2.1 pc = .ok (.iaload, 1)) (hin : vp_in i 16) (h : S.2.1 15 i.toNatClampNeg = x) (kk : Ev g M (pc + 1) lv (.int x :: st) (hC S) Post) : Ev g M pc lv (.int i :: .ref 32 :: st) (hC S) Post := by subst h; exact ev_iald d rfl hin kk
theorem ldN_RD_hour {k : Nat} {x : Int32} (d : decode M.2.1 pc = .ok (.iaload, 1)) (hk : k < 16) (h : S.2.1 15 k = x) (kk : Ev g M (pc + 1) lv (.int x :: st) (hC S) Post) : Ev g M pc lv (.int (nI k) :: .ref 32 :: st) (hC S) Post := ld_RD_hour d (vp_in_nI hk (by decide)) (by rw [nI_clamp (by omega)]; exact h) kk
theorem as_RD_hour {i : Int32} {x : Int32} (d : decode M.2.1 pc = .ok (.iastore, 1)) (hin : vp_in i 16) (kk : Ev g M (pc + 1) lv st (hC (setA S 15 (upd (S.2.1 15) i.toNatClampNeg x))) Post) : Ev g M pc lv (.int x :: .int i :: .ref 32 :: st) (hC S) Post := ev_iast d rfl hin rfl kk
theorem asN_RD_hour {k : Nat} {x : Int32} (d : decode M.2.1 pc = .ok (.iastore, 1)) (hk : k < 16) (kk : Ev g M (pc + 1) lv st (hC (setA S 15 (upd (S.2.1 15) k x))) Post) : Ev g M pc lv (.int x :: .int (nI k) :: .ref 32 :: st) (hC S) Post := as_RD_hour d (vp_in_nI hk (by decide)) (by rw [nI_clamp (by omega)]; exact kk)
theorem ld_RD_earliest {i : Int32} {x : Int32} (d : decode M.2.1 pc = .ok (.iaload, 1)) (hin : vp_in i 2754) (h : S.2.1 16 i.toNatClampNeg = x) (kk : Ev g M (pc + 1) lv (.int x :: st) (hC S) Post) : Ev g M pc lv (.int i :: .ref 33 :: st) (hC S) Post := by subst h; exact ev_iald d rfl hin kk
theorem ldN_RD_earliest {k : Nat} {x : Int32} (d : decode M.2.1 pc = .ok (.iaload, 1)) (hk : k < 2754) (h : S.2.1 16 k = x) (kk : Ev g M (pc + 1) lv (.int x :: st) (hC S) Post) : Ev g M pc lv (.int (nI k) :: .ref 33 :: st) (hC S) Post := ld_RD_earliest d (vp_in_nI hk (by decide)) (by rw [nI_clamp (by omega)]; exact h) kk
theorem as_RD_earliest {i : Int32} {x : Int32} (d : decode M.2.1 pc = .ok (.iastore, 1)) (hin : vp_in i 2754) (kk : Ev g M (pc + 1) lv st (hC (setA S 16 (upd (S.2.1 16) i.toNatClampNeg x))) Post) : Ev g M pc lv (.int x :: .int i :: .ref 33 :: st) (hC S) Post := ev_iast d rfl hin rfl kk
theorem asN_RD_earliest {k : Nat} {x : Int32} (d : decode M.2.1 pc = .ok (.iastore, 1)) (hk : k < 2754) (kk : Ev g M (pc + 1) lv st (hC (setA S 16 (upd (S.2.1 16) k x))) Post) : Ev g M pc lv (.int x :: .int (nI k) :: .ref 33 :: st) (hC S) Post := as_RD_earliest d (vp_in_nI hk (by decide)) (by rw [nI_clamp (by omega)]; exact kk)
theorem ld_RD_hourOfCount {i : Int32} {x : Int32} (d : decode M.2.1 pc = .ok (.iaload, 1)) (hin : vp_in i 17) (h : S.2.1 17 i.toNatClampNeg = x) (kk : Ev g M (pc + 1) lv (.int x :: st) (hC S) Post) : Ev g M pc lv (.int i :: .ref 34 :: st) (hC S) Post := by subst h; exact ev_iald d rfl hin kk
theorem ldN_RD_hourOfCount {k : Nat} {x : Int32} (d : decode M.2.1 pc = .ok (.iaload, 1)) (hk : k < 17) (h : S.2.1 17 k = x) (kk : Ev g M (pc + 1) lv (.int x :: st) (hC S) Post) : Ev g M pc lv (.int (nI k) :: .ref 34 :: st) (hC S) Post := ld_RD_hourOfCount d (vp_in_nI hk (by decide)) (by rw [nI_clamp (by omega)]; exact h) kk
theorem as_RD_hourOfCount {i : Int32} {x : Int32} (d : decode M.2.1 pc = .ok (.iastore, 1)) (hin : vp_in i 17) (kk : Ev g M (pc + 1) lv st (hC (setA S 17 (upd (S.2.1 17) i.toNatClampNeg x))) Post) : Ev g M pc lv (.int x :: .int i :: .ref 34 :: st) (hC S) Post := ev_iast d rfl hin rfl kk
theorem asN_RD_hourOfCount {k : Nat} {x : Int32} (d : decode M.2.1 pc = .ok (.iastore, 1)) (hk : k < 17) (kk : Ev g M (pc + 1) lv st (hC (setA S 17 (upd (S.2.1 17) k x))) Post) : Ev g M pc lv (.int x :: .int (nI k) :: .ref 34 :: st) (hC S) Post := as_RD_hourOfCount d (vp_in_nI hk (by decide)) (by rw [nI_clamp (by omega)]; exact kk)
theorem get_T0_price {idx : Nat} (d : decode M.2.1 pc = .ok (.getfield idx, 3)) (f : Fl M.1.cls idx 8 0) (kk : Ev g M (pc + 3) lv (.ref 36 :: st) (hC S) Post) : Ev g M pc lv (.ref 35 :: st) (hC S) Post := ev_getf d f rfl rfl kk
theorem get_T0_upper {idx : Nat} (d : decode M.2.1 pc = .ok (.getfield idx, 3)) (f : Fl M.1.cls idx 8 1) (kk : Ev g M (pc + 3) lv (.ref 37 :: st) (hC S) Post) : Ev g M pc lv (.ref 35 :: st) (hC S) Post := ev_getf d f rfl rfl kk
theorem get_T0_lower {idx : Nat} (d : decode M.2.1 pc = .ok (.getfield idx, 3)) (f : Fl M.1.cls idx 8 2) (kk : Ev g M (pc + 3) lv (.ref 38 :: st) (hC S) Post) : Ev g M pc lv (.ref 35 :: st) (hC S) Post := ev_getf d f rfl rfl kk
theorem get_T0_quota {idx : Nat} {x : Int32} (d : decode M.2.1 pc = .ok (.getfield idx, 3)) (f : Fl M.1.cls idx 8 3) (h : S.1 16 = x) (kk : Ev g M (pc + 3) lv (.int x :: st) (hC S) Post) : Ev g M pc lv (.ref 35 :: st) (hC S) Post := by subst h; exact ev_getf d f rfl rfl kk
theorem put_T0_quota {idx : Nat} {x : Int32} (d : decode M.2.1 pc = .ok (.putfield idx, 3)) (f : Fp M.1.cls idx 8 3 .int) (kk : Ev g M (pc + 3) lv st (hC (setI S 16 x)) Post) : Ev g M pc lv (.int x :: .ref 35 :: st) (hC S) Post := ev_putf d f rfl rfl (fun _ => rfl) (fun _ => rfl) rfl kk
theorem get_T0_clauses {idx : Nat} {x : Int32} (d : decode M.2.1 pc = .ok (.getfield idx, 3)) (f : Fl M.1.cls idx 8 4) (h : S.1 18 = x) (kk : Ev g M (pc + 3) lv (.int x :: st) (hC S) Post) : Ev g M pc lv (.ref 35 :: st) (hC S) Post := by subst h; exact ev_getf d f rfl rfl kk
theorem put_T0_clauses {idx : Nat} {x : Int32} (d : decode M.2.1 pc = .ok (.putfield idx, 3)) (f : Fp M.1.cls idx 8 4 .int) (kk : Ev g M (pc + 3) lv st (hC (setI S 18 x)) Post) : Ev g M pc lv (.int x :: .ref 35 :: st) (hC S) Post := ev_putf d f rfl rfl (fun _ => rfl) (fun _ => rfl) rfl kk
theorem ld_T0_price {i : Int32} {x : Int32} (d : decode M.2.1 pc = .ok (.iaload, 1)) (hin : vp_in i 5) (h : S.2.1 18 i.toNatClampNeg = x) (kk : Ev g M (pc + 1) lv (.int x :: st) (hC S) Post) : Ev g M pc lv (.int i :: .ref 36 :: st) (hC S) Post := by subst h; exact ev_iald d rfl hin kk
theorem ldN_T0_price {k : Nat} {x : Int32} (d : decode M.2.1 pc = .ok (.iaload, 1)) (hk : k < 5) (h : S.2.1 18 k = x) (kk : Ev g M (pc + 1) lv (.int x :: st) (hC S) Post) : Ev g M pc lv (.int (nI k) :: .ref 36 :: st) (hC S) Post := ld_T0_price d (vp_in_nI hk (by decide)) (by rw [nI_clamp (by omega)]; exact h) kk
theorem as_T0_price {i : Int32} {x : Int32} (d : decode M.2.1 pc = .ok (.iastore, 1)) (hin : vp_in i 5) (kk : Ev g M (pc + 1) lv st (hC (setA S 18 (upd (S.2.1 18) i.toNatClampNeg x))) Post) : Ev g M pc lv (.int x :: .int i :: .ref 36 :: st) (hC S) Post := ev_iast d rfl hin rfl kk
theorem asN_T0_price {k : Nat} {x : Int32} (d : decode M.2.1 pc = .ok (.iastore, 1)) (hk : k < 5) (kk : Ev g M (pc + 1) lv st (hC (setA S 18 (upd (S.2.1 18) k x))) Post) : Ev g M pc lv (.int x :: .int (nI k) :: .ref 36 :: st) (hC S) Post := as_T0_price d (vp_in_nI hk (by decide)) (by rw [nI_clamp (by omega)]; exact kk)
theorem ld_T0_upper {i : Int32} {x : Int32} (d : decode M.2.1 pc = .ok (.iaload, 1)) (hin : vp_in i 4) (h : S.2.1 20 i.toNatClampNeg = x) (kk : Ev g M (pc + 1) lv (.int x :: st) (hC S) Post) : Ev g M pc lv (.int i :: .ref 37 :: st) (hC S) Post := by subst h; exact ev_iald d rfl hin kk
theorem ldN_T0_upper {k : Nat} {x : Int32} (d : decode M.2.1 pc = .ok (.iaload, 1)) (hk : k < 4) (h : S.2.1 20 k = x) (kk : Ev g M (pc + 1) lv (.int x :: st) (hC S) Post) : Ev g M pc lv (.int (nI k) :: .ref 37 :: st) (hC S) Post := ld_T0_upper d (vp_in_nI hk (by decide)) (by rw [nI_clamp (by omega)]; exact h) kk
theorem as_T0_upper {i : Int32} {x : Int32} (d : decode M.2.1 pc = .ok (.iastore, 1)) (hin : vp_in i 4) (kk : Ev g M (pc + 1) lv st (hC (setA S 20 (upd (S.2.1 20) i.toNatClampNeg x))) Post) : Ev g M pc lv (.int x :: .int i :: .ref 37 :: st) (hC S) Post := ev_iast d rfl hin rfl kk
theorem asN_T0_upper {k : Nat} {x : Int32} (d : decode M.2.1 pc = .ok (.iastore, 1)) (hk : k < 4) (kk : Ev g M (pc + 1) lv st (hC (setA S 20 (upd (S.2.1 20) k x))) Post) : Ev g M pc lv (.int x :: .int (nI k) :: .ref 37 :: st) (hC S) Post := as_T0_upper d (vp_in_nI hk (by decide)) (by rw [nI_clamp (by omega)]; exact kk)
theorem ld_T0_lower {i : Int32} {x : Int32} (d : decode M.2.1 pc = .ok (.iaload, 1)) (hin : vp_in i 4) (h : S.2.1 22 i.toNatClampNeg = x) (kk : Ev g M (pc + 1) lv (.int x :: st) (hC S) Post) : Ev g M pc lv (.int i :: .ref 38 :: st) (hC S) Post := by subst h; exact ev_iald d rfl hin kk
theorem ldN_T0_lower {k : Nat} {x : Int32} (d : decode M.2.1 pc = .ok (.iaload, 1)) (hk : k < 4) (h : S.2.1 22 k = x) (kk : Ev g M (pc + 1) lv (.int x :: st) (hC S) Post) : Ev g M pc lv (.int (nI k) :: .ref 38 :: st) (hC S) Post := ld_T0_lower d (vp_in_nI hk (by decide)) (by rw [nI_clamp (by omega)]; exact h) kk
theorem as_T0_lower {i : Int32} {x : Int32} (d : decode M.2.1 pc = .ok (.iastore, 1)) (hin : vp_in i 4) (kk : Ev g M (pc + 1) lv st (hC (setA S 22 (upd (S.2.1 22) i.toNatClampNeg x))) Post) : Ev g M pc lv (.int x :: .int i :: .ref 38 :: st) (hC S) Post := ev_iast d rfl hin rfl kk
theorem asN_T0_lower {k : Nat} {x : Int32} (d : decode M.2.1 pc = .ok (.iastore, 1)) (hk : k < 4) (kk : Ev g M (pc + 1) lv st (hC (setA S 22 (upd (S.2.1 22) k x))) Post) : Ev g M pc lv (.int x :: .int (nI k) :: .ref 38 :: st) (hC S) Post := as_T0_lower d (vp_in_nI hk (by decide)) (by rw [nI_clamp (by omega)]; exact kk)
theorem get_T1_price {idx : Nat} (d : decode M.2.1 pc = .ok (.getfield idx, 3)) (f : Fl M.1.cls idx 8 0) (kk : Ev g M (pc + 3) lv (.ref 40 :: st) (hC S) Post) : Ev g M pc lv (.ref 39 :: st) (hC S) Post := ev_getf d f rfl rfl kk
theorem get_T1_upper {idx : Nat} (d : decode M.2.1 pc = .ok (.getfield idx, 3)) (f : Fl M.1.cls idx 8 1) (kk : Ev g M (pc + 3) lv (.ref 41 :: st) (hC S) Post) : Ev g M pc lv (.ref 39 :: st) (hC S) Post := ev_getf d f rfl rfl kk
theorem get_T1_lower {idx : Nat} (d : decode M.2.1 pc = .ok (.getfield idx, 3)) (f : Fl M.1.cls idx 8 2) (kk : Ev g M (pc + 3) lv (.ref 42 :: st) (hC S) Post) : Ev g M pc lv (.ref 39 :: st) (hC S) Post := ev_getf d f rfl rfl kk
theorem get_T1_quota {idx : Nat} {x : Int32} (d : decode M.2.1 pc = .ok (.getfield idx, 3)) (f : Fl M.1.cls idx 8 3) (h : S.1 17 = x) (kk : Ev g M (pc + 3) lv (.int x :: st) (hC S) Post) : Ev g M pc lv (.ref 39 :: st) (hC S) Post := by subst h; exact ev_getf d f rfl rfl kk
theorem put_T1_quota {idx : Nat} {x : Int32} (d : decode M.2.1 pc = .ok (.putfield idx, 3)) (f : Fp M.1.cls idx 8 3 .int) (kk : Ev g M (pc + 3) lv st (hC (setI S 17 x)) Post) : Ev g M pc lv (.int x :: .ref 39 :: st) (hC S) Post := ev_putf d f rfl rfl (fun _ => rfl) (fun _ => rfl) rfl kk
theorem get_T1_clauses {idx : Nat} {x : Int32} (d : decode M.2.1 pc = .ok (.getfield idx, 3)) (f : Fl M.1.cls idx 8 4) (h : S.1 19 = x) (kk : Ev g M (pc + 3) lv (.int x :: st) (hC S) Post) : Ev g M pc lv (.ref 39 :: st) (hC S) Post := by subst h; exact ev_getf d f rfl rfl kk
theorem put_T1_clauses {idx : Nat} {x : Int32} (d : decode M.2.1 pc = .ok (.putfield idx, 3)) (f : Fp M.1.cls idx 8 4 .int) (kk : Ev g M (pc + 3) lv st (hC (setI S 19 x)) Post) : Ev g M pc lv (.int x :: .ref 39 :: st) (hC S) Post := ev_putf d f rfl rfl (fun _ => rfl) (fun _ => rfl) rfl kk
theorem ld_T1_price {i : Int32} {x : Int32} (d : decode M.2.1 pc = .ok (.iaload, 1)) (hin : vp_in i 5) (h : S.2.1 19 i.toNatClampNeg = x) (kk : Ev g M (pc + 1) lv (.int x :: st) (hC S) Post) : Ev g M pc lv (.int i :: .ref 40 :: st) (hC S) Post := by subst h; exact ev_iald d rfl hin kk
theorem ldN_T1_price {k : Nat} {x : Int32} (d : decode M.2.1 pc = .ok (.iaload, 1)) (hk : k < 5) (h : S.2.1 19 k = x) (kk : Ev g M (pc + 1) lv (.int x :: st) (hC S) Post) : Ev g M pc lv (.int (nI k) :: .ref 40 :: st) (hC S) Post := ld_T1_price d (vp_in_nI hk (by decide)) (by rw [nI_clamp (by omega)]; exact h) kk
theorem as_T1_price {i : Int32} {x : Int32} (d : decode M.2.1 pc = .ok (.iastore, 1)) (hin : vp_in i 5) (kk : Ev g M (pc + 1) lv st (hC (setA S 19 (upd (S.2.1 19) i.toNatClampNeg x))) Post) : Ev g M pc lv (.int x :: .int i :: .ref 40 :: st) (hC S) Post := ev_iast d rfl hin rfl kk
theorem asN_T1_price {k : Nat} {x : Int32} (d : decode M.2.1 pc = .ok (.iastore, 1)) (hk : k < 5) (kk : Ev g M (pc + 1) lv st (hC (setA S 19 (upd (S.2.1 19) k x))) Post) : Ev g M pc lv (.int x :: .int (nI k) :: .ref 40 :: st) (hC S) Post := as_T1_price d (vp_in_nI hk (by decide)) (by rw [nI_clamp (by omega)]; exact kk)
theorem ld_T1_upper {i : Int32} {x : Int32} (d : decode M.2.1 pc = .ok (.iaload, 1)) (hin : vp_in i 4) (h : S.2.1 21 i.toNatClampNeg = x) (kk : Ev g M (pc + 1) lv (.int x :: st) (hC S) Post) : Ev g M pc lv (.int i :: .ref 41 :: st) (hC S) Post := by subst h; exact ev_iald d rfl hin kk
theorem ldN_T1_upper {k : Nat} {x : Int32} (d : decode M.2.1 pc = .ok (.iaload, 1)) (hk : k < 4) (h : S.2.1 21 k = x) (kk : Ev g M (pc + 1) lv (.int x :: st) (hC S) Post) : Ev g M pc lv (.int (nI k) :: .ref 41 :: st) (hC S) Post := ld_T1_upper d (vp_in_nI hk (by decide)) (by rw [nI_clamp (by omega)]; exact h) kk
theorem as_T1_upper {i : Int32} {x : Int32} (d : decode M.2.1 pc = .ok (.iastore, 1)) (hin : vp_in i 4) (kk : Ev g M (pc + 1) lv st (hC (setA S 21 (upd (S.2.1 21) i.toNatClampNeg x))) Post) : Ev g M pc lv (.int x :: .int i :: .ref 41 :: st) (hC S) Post := ev_iast d rfl hin rfl kk
theorem asN_T1_upper {k : Nat} {x : Int32} (d : decode M.2.1 pc = .ok (.iastore, 1)) (hk : k < 4) (kk : Ev g M (pc + 1) lv st (hC (setA S 21 (upd (S.2.1 21) k x))) Post) : Ev g M pc lv (.int x :: .int (nI k) :: .ref 41 :: st) (hC S) Post := as_T1_upper d (vp_in_nI hk (by decide)) (by rw [nI_clamp (by omega)]; exact kk)
theorem ld_T1_lower {i : Int32} {x : Int32} (d : decode M.2.1 pc = .ok (.iaload, 1)) (hin : vp_in i 4) (h : S.2.1 23 i.toNatClampNeg = x) (kk : Ev g M (pc + 1) lv (.int x :: st) (hC S) Post) : Ev g M pc lv (.int i :: .ref 42 :: st) (hC S) Post := by subst h; exact ev_iald d rfl hin kk
theorem ldN_T1_lower {k : Nat} {x : Int32} (d : decode M.2.1 pc = .ok (.iaload, 1)) (hk : k < 4) (h : S.2.1 23 k = x) (kk : Ev g M (pc + 1) lv (.int x :: st) (hC S) Post) : Ev g M pc lv (.int (nI k) :: .ref 42 :: st) (hC S) Post := ld_T1_lower d (vp_in_nI hk (by decide)) (by rw [nI_clamp (by omega)]; exact h) kk
theorem as_T1_lower {i : Int32} {x : Int32} (d : decode M.2.1 pc = .ok (.iastore, 1)) (hin : vp_in i 4) (kk : Ev g M (pc + 1) lv st (hC (setA S 23 (upd (S.2.1 23) i.toNatClampNeg x))) Post) : Ev g M pc lv (.int x :: .int i :: .ref 42 :: st) (hC S) Post := ev_iast d rfl hin rfl kk
theorem asN_T1_lower {k : Nat} {x : Int32} (d : decode M.2.1 pc = .ok (.iastore, 1)) (hk : k < 4) (kk : Ev g M (pc + 1) lv st (hC (setA S 23 (upd (S.2.1 23) k x))) Post) : Ev g M pc lv (.int x :: .int (nI k) :: .ref 42 :: st) (hC S) Post := as_T1_lower d (vp_in_nI hk (by decide)) (by rw [nI_clamp (by omega)]; exact kk)
theorem get_MO_thrown {idx : Nat} {x : Int32} (d : decode M.2.1 pc = .ok (.getfield idx, 3)) (f : Fl M.1.cls idx 10 0) (h : S.1 20 = x) (kk : Ev g M (pc + 3) lv (.int x :: st) (hC S) Post) : Ev g M pc lv (.ref 43 :: st) (hC S) Post := by subst h; exact ev_getf d f rfl rfl kk
theorem put_MO_thrown {idx : Nat} {x : Int32} (d : decode M.2.1 pc = .ok (.putfield idx, 3)) (f : Fp M.1.cls idx 10 0 .int) (kk : Ev g M (pc + 3) lv st (hC (setI S 20 x)) Post) : Ev g M pc lv (.int x :: .ref 43 :: st) (hC S) Post := ev_putf d f rfl rfl (fun _ => rfl) (fun _ => rfl) rfl kk
theorem get_MO_status {idx : Nat} {x : Int32} (d : decode M.2.1 pc = .ok (.getfield idx, 3)) (f : Fl M.1.cls idx 10 1) (h : S.1 21 = x) (kk : Ev g M (pc + 3) lv (.int x :: st) (hC S) Post) : Ev g M pc lv (.ref 43 :: st) (hC S) Post := by subst h; exact ev_getf d f rfl rfl kk
theorem put_MO_status {idx : Nat} {x : Int32} (d : decode M.2.1 pc = .ok (.putfield idx, 3)) (f : Fp M.1.cls idx 10 1 .int) (kk : Ev g M (pc + 3) lv st (hC (setI S 21 x)) Post) : Ev g M pc lv (.int x :: .ref 43 :: st) (hC S) Post := ev_putf d f rfl rfl (fun _ => rfl) (fun _ => rfl) rfl kk
theorem get_MO_farmers {idx : Nat} {x : Int32} (d : decode M.2.1 pc = .ok (.getfield idx, 3)) (f : Fl M.1.cls idx 10 2) (h : S.1 22 = x) (kk : Ev g M (pc + 3) lv (.int x :: st) (hC S) Post) : Ev g M pc lv (.ref 43 :: st) (hC S) Post := by subst h; exact ev_getf d f rfl rfl kk
theorem put_MO_farmers {idx : Nat} {x : Int32} (d : decode M.2.1 pc = .ok (.putfield idx, 3)) (f : Fp M.1.cls idx 10 2 .int) (kk : Ev g M (pc + 3) lv st (hC (setI S 22 x)) Post) : Ev g M pc lv (.int x :: .ref 43 :: st) (hC S) Post := ev_putf d f rfl rfl (fun _ => rfl) (fun _ => rfl) rfl kk
theorem get_MO_fGroup {idx : Nat} (d : decode M.2.1 pc = .ok (.getfield idx, 3)) (f : Fl M.1.cls idx 10 3) (kk : Ev g M (pc + 3) lv (.ref 44 :: st) (hC S) Post) : Ev g M pc lv (.ref 43 :: st) (hC S) Post := ev_getf d f rfl rfl kk
theorem get_MO_fPlace {idx : Nat} (d : decode M.2.1 pc = .ok (.getfield idx, 3)) (f : Fl M.1.cls idx 10 4) (kk : Ev g M (pc + 3) lv (.ref 45 :: st) (hC S) Post) : Ev g M pc lv (.ref 43 :: st) (hC S) Post := ev_getf d f rfl rfl kk
theorem get_MO_fFields {idx : Nat} (d : decode M.2.1 pc = .ok (.getfield idx, 3)) (f : Fl M.1.cls idx 10 5) (kk : Ev g M (pc + 3) lv (.ref 46 :: st) (hC S) Post) : Ev g M pc lv (.ref 43 :: st) (hC S) Post := ev_getf d f rfl rfl kk
theorem get_MO_credits {idx : Nat} {x : Int32} (d : decode M.2.1 pc = .ok (.getfield idx, 3)) (f : Fl M.1.cls idx 10 6) (h : S.1 23 = x) (kk : Ev g M (pc + 3) lv (.int x :: st) (hC S) Post) : Ev g M pc lv (.ref 43 :: st) (hC S) Post := by subst h; exact ev_getf d f rfl rfl kk
theorem put_MO_credits {idx : Nat} {x : Int32} (d : decode M.2.1 pc = .ok (.putfield idx, 3)) (f : Fp M.1.cls idx 10 6 .int) (kk : Ev g M (pc + 3) lv st (hC (setI S 23 x)) Post) : Ev g M pc lv (.int x :: .ref 43 :: st) (hC S) Post := ev_putf d f rfl rfl (fun _ => rfl) (fun _ => rfl) rfl kk
theorem get_MO_cFarmer {idx : Nat} (d : decode M.2.1 pc = .ok (.getfield idx, 3)) (f : Fl M.1.cls idx 10 7) (kk : Ev g M (pc + 3) lv (.ref 47 :: st) (hC S) Post) : Ev g M pc lv (.ref 43 :: st) (hC S) Post := ev_getf d f rfl rfl kk
theorem get_MO_cAmount {idx : Nat} (d : decode M.2.1 pc = .ok (.getfield idx, 3)) (f : Fl M.1.cls idx 10 8) (kk : Ev g M (pc + 3) lv (.ref 48 :: st) (hC S) Post) : Ev g M pc lv (.ref 43 :: st) (hC S) Post := ev_getf d f rfl rfl kk
theorem get_MO_cKnown {idx : Nat} (d : decode M.2.1 pc = .ok (.getfield idx, 3)) (f : Fl M.1.cls idx 10 9) (kk : Ev g M (pc + 3) lv (.ref 49 :: st) (hC S) Post) : Ev g M pc lv (.ref 43 :: st) (hC S) Post := ev_getf d f rfl rfl kk
theorem get_MO_baskets {idx : Nat} {x : Int32} (d : decode M.2.1 pc = .ok (.getfield idx, 3)) (f : Fl M.1.cls idx 10 10) (h : S.1 24 = x) (kk : Ev g M (pc + 3) lv (.int x :: st) (hC S) Post) : Ev g M pc lv (.ref 43 :: st) (hC S) Post := by subst h; exact ev_getf d f rfl rfl kk
theorem put_MO_baskets {idx : Nat} {x : Int32} (d : decode M.2.1 pc = .ok (.putfield idx, 3)) (f : Fp M.1.cls idx 10 10 .int) (kk : Ev g M (pc + 3) lv st (hC (setI S 24 x)) Post) : Ev g M pc lv (.int x :: .ref 43 :: st) (hC S) Post := ev_putf d f rfl rfl (fun _ => rfl) (fun _ => rfl) rfl kk
theorem get_MO_bFarmer {idx : Nat} (d : decode M.2.1 pc = .ok (.getfield idx, 3)) (f : Fl M.1.cls idx 10 11) (kk : Ev g M (pc + 3) lv (.ref 50 :: st) (hC S) Post) : Ev g M pc lv (.ref 43 :: st) (hC S) Post := ev_getf d f rfl rfl kk
theorem get_MO_bWeight {idx : Nat} (d : decode M.2.1 pc = .ok (.getfield idx, 3)) (f : Fl M.1.cls idx 10 12) (kk : Ev g M (pc + 3) lv (.ref 51 :: st) (hC S) Post) : Ev g M pc lv (.ref 43 :: st) (hC S) Post := ev_getf d f rfl rfl kk
theorem get_MO_bGrade {idx : Nat} (d : decode M.2.1 pc = .ok (.getfield idx, 3)) (f : Fl M.1.cls idx 10 13) (kk : Ev g M (pc + 3) lv (.ref 52 :: st) (hC S) Post) : Ev g M pc lv (.ref 43 :: st) (hC S) Post := ev_getf d f rfl rfl kk
theorem get_MO_bKnown {idx : Nat} (d : decode M.2.1 pc = .ok (.getfield idx, 3)) (f : Fl M.1.cls idx 10 14) (kk : Ev g M (pc + 3) lv (.ref 53 :: st) (hC S) Post) : Ev g M pc lv (.ref 43 :: st) (hC S) Post := ev_getf d f rfl rfl kk
theorem get_MO_clauses {idx : Nat} {x : Int32} (d : decode M.2.1 pc = .ok (.getfield idx, 3)) (f : Fl M.1.cls idx 10 15) (h : S.1 25 = x) (kk : Ev g M (pc + 3) lv (.int x :: st) (hC S) Post) : Ev g M pc lv (.ref 43 :: st) (hC S) Post := by subst h; exact ev_getf d f rfl rfl kk
theorem put_MO_clauses {idx : Nat} {x : Int32} (d : decode M.2.1 pc = .ok (.putfield idx, 3)) (f : Fp M.1.cls idx 10 15 .int) (kk : Ev g M (pc + 3) lv st (hC (setI S 25 x)) Post) : Ev g M pc lv (.int x :: .ref 43 :: st) (hC S) Post := ev_putf d f rfl rfl (fun _ => rfl) (fun _ => rfl) rfl kk
theorem get_MO_prices {idx : Nat} (d : decode M.2.1 pc = .ok (.getfield idx, 3)) (f : Fl M.1.cls idx 10 16) (kk : Ev g M (pc + 3) lv (.ref 54 :: st) (hC S) Post) : Ev g M pc lv (.ref 43 :: st) (hC S) Post := ev_getf d f rfl rfl kk
theorem get_MO_quota {idx : Nat} {x : Int32} (d : decode M.2.1 pc = .ok (.getfield idx, 3)) (f : Fl M.1.cls idx 10 17) (h : S.1 26 = x) (kk : Ev g M (pc + 3) lv (.int x :: st) (hC S) Post) : Ev g M pc lv (.ref 43 :: st) (hC S) Post := by subst h; exact ev_getf d f rfl rfl kk
theorem put_MO_quota {idx : Nat} {x : Int32} (d : decode M.2.1 pc = .ok (.putfield idx, 3)) (f : Fp M.1.cls idx 10 17 .int) (kk : Ev g M (pc + 3) lv st (hC (setI S 26 x)) Post) : Ev g M pc lv (.int x :: .ref 43 :: st) (hC S) Post := ev_putf d f rfl rfl (fun _ => rfl) (fun _ => rfl) rfl kk
theorem get_MO_partA {idx : Nat} (d : decode M.2.1 pc = .ok (.getfield idx, 3)) (f : Fl M.1.cls idx 10 18) (kk : Ev g M (pc + 3) lv (.ref 55 :: st) (hC S) Post) : Ev g M pc lv (.ref 43 :: st) (hC S) Post := ev_getf d f rfl rfl kk
theorem get_MO_partB {idx : Nat} (d : decode M.2.1 pc = .ok (.getfield idx, 3)) (f : Fl M.1.cls idx 10 19) (kk : Ev g M (pc + 3) lv (.ref 56 :: st) (hC S) Post) : Ev g M pc lv (.ref 43 :: st) (hC S) Post := ev_getf d f rfl rfl kk
theorem get_MO_nMany {idx : Nat} {x : Int32} (d : decode M.2.1 pc = .ok (.getfield idx, 3)) (f : Fl M.1.cls idx 10 20) (h : S.1 27 = x) (kk : Ev g M (pc + 3) lv (.int x :: st) (hC S) Post) : Ev g M pc lv (.ref 43 :: st) (hC S) Post := by subst h; exact ev_getf d f rfl rfl kk
theorem put_MO_nMany {idx : Nat} {x : Int32} (d : decode M.2.1 pc = .ok (.putfield idx, 3)) (f : Fp M.1.cls idx 10 20 .int) (kk : Ev g M (pc + 3) lv st (hC (setI S 27 x)) Post) : Ev g M pc lv (.int x :: .ref 43 :: st) (hC S) Post := ev_putf d f rfl rfl (fun _ => rfl) (fun _ => rfl) rfl kk
theorem get_MO_nPrices {idx : Nat} (d : decode M.2.1 pc = .ok (.getfield idx, 3)) (f : Fl M.1.cls idx 10 21) (kk : Ev g M (pc + 3) lv (.ref 57 :: st) (hC S) Post) : Ev g M pc lv (.ref 43 :: st) (hC S) Post := ev_getf d f rfl rfl kk
theorem get_MO_nQuota {idx : Nat} {x : Int32} (d : decode M.2.1 pc = .ok (.getfield idx, 3)) (f : Fl M.1.cls idx 10 22) (h : S.1 28 = x) (kk : Ev g M (pc + 3) lv (.int x :: st) (hC S) Post) : Ev g M pc lv (.ref 43 :: st) (hC S) Post := by subst h; exact ev_getf d f rfl rfl kk
theorem put_MO_nQuota {idx : Nat} {x : Int32} (d : decode M.2.1 pc = .ok (.putfield idx, 3)) (f : Fp M.1.cls idx 10 22 .int) (kk : Ev g M (pc + 3) lv st (hC (setI S 28 x)) Post) : Ev g M pc lv (.int x :: .ref 43 :: st) (hC S) Post := ev_putf d f rfl rfl (fun _ => rfl) (fun _ => rfl) rfl kk
theorem get_MO_nA {idx : Nat} (d : decode M.2.1 pc = .ok (.getfield idx, 3)) (f : Fl M.1.cls idx 10 23) (kk : Ev g M (pc + 3) lv (.ref 58 :: st) (hC S) Post) : Ev g M pc lv (.ref 43 :: st) (hC S) Post := ev_getf d f rfl rfl kk
theorem get_MO_nB {idx : Nat} (d : decode M.2.1 pc = .ok (.getfield idx, 3)) (f : Fl M.1.cls idx 10 24) (kk : Ev g M (pc + 3) lv (.ref 59 :: st) (hC S) Post) : Ev g M pc lv (.ref 43 :: st) (hC S) Post := ev_getf d f rfl rfl kk
theorem get_MO_tape {idx : Nat} (d : decode M.2.1 pc = .ok (.getfield idx, 3)) (f : Fl M.1.cls idx 10 25) (kk : Ev g M (pc + 3) lv (.ref 60 :: st) (hC S) Post) : Ev g M pc lv (.ref 43 :: st) (hC S) Post := ev_getf d f rfl rfl kk
theorem get_MO_taped {idx : Nat} {x : Int32} (d : decode M.2.1 pc = .ok (.getfield idx, 3)) (f : Fl M.1.cls idx 10 26) (h : S.1 29 = x) (kk : Ev g M (pc + 3) lv (.int x :: st) (hC S) Post) : Ev g M pc lv (.ref 43 :: st) (hC S) Post := by subst h; exact ev_getf d f rfl rfl kk
theorem put_MO_taped {idx : Nat} {x : Int32} (d : decode M.2.1 pc = .ok (.putfield idx, 3)) (f : Fp M.1.cls idx 10 26 .int) (kk : Ev g M (pc + 3) lv st (hC (setI S 29 x)) Post) : Ev g M pc lv (.int x :: .ref 43 :: st) (hC S) Post := ev_putf d f rfl rfl (fun _ => rfl) (fun _ => rfl) rfl kk
theorem get_MO_from {idx : Nat} {x : Int32} (d : decode M.2.1 pc = .ok (.getfield idx, 3)) (f : Fl M.1.cls idx 10 27) (h : S.1 30 = x) (kk : Ev g M (pc + 3) lv (.int x :: st) (hC S) Post) : Ev g M pc lv (.ref 43 :: st) (hC S) Post := by subst h; exact ev_getf d f rfl rfl kk
theorem put_MO_from {idx : Nat} {x : Int32} (d : decode M.2.1 pc = .ok (.putfield idx, 3)) (f : Fp M.1.cls idx 10 27 .int) (kk : Ev g M (pc + 3) lv st (hC (setI S 30 x)) Post) : Ev g M pc lv (.int x :: .ref 43 :: st) (hC S) Post := ev_putf d f rfl rfl (fun _ => rfl) (fun _ => rfl) rfl kk
theorem get_MO_to {idx : Nat} {x : Int32} (d : decode M.2.1 pc = .ok (.getfield idx, 3)) (f : Fl M.1.cls idx 10 28) (h : S.1 31 = x) (kk : Ev g M (pc + 3) lv (.int x :: st) (hC S) Post) : Ev g M pc lv (.ref 43 :: st) (hC S) Post := by subst h; exact ev_getf d f rfl rfl kk
theorem put_MO_to {idx : Nat} {x : Int32} (d : decode M.2.1 pc = .ok (.putfield idx, 3)) (f : Fp M.1.cls idx 10 28 .int) (kk : Ev g M (pc + 3) lv st (hC (setI S 31 x)) Post) : Ev g M pc lv (.int x :: .ref 43 :: st) (hC S) Post := ev_putf d f rfl rfl (fun _ => rfl) (fun _ => rfl) rfl kk
theorem get_MO_sort {idx : Nat} {x : Int32} (d : decode M.2.1 pc = .ok (.getfield idx, 3)) (f : Fl M.1.cls idx 10 29) (h : S.1 32 = x) (kk : Ev g M (pc + 3) lv (.int x :: st) (hC S) Post) : Ev g M pc lv (.ref 43 :: st) (hC S) Post := by subst h; exact ev_getf d f rfl rfl kk
theorem put_MO_sort {idx : Nat} {x : Int32} (d : decode M.2.1 pc = .ok (.putfield idx, 3)) (f : Fp M.1.cls idx 10 29 .int) (kk : Ev g M (pc + 3) lv st (hC (setI S 32 x)) Post) : Ev g M pc lv (.int x :: .ref 43 :: st) (hC S) Post := ev_putf d f rfl rfl (fun _ => rfl) (fun _ => rfl) rfl kk
theorem get_MO_worth {idx : Nat} {x : Int64} (d : decode M.2.1 pc = .ok (.getfield idx, 3)) (f : Fl M.1.cls idx 10 30) (h : S.2.2.1 3 = x) (kk : Ev g M (pc + 3) lv (.long x :: st) (hC S) Post) : Ev g M pc lv (.ref 43 :: st) (hC S) Post := by subst h; exact ev_getf d f rfl rfl kk
theorem put_MO_worth {idx : Nat} {x : Int64} (d : decode M.2.1 pc = .ok (.putfield idx, 3)) (f : Fp M.1.cls idx 10 30 .long) (kk : Ev g M (pc + 3) lv st (hC (setL S 3 x)) Post) : Ev g M pc lv (.long x :: .ref 43 :: st) (hC S) Post := ev_putf d f rfl rfl (fun _ => rfl) (fun _ => rfl) rfl kk
theorem get_MO_fault {idx : Nat} {x : Int32} (d : decode M.2.1 pc = .ok (.getfield idx, 3)) (f : Fl M.1.cls idx 10 31) (h : S.1 33 = x) (kk : Ev g M (pc + 3) lv (.int x :: st) (hC S) Post) : Ev g M pc lv (.ref 43 :: st) (hC S) Post := by subst h; exact ev_getf d f rfl rfl kk
theorem put_MO_fault {idx : Nat} {x : Int32} (d : decode M.2.1 pc = .ok (.putfield idx, 3)) (f : Fp M.1.cls idx 10 31 .int) (kk : Ev g M (pc + 3) lv st (hC (setI S 33 x)) Post) : Ev g M pc lv (.int x :: .ref 43 :: st) (hC S) Post := ev_putf d f rfl rfl (fun _ => rfl) (fun _ => rfl) rfl kk
theorem get_MO_bad {idx : Nat} {x : Int32} (d : decode M.2.1 pc = .ok (.getfield idx, 3)) (f : Fl M.1.cls idx 10 32) (h : S.1 34 = x) (kk : Ev g M (pc + 3) lv (.int x :: st) (hC S) Post) : Ev g M pc lv (.ref 43 :: st) (hC S) Post := by subst h; exact ev_getf d f rfl rfl kk
theorem put_MO_bad {idx : Nat} {x : Int32} (d : decode M.2.1 pc = .ok (.putfield idx, 3)) (f : Fp M.1.cls idx 10 32 .boolean) (hz : narrow .boolean (.int x) = .int x) (hf : fits .boolean (.int x) = true) (kk : Ev g M (pc + 3) lv st (hC (setI S 34 x)) Post) : Ev g M pc lv (.int x :: .ref 43 :: st) (hC S) Post := ev_putf d f rfl rfl (fun _ => hz) (fun _ => hf) rfl kk
theorem get_MO_weights {idx : Nat} (d : decode M.2.1 pc = .ok (.getfield idx, 3)) (f : Fl M.1.cls idx 10 33) (kk : Ev g M (pc + 3) lv (.ref 61 :: st) (hC S) Post) : Ev g M pc lv (.ref 43 :: st) (hC S) Post := ev_getf d f rfl rfl kk
theorem get_MO_owes {idx : Nat} (d : decode M.2.1 pc = .ok (.getfield idx, 3)) (f : Fl M.1.cls idx 10 34) (kk : Ev g M (pc + 3) lv (.ref 62 :: st) (hC S) Post) : Ev g M pc lv (.ref 43 :: st) (hC S) Post := ev_getf d f rfl rfl kk
theorem get_MO_checks {idx : Nat} (d : decode M.2.1 pc = .ok (.getfield idx, 3)) (f : Fl M.1.cls idx 10 35) (kk : Ev g M (pc + 3) lv (.ref 63 :: st) (hC S) Post) : Ev g M pc lv (.ref 43 :: st) (hC S) Post := ev_getf d f rfl rfl kk
theorem get_MO_offs {idx : Nat} (d : decode M.2.1 pc = .ok (.getfield idx, 3)) (f : Fl M.1.cls idx 10 36) (kk : Ev g M (pc + 3) lv (.ref 64 :: st) (hC S) Post) : Ev g M pc lv (.ref 43 :: st) (hC S) Post := ev_getf d f rfl rfl kk
theorem get_MO_rests {idx : Nat} (d : decode M.2.1 pc = .ok (.getfield idx, 3)) (f : Fl M.1.cls idx 10 37) (kk : Ev g M (pc + 3) lv (.ref 65 :: st) (hC S) Post) : Ev g M pc lv (.ref 43 :: st) (hC S) Post := ev_getf d f rfl rfl kk
theorem get_MO_quotas {idx : Nat} (d : decode M.2.1 pc = .ok (.getfield idx, 3)) (f : Fl M.1.cls idx 10 38) (kk : Ev g M (pc + 3) lv (.ref 66 :: st) (hC S) Post) : Ev g M pc lv (.ref 43 :: st) (hC S) Post := ev_getf d f rfl rfl kk
theorem get_MO_can {idx : Nat} (d : decode M.2.1 pc = .ok (.getfield idx, 3)) (f : Fl M.1.cls idx 10 39) (kk : Ev g M (pc + 3) lv (.ref 67 :: st) (hC S) Post) : Ev g M pc lv (.ref 43 :: st) (hC S) Post := ev_getf d f rfl rfl kk
theorem get_MO_given {idx : Nat} (d : decode M.2.1 pc = .ok (.getfield idx, 3)) (f : Fl M.1.cls idx 10 40) (kk : Ev g M (pc + 3) lv (.ref 68 :: st) (hC S) Post) : Ev g M pc lv (.ref 43 :: st) (hC S) Post := ev_getf d f rfl rfl kk
theorem get_MO_left {idx : Nat} (d : decode M.2.1 pc = .ok (.getfield idx, 3)) (f : Fl M.1.cls idx 10 41) (kk : Ev g M (pc + 3) lv (.ref 69 :: st) (hC S) Post) : Ev g M pc lv (.ref 43 :: st) (hC S) Post := ev_getf d f rfl rfl kk
theorem get_MO_bearing {idx : Nat} {x : Int32} (d : decode M.2.1 pc = .ok (.getfield idx, 3)) (f : Fl M.1.cls idx 10 42) (h : S.1 35 = x) (kk : Ev g M (pc + 3) lv (.int x :: st) (hC S) Post) : Ev g M pc lv (.ref 43 :: st) (hC S) Post := by subst h; exact ev_getf d f rfl rfl kk
theorem put_MO_bearing {idx : Nat} {x : Int32} (d : decode M.2.1 pc = .ok (.putfield idx, 3)) (f : Fp M.1.cls idx 10 42 .int) (kk : Ev g M (pc + 3) lv st (hC (setI S 35 x)) Post) : Ev g M pc lv (.int x :: .ref 43 :: st) (hC S) Post := ev_putf d f rfl rfl (fun _ => rfl) (fun _ => rfl) rfl kk
theorem get_MO_droughts {idx : Nat} {x : Int32} (d : decode M.2.1 pc = .ok (.getfield idx, 3)) (f : Fl M.1.cls idx 10 43) (h : S.1 36 = x) (kk : Ev g M (pc + 3) lv (.int x :: st) (hC S) Post) : Ev g M pc lv (.ref 43 :: st) (hC S) Post := by subst h; exact ev_getf d f rfl rfl kk
theorem put_MO_droughts {idx : Nat} {x : Int32} (d : decode M.2.1 pc = .ok (.putfield idx, 3)) (f : Fp M.1.cls idx 10 43 .int) (kk : Ev g M (pc + 3) lv st (hC (setI S 36 x)) Post) : Ev g M pc lv (.int x :: .ref 43 :: st) (hC S) Post := ev_putf d f rfl rfl (fun _ => rfl) (fun _ => rfl) rfl kk
theorem get_MO_dFrom {idx : Nat} (d : decode M.2.1 pc = .ok (.getfield idx, 3)) (f : Fl M.1.cls idx 10 44) (kk : Ev g M (pc + 3) lv (.ref 70 :: st) (hC S) Post) : Ev g M pc lv (.ref 43 :: st) (hC S) Post := ev_getf d f rfl rfl kk
theorem get_MO_dTo {idx : Nat} (d : decode M.2.1 pc = .ok (.getfield idx, 3)) (f : Fl M.1.cls idx 10 45) (kk : Ev g M (pc + 3) lv (.ref 71 :: st) (hC S) Post) : Ev g M pc lv (.ref 43 :: st) (hC S) Post := ev_getf d f rfl rfl kk
theorem get_MO_dPart {idx : Nat} (d : decode M.2.1 pc = .ok (.getfield idx, 3)) (f : Fl M.1.cls idx 10 46) (kk : Ev g M (pc + 3) lv (.ref 72 :: st) (hC S) Post) : Ev g M pc lv (.ref 43 :: st) (hC S) Post := ev_getf d f rfl rfl kk
theorem get_MO_visits {idx : Nat} {x : Int32} (d : decode M.2.1 pc = .ok (.getfield idx, 3)) (f : Fl M.1.cls idx 10 47) (h : S.1 37 = x) (kk : Ev g M (pc + 3) lv (.int x :: st) (hC S) Post) : Ev g M pc lv (.ref 43 :: st) (hC S) Post := by subst h; exact ev_getf d f rfl rfl kk
theorem put_MO_visits {idx : Nat} {x : Int32} (d : decode M.2.1 pc = .ok (.putfield idx, 3)) (f : Fp M.1.cls idx 10 47 .int) (kk : Ev g M (pc + 3) lv st (hC (setI S 37 x)) Post) : Ev g M pc lv (.int x :: .ref 43 :: st) (hC S) Post := ev_putf d f rfl rfl (fun _ => rfl) (fun _ => rfl) rfl kk
theorem get_MO_vFarmer {idx : Nat} (d : decode M.2.1 pc = .ok (.getfield idx, 3)) (f : Fl M.1.cls idx 10 48) (kk : Ev g M (pc + 3) lv (.ref 73 :: st) (hC S) Post) : Ev g M pc lv (.ref 43 :: st) (hC S) Post := ev_getf d f rfl rfl kk
theorem get_MO_vHour {idx : Nat} (d : decode M.2.1 pc = .ok (.getfield idx, 3)) (f : Fl M.1.cls idx 10 49) (kk : Ev g M (pc + 3) lv (.ref 74 :: st) (hC S) Post) : Ev g M pc lv (.ref 43 :: st) (hC S) Post := ev_getf d f rfl rfl kk
theorem get_MO_places {idx : Nat} {x : Int32} (d : decode M.2.1 pc = .ok (.getfield idx, 3)) (f : Fl M.1.cls idx 10 50) (h : S.1 38 = x) (kk : Ev g M (pc + 3) lv (.int x :: st) (hC S) Post) : Ev g M pc lv (.ref 43 :: st) (hC S) Post := by subst h; exact ev_getf d f rfl rfl kk
theorem put_MO_places {idx : Nat} {x : Int32} (d : decode M.2.1 pc = .ok (.putfield idx, 3)) (f : Fp M.1.cls idx 10 50 .int) (kk : Ev g M (pc + 3) lv st (hC (setI S 38 x)) Post) : Ev g M pc lv (.int x :: .ref 43 :: st) (hC S) Post := ev_putf d f rfl rfl (fun _ => rfl) (fun _ => rfl) rfl kk
theorem get_MO_place {idx : Nat} (d : decode M.2.1 pc = .ok (.getfield idx, 3)) (f : Fl M.1.cls idx 10 51) (kk : Ev g M (pc + 3) lv (.ref 75 :: st) (hC S) Post) : Ev g M pc lv (.ref 43 :: st) (hC S) Post := ev_getf d f rfl rfl kk
theorem get_MO_early {idx : Nat} (d : decode M.2.1 pc = .ok (.getfield idx, 3)) (f : Fl M.1.cls idx 10 52) (kk : Ev g M (pc + 3) lv (.ref 76 :: st) (hC S) Post) : Ev g M pc lv (.ref 43 :: st) (hC S) Post := ev_getf d f rfl rfl kk
theorem ld_MO_fGroup {i : Int32} {x : Int32} (d : decode M.2.1 pc = .ok (.iaload, 1)) (hin : vp_in i 40) (h : S.2.1 24 i.toNatClampNeg = x) (kk : Ev g M (pc + 1) lv (.int x :: st) (hC S) Post) : Ev g M pc lv (.int i :: .ref 44 :: st) (hC S) Post := by subst h; exact ev_iald d rfl hin kk
theorem ldN_MO_fGroup {k : Nat} {x : Int32} (d : decode M.2.1 pc = .ok (.iaload, 1)) (hk : k < 40) (h : S.2.1 24 k = x) (kk : Ev g M (pc + 1) lv (.int x :: st) (hC S) Post) : Ev g M pc lv (.int (nI k) :: .ref 44 :: st) (hC S) Post := ld_MO_fGroup d (vp_in_nI hk (by decide)) (by rw [nI_clamp (by omega)]; exact h) kk
theorem as_MO_fGroup {i : Int32} {x : Int32} (d : decode M.2.1 pc = .ok (.iastore, 1)) (hin : vp_in i 40) (kk : Ev g M (pc + 1) lv st (hC (setA S 24 (upd (S.2.1 24) i.toNatClampNeg x))) Post) : Ev g M pc lv (.int x :: .int i :: .ref 44 :: st) (hC S) Post := ev_iast d rfl hin rfl kk
theorem asN_MO_fGroup {k : Nat} {x : Int32} (d : decode M.2.1 pc = .ok (.iastore, 1)) (hk : k < 40) (kk : Ev g M (pc + 1) lv st (hC (setA S 24 (upd (S.2.1 24) k x))) Post) : Ev g M pc lv (.int x :: .int (nI k) :: .ref 44 :: st) (hC S) Post := as_MO_fGroup d (vp_in_nI hk (by decide)) (by rw [nI_clamp (by omega)]; exact kk)
theorem ld_MO_fPlace {i : Int32} {x : Int32} (d : decode M.2.1 pc = .ok (.iaload, 1)) (hin : vp_in i 40) (h : S.2.1 25 i.toNatClampNeg = x) (kk : Ev g M (pc + 1) lv (.int x :: st) (hC S) Post) : Ev g M pc lv (.int i :: .ref 45 :: st) (hC S) Post := by subst h; exact ev_iald d rfl hin kk
theorem ldN_MO_fPlace {k : Nat} {x : Int32} (d : decode M.2.1 pc = .ok (.iaload, 1)) (hk : k < 40) (h : S.2.1 25 k = x) (kk : Ev g M (pc + 1) lv (.int x :: st) (hC S) Post) : Ev g M pc lv (.int (nI k) :: .ref 45 :: st) (hC S) Post := ld_MO_fPlace d (vp_in_nI hk (by decide)) (by rw [nI_clamp (by omega)]; exact h) kk
theorem as_MO_fPlace {i : Int32} {x : Int32} (d : decode M.2.1 pc = .ok (.iastore, 1)) (hin : vp_in i 40) (kk : Ev g M (pc + 1) lv st (hC (setA S 25 (upd (S.2.1 25) i.toNatClampNeg x))) Post) : Ev g M pc lv (.int x :: .int i :: .ref 45 :: st) (hC S) Post := ev_iast d rfl hin rfl kk
theorem asN_MO_fPlace {k : Nat} {x : Int32} (d : decode M.2.1 pc = .ok (.iastore, 1)) (hk : k < 40) (kk : Ev g M (pc + 1) lv st (hC (setA S 25 (upd (S.2.1 25) k x))) Post) : Ev g M pc lv (.int x :: .int (nI k) :: .ref 45 :: st) (hC S) Post := as_MO_fPlace d (vp_in_nI hk (by decide)) (by rw [nI_clamp (by omega)]; exact kk)
theorem ld_MO_fFields {i : Int32} {x : Int32} (d : decode M.2.1 pc = .ok (.iaload, 1)) (hin : vp_in i 40) (h : S.2.1 26 i.toNatClampNeg = x) (kk : Ev g M (pc + 1) lv (.int x :: st) (hC S) Post) : Ev g M pc lv (.int i :: .ref 46 :: st) (hC S) Post := by subst h; exact ev_iald d rfl hin kk
theorem ldN_MO_fFields {k : Nat} {x : Int32} (d : decode M.2.1 pc = .ok (.iaload, 1)) (hk : k < 40) (h : S.2.1 26 k = x) (kk : Ev g M (pc + 1) lv (.int x :: st) (hC S) Post) : Ev g M pc lv (.int (nI k) :: .ref 46 :: st) (hC S) Post := ld_MO_fFields d (vp_in_nI hk (by decide)) (by rw [nI_clamp (by omega)]; exact h) kk
theorem as_MO_fFields {i : Int32} {x : Int32} (d : decode M.2.1 pc = .ok (.iastore, 1)) (hin : vp_in i 40) (kk : Ev g M (pc + 1) lv st (hC (setA S 26 (upd (S.2.1 26) i.toNatClampNeg x))) Post) : Ev g M pc lv (.int x :: .int i :: .ref 46 :: st) (hC S) Post := ev_iast d rfl hin rfl kk
theorem asN_MO_fFields {k : Nat} {x : Int32} (d : decode M.2.1 pc = .ok (.iastore, 1)) (hk : k < 40) (kk : Ev g M (pc + 1) lv st (hC (setA S 26 (upd (S.2.1 26) k x))) Post) : Ev g M pc lv (.int x :: .int (nI k) :: .ref 46 :: st) (hC S) Post := as_MO_fFields d (vp_in_nI hk (by decide)) (by rw [nI_clamp (by omega)]; exact kk)
theorem ld_MO_cFarmer {i : Int32} {x : Int32} (d : decode M.2.1 pc = .ok (.iaload, 1)) (hin : vp_in i 200) (h : S.2.1 27 i.toNatClampNeg = x) (kk : Ev g M (pc + 1) lv (.int x :: st) (hC S) Post) : Ev g M pc lv (.int i :: .ref 47 :: st) (hC S) Post := by subst h; exact ev_iald d rfl hin kk
theorem ldN_MO_cFarmer {k : Nat} {x : Int32} (d : decode M.2.1 pc = .ok (.iaload, 1)) (hk : k < 200) (h : S.2.1 27 k = x) (kk : Ev g M (pc + 1) lv (.int x :: st) (hC S) Post) : Ev g M pc lv (.int (nI k) :: .ref 47 :: st) (hC S) Post := ld_MO_cFarmer d (vp_in_nI hk (by decide)) (by rw [nI_clamp (by omega)]; exact h) kk
theorem as_MO_cFarmer {i : Int32} {x : Int32} (d : decode M.2.1 pc = .ok (.iastore, 1)) (hin : vp_in i 200) (kk : Ev g M (pc + 1) lv st (hC (setA S 27 (upd (S.2.1 27) i.toNatClampNeg x))) Post) : Ev g M pc lv (.int x :: .int i :: .ref 47 :: st) (hC S) Post := ev_iast d rfl hin rfl kk
theorem asN_MO_cFarmer {k : Nat} {x : Int32} (d : decode M.2.1 pc = .ok (.iastore, 1)) (hk : k < 200) (kk : Ev g M (pc + 1) lv st (hC (setA S 27 (upd (S.2.1 27) k x))) Post) : Ev g M pc lv (.int x :: .int (nI k) :: .ref 47 :: st) (hC S) Post := as_MO_cFarmer d (vp_in_nI hk (by decide)) (by rw [nI_clamp (by omega)]; exact kk)
theorem ld_MO_cAmount {i : Int32} {x : Int32} (d : decode M.2.1 pc = .ok (.iaload, 1)) (hin : vp_in i 200) (h : S.2.1 28 i.toNatClampNeg = x) (kk : Ev g M (pc + 1) lv (.int x :: st) (hC S) Post) : Ev g M pc lv (.int i :: .ref 48 :: st) (hC S) Post := by subst h; exact ev_iald d rfl hin kk
theorem ldN_MO_cAmount {k : Nat} {x : Int32} (d : decode M.2.1 pc = .ok (.iaload, 1)) (hk : k < 200) (h : S.2.1 28 k = x) (kk : Ev g M (pc + 1) lv (.int x :: st) (hC S) Post) : Ev g M pc lv (.int (nI k) :: .ref 48 :: st) (hC S) Post := ld_MO_cAmount d (vp_in_nI hk (by decide)) (by rw [nI_clamp (by omega)]; exact h) kk
theorem as_MO_cAmount {i : Int32} {x : Int32} (d : decode M.2.1 pc = .ok (.iastore, 1)) (hin : vp_in i 200) (kk : Ev g M (pc + 1) lv st (hC (setA S 28 (upd (S.2.1 28) i.toNatClampNeg x))) Post) : Ev g M pc lv (.int x :: .int i :: .ref 48 :: st) (hC S) Post := ev_iast d rfl hin rfl kk
theorem asN_MO_cAmount {k : Nat} {x : Int32} (d : decode M.2.1 pc = .ok (.iastore, 1)) (hk : k < 200) (kk : Ev g M (pc + 1) lv st (hC (setA S 28 (upd (S.2.1 28) k x))) Post) : Ev g M pc lv (.int x :: .int (nI k) :: .ref 48 :: st) (hC S) Post := as_MO_cAmount d (vp_in_nI hk (by decide)) (by rw [nI_clamp (by omega)]; exact kk)
theorem ld_MO_cKnown {i : Int32} {x : Int32} (d : decode M.2.1 pc = .ok (.iaload, 1)) (hin : vp_in i 200) (h : S.2.1 29 i.toNatClampNeg = x) (kk : Ev g M (pc + 1) lv (.int x :: st) (hC S) Post) : Ev g M pc lv (.int i :: .ref 49 :: st) (hC S) Post := by subst h; exact ev_iald d rfl hin kk
theorem ldN_MO_cKnown {k : Nat} {x : Int32} (d : decode M.2.1 pc = .ok (.iaload, 1)) (hk : k < 200) (h : S.2.1 29 k = x) (kk : Ev g M (pc + 1) lv (.int x :: st) (hC S) Post) : Ev g M pc lv (.int (nI k) :: .ref 49 :: st) (hC S) Post := ld_MO_cKnown d (vp_in_nI hk (by decide)) (by rw [nI_clamp (by omega)]; exact h) kk
theorem as_MO_cKnown {i : Int32} {x : Int32} (d : decode M.2.1 pc = .ok (.iastore, 1)) (hin : vp_in i 200) (kk : Ev g M (pc + 1) lv st (hC (setA S 29 (upd (S.2.1 29) i.toNatClampNeg x))) Post) : Ev g M pc lv (.int x :: .int i :: .ref 49 :: st) (hC S) Post := ev_iast d rfl hin rfl kk
theorem asN_MO_cKnown {k : Nat} {x : Int32} (d : decode M.2.1 pc = .ok (.iastore, 1)) (hk : k < 200) (kk : Ev g M (pc + 1) lv st (hC (setA S 29 (upd (S.2.1 29) k x))) Post) : Ev g M pc lv (.int x :: .int (nI k) :: .ref 49 :: st) (hC S) Post := as_MO_cKnown d (vp_in_nI hk (by decide)) (by rw [nI_clamp (by omega)]; exact kk)
theorem ld_MO_bFarmer {i : Int32} {x : Int32} (d : decode M.2.1 pc = .ok (.iaload, 1)) (hin : vp_in i 300) (h : S.2.1 30 i.toNatClampNeg = x) (kk : Ev g M (pc + 1) lv (.int x :: st) (hC S) Post) : Ev g M pc lv (.int i :: .ref 50 :: st) (hC S) Post := by subst h; exact ev_iald d rfl hin kk
theorem ldN_MO_bFarmer {k : Nat} {x : Int32} (d : decode M.2.1 pc = .ok (.iaload, 1)) (hk : k < 300) (h : S.2.1 30 k = x) (kk : Ev g M (pc + 1) lv (.int x :: st) (hC S) Post) : Ev g M pc lv (.int (nI k) :: .ref 50 :: st) (hC S) Post := ld_MO_bFarmer d (vp_in_nI hk (by decide)) (by rw [nI_clamp (by omega)]; exact h) kk
theorem as_MO_bFarmer {i : Int32} {x : Int32} (d : decode M.2.1 pc = .ok (.iastore, 1)) (hin : vp_in i 300) (kk : Ev g M (pc + 1) lv st (hC (setA S 30 (upd (S.2.1 30) i.toNatClampNeg x))) Post) : Ev g M pc lv (.int x :: .int i :: .ref 50 :: st) (hC S) Post := ev_iast d rfl hin rfl kk
theorem asN_MO_bFarmer {k : Nat} {x : Int32} (d : decode M.2.1 pc = .ok (.iastore, 1)) (hk : k < 300) (kk : Ev g M (pc + 1) lv st (hC (setA S 30 (upd (S.2.1 30) k x))) Post) : Ev g M pc lv (.int x :: .int (nI k) :: .ref 50 :: st) (hC S) Post := as_MO_bFarmer d (vp_in_nI hk (by decide)) (by rw [nI_clamp (by omega)]; exact kk)
theorem ld_MO_bWeight {i : Int32} {x : Int32} (d : decode M.2.1 pc = .ok (.iaload, 1)) (hin : vp_in i 300) (h : S.2.1 31 i.toNatClampNeg = x) (kk : Ev g M (pc + 1) lv (.int x :: st) (hC S) Post) : Ev g M pc lv (.int i :: .ref 51 :: st) (hC S) Post := by subst h; exact ev_iald d rfl hin kk
theorem ldN_MO_bWeight {k : Nat} {x : Int32} (d : decode M.2.1 pc = .ok (.iaload, 1)) (hk : k < 300) (h : S.2.1 31 k = x) (kk : Ev g M (pc + 1) lv (.int x :: st) (hC S) Post) : Ev g M pc lv (.int (nI k) :: .ref 51 :: st) (hC S) Post := ld_MO_bWeight d (vp_in_nI hk (by decide)) (by rw [nI_clamp (by omega)]; exact h) kk
theorem as_MO_bWeight {i : Int32} {x : Int32} (d : decode M.2.1 pc = .ok (.iastore, 1)) (hin : vp_in i 300) (kk : Ev g M (pc + 1) lv st (hC (setA S 31 (upd (S.2.1 31) i.toNatClampNeg x))) Post) : Ev g M pc lv (.int x :: .int i :: .ref 51 :: st) (hC S) Post := ev_iast d rfl hin rfl kk
theorem asN_MO_bWeight {k : Nat} {x : Int32} (d : decode M.2.1 pc = .ok (.iastore, 1)) (hk : k < 300) (kk : Ev g M (pc + 1) lv st (hC (setA S 31 (upd (S.2.1 31) k x))) Post) : Ev g M pc lv (.int x :: .int (nI k) :: .ref 51 :: st) (hC S) Post := as_MO_bWeight d (vp_in_nI hk (by decide)) (by rw [nI_clamp (by omega)]; exact kk)
theorem ld_MO_bGrade {i : Int32} {x : Int32} (d : decode M.2.1 pc = .ok (.iaload, 1)) (hin : vp_in i 300) (h : S.2.1 32 i.toNatClampNeg = x) (kk : Ev g M (pc + 1) lv (.int x :: st) (hC S) Post) : Ev g M pc lv (.int i :: .ref 52 :: st) (hC S) Post := by subst h; exact ev_iald d rfl hin kk
theorem ldN_MO_bGrade {k : Nat} {x : Int32} (d : decode M.2.1 pc = .ok (.iaload, 1)) (hk : k < 300) (h : S.2.1 32 k = x) (kk : Ev g M (pc + 1) lv (.int x :: st) (hC S) Post) : Ev g M pc lv (.int (nI k) :: .ref 52 :: st) (hC S) Post := ld_MO_bGrade d (vp_in_nI hk (by decide)) (by rw [nI_clamp (by omega)]; exact h) kk
theorem as_MO_bGrade {i : Int32} {x : Int32} (d : decode M.2.1 pc = .ok (.iastore, 1)) (hin : vp_in i 300) (kk : Ev g M (pc + 1) lv st (hC (setA S 32 (upd (S.2.1 32) i.toNatClampNeg x))) Post) : Ev g M pc lv (.int x :: .int i :: .ref 52 :: st) (hC S) Post := ev_iast d rfl hin rfl kk
theorem asN_MO_bGrade {k : Nat} {x : Int32} (d : decode M.2.1 pc = .ok (.iastore, 1)) (hk : k < 300) (kk : Ev g M (pc + 1) lv st (hC (setA S 32 (upd (S.2.1 32) k x))) Post) : Ev g M pc lv (.int x :: .int (nI k) :: .ref 52 :: st) (hC S) Post := as_MO_bGrade d (vp_in_nI hk (by decide)) (by rw [nI_clamp (by omega)]; exact kk)
theorem ld_MO_bKnown {i : Int32} {x : Int32} (d : decode M.2.1 pc = .ok (.iaload, 1)) (hin : vp_in i 300) (h : S.2.1 33 i.toNatClampNeg = x) (kk : Ev g M (pc + 1) lv (.int x :: st) (hC S) Post) : Ev g M pc lv (.int i :: .ref 53 :: st) (hC S) Post := by subst h; exact ev_iald d rfl hin kk
theorem ldN_MO_bKnown {k : Nat} {x : Int32} (d : decode M.2.1 pc = .ok (.iaload, 1)) (hk : k < 300) (h : S.2.1 33 k = x) (kk : Ev g M (pc + 1) lv (.int x :: st) (hC S) Post) : Ev g M pc lv (.int (nI k) :: .ref 53 :: st) (hC S) Post := ld_MO_bKnown d (vp_in_nI hk (by decide)) (by rw [nI_clamp (by omega)]; exact h) kk
theorem as_MO_bKnown {i : Int32} {x : Int32} (d : decode M.2.1 pc = .ok (.iastore, 1)) (hin : vp_in i 300) (kk : Ev g M (pc + 1) lv st (hC (setA S 33 (upd (S.2.1 33) i.toNatClampNeg x))) Post) : Ev g M pc lv (.int x :: .int i :: .ref 53 :: st) (hC S) Post := ev_iast d rfl hin rfl kk
theorem asN_MO_bKnown {k : Nat} {x : Int32} (d : decode M.2.1 pc = .ok (.iastore, 1)) (hk : k < 300) (kk : Ev g M (pc + 1) lv st (hC (setA S 33 (upd (S.2.1 33) k x))) Post) : Ev g M pc lv (.int x :: .int (nI k) :: .ref 53 :: st) (hC S) Post := as_MO_bKnown d (vp_in_nI hk (by decide)) (by rw [nI_clamp (by omega)]; exact kk)
theorem ld_MO_prices {i : Int32} {x : Int32} (d : decode M.2.1 pc = .ok (.iaload, 1)) (hin : vp_in i 5) (h : S.2.1 34 i.toNatClampNeg = x) (kk : Ev g M (pc + 1) lv (.int x :: st) (hC S) Post) : Ev g M pc lv (.int i :: .ref 54 :: st) (hC S) Post := by subst h; exact ev_iald d rfl hin kk
theorem ldN_MO_prices {k : Nat} {x : Int32} (d : decode M.2.1 pc = .ok (.iaload, 1)) (hk : k < 5) (h : S.2.1 34 k = x) (kk : Ev g M (pc + 1) lv (.int x :: st) (hC S) Post) : Ev g M pc lv (.int (nI k) :: .ref 54 :: st) (hC S) Post := ld_MO_prices d (vp_in_nI hk (by decide)) (by rw [nI_clamp (by omega)]; exact h) kk
theorem as_MO_prices {i : Int32} {x : Int32} (d : decode M.2.1 pc = .ok (.iastore, 1)) (hin : vp_in i 5) (kk : Ev g M (pc + 1) lv st (hC (setA S 34 (upd (S.2.1 34) i.toNatClampNeg x))) Post) : Ev g M pc lv (.int x :: .int i :: .ref 54 :: st) (hC S) Post := ev_iast d rfl hin rfl kk
theorem asN_MO_prices {k : Nat} {x : Int32} (d : decode M.2.1 pc = .ok (.iastore, 1)) (hk : k < 5) (kk : Ev g M (pc + 1) lv st (hC (setA S 34 (upd (S.2.1 34) k x))) Post) : Ev g M pc lv (.int x :: .int (nI k) :: .ref 54 :: st) (hC S) Post := as_MO_prices d (vp_in_nI hk (by decide)) (by rw [nI_clamp (by omega)]; exact kk)
theorem ld_MO_partA {i : Int32} {x : Int32} (d : decode M.2.1 pc = .ok (.iaload, 1)) (hin : vp_in i 4) (h : S.2.1 35 i.toNatClampNeg = x) (kk : Ev g M (pc + 1) lv (.int x :: st) (hC S) Post) : Ev g M pc lv (.int i :: .ref 55 :: st) (hC S) Post := by subst h; exact ev_iald d rfl hin kk
theorem ldN_MO_partA {k : Nat} {x : Int32} (d : decode M.2.1 pc = .ok (.iaload, 1)) (hk : k < 4) (h : S.2.1 35 k = x) (kk : Ev g M (pc + 1) lv (.int x :: st) (hC S) Post) : Ev g M pc lv (.int (nI k) :: .ref 55 :: st) (hC S) Post := ld_MO_partA d (vp_in_nI hk (by decide)) (by rw [nI_clamp (by omega)]; exact h) kk
theorem as_MO_partA {i : Int32} {x : Int32} (d : decode M.2.1 pc = .ok (.iastore, 1)) (hin : vp_in i 4) (kk : Ev g M (pc + 1) lv st (hC (setA S 35 (upd (S.2.1 35) i.toNatClampNeg x))) Post) : Ev g M pc lv (.int x :: .int i :: .ref 55 :: st) (hC S) Post := ev_iast d rfl hin rfl kk
theorem asN_MO_partA {k : Nat} {x : Int32} (d : decode M.2.1 pc = .ok (.iastore, 1)) (hk : k < 4) (kk : Ev g M (pc + 1) lv st (hC (setA S 35 (upd (S.2.1 35) k x))) Post) : Ev g M pc lv (.int x :: .int (nI k) :: .ref 55 :: st) (hC S) Post := as_MO_partA d (vp_in_nI hk (by decide)) (by rw [nI_clamp (by omega)]; exact kk)
theorem ld_MO_partB {i : Int32} {x : Int32} (d : decode M.2.1 pc = .ok (.iaload, 1)) (hin : vp_in i 4) (h : S.2.1 36 i.toNatClampNeg = x) (kk : Ev g M (pc + 1) lv (.int x :: st) (hC S) Post) : Ev g M pc lv (.int i :: .ref 56 :: st) (hC S) Post := by subst h; exact ev_iald d rfl hin kk
theorem ldN_MO_partB {k : Nat} {x : Int32} (d : decode M.2.1 pc = .ok (.iaload, 1)) (hk : k < 4) (h : S.2.1 36 k = x) (kk : Ev g M (pc + 1) lv (.int x :: st) (hC S) Post) : Ev g M pc lv (.int (nI k) :: .ref 56 :: st) (hC S) Post := ld_MO_partB d (vp_in_nI hk (by decide)) (by rw [nI_clamp (by omega)]; exact h) kk
theorem as_MO_partB {i : Int32} {x : Int32} (d : decode M.2.1 pc = .ok (.iastore, 1)) (hin : vp_in i 4) (kk : Ev g M (pc + 1) lv st (hC (setA S 36 (upd (S.2.1 36) i.toNatClampNeg x))) Post) : Ev g M pc lv (.int x :: .int i :: .ref 56 :: st) (hC S) Post := ev_iast d rfl hin rfl kk
theorem asN_MO_partB {k : Nat} {x : Int32} (d : decode M.2.1 pc = .ok (.iastore, 1)) (hk : k < 4) (kk : Ev g M (pc + 1) lv st (hC (setA S 36 (upd (S.2.1 36) k x))) Post) : Ev g M pc lv (.int x :: .int (nI k) :: .ref 56 :: st) (hC S) Post := as_MO_partB d (vp_in_nI hk (by decide)) (by rw [nI_clamp (by omega)]; exact kk)
theorem ld_MO_nPrices {i : Int32} {x : Int32} (d : decode M.2.1 pc = .ok (.iaload, 1)) (hin : vp_in i 5) (h : S.2.1 37 i.toNatClampNeg = x) (kk : Ev g M (pc + 1) lv (.int x :: st) (hC S) Post) : Ev g M pc lv (.int i :: .ref 57 :: st) (hC S) Post := by subst h; exact ev_iald d rfl hin kk
theorem ldN_MO_nPrices {k : Nat} {x : Int32} (d : decode M.2.1 pc = .ok (.iaload, 1)) (hk : k < 5) (h : S.2.1 37 k = x) (kk : Ev g M (pc + 1) lv (.int x :: st) (hC S) Post) : Ev g M pc lv (.int (nI k) :: .ref 57 :: st) (hC S) Post := ld_MO_nPrices d (vp_in_nI hk (by decide)) (by rw [nI_clamp (by omega)]; exact h) kk
theorem as_MO_nPrices {i : Int32} {x : Int32} (d : decode M.2.1 pc = .ok (.iastore, 1)) (hin : vp_in i 5) (kk : Ev g M (pc + 1) lv st (hC (setA S 37 (upd (S.2.1 37) i.toNatClampNeg x))) Post) : Ev g M pc lv (.int x :: .int i :: .ref 57 :: st) (hC S) Post := ev_iast d rfl hin rfl kk
theorem asN_MO_nPrices {k : Nat} {x : Int32} (d : decode M.2.1 pc = .ok (.iastore, 1)) (hk : k < 5) (kk : Ev g M (pc + 1) lv st (hC (setA S 37 (upd (S.2.1 37) k x))) Post) : Ev g M pc lv (.int x :: .int (nI k) :: .ref 57 :: st) (hC S) Post := as_MO_nPrices d (vp_in_nI hk (by decide)) (by rw [nI_clamp (by omega)]; exact kk)
theorem ld_MO_nA {i : Int32} {x : Int32} (d : decode M.2.1 pc = .ok (.iaload, 1)) (hin : vp_in i 4) (h : S.2.1 38 i.toNatClampNeg = x) (kk : Ev g M (pc + 1) lv (.int x :: st) (hC S) Post) : Ev g M pc lv (.int i :: .ref 58 :: st) (hC S) Post := by subst h; exact ev_iald d rfl hin kk
theorem ldN_MO_nA {k : Nat} {x : Int32} (d : decode M.2.1 pc = .ok (.iaload, 1)) (hk : k < 4) (h : S.2.1 38 k = x) (kk : Ev g M (pc + 1) lv (.int x :: st) (hC S) Post) : Ev g M pc lv (.int (nI k) :: .ref 58 :: st) (hC S) Post := ld_MO_nA d (vp_in_nI hk (by decide)) (by rw [nI_clamp (by omega)]; exact h) kk
theorem as_MO_nA {i : Int32} {x : Int32} (d : decode M.2.1 pc = .ok (.iastore, 1)) (hin : vp_in i 4) (kk : Ev g M (pc + 1) lv st (hC (setA S 38 (upd (S.2.1 38) i.toNatClampNeg x))) Post) : Ev g M pc lv (.int x :: .int i :: .ref 58 :: st) (hC S) Post := ev_iast d rfl hin rfl kk
theorem asN_MO_nA {k : Nat} {x : Int32} (d : decode M.2.1 pc = .ok (.iastore, 1)) (hk : k < 4) (kk : Ev g M (pc + 1) lv st (hC (setA S 38 (upd (S.2.1 38) k x))) Post) : Ev g M pc lv (.int x :: .int (nI k) :: .ref 58 :: st) (hC S) Post := as_MO_nA d (vp_in_nI hk (by decide)) (by rw [nI_clamp (by omega)]; exact kk)
theorem ld_MO_nB {i : Int32} {x : Int32} (d : decode M.2.1 pc = .ok (.iaload, 1)) (hin : vp_in i 4) (h : S.2.1 39 i.toNatClampNeg = x) (kk : Ev g M (pc + 1) lv (.int x :: st) (hC S) Post) : Ev g M pc lv (.int i :: .ref 59 :: st) (hC S) Post := by subst h; exact ev_iald d rfl hin kk
theorem ldN_MO_nB {k : Nat} {x : Int32} (d : decode M.2.1 pc = .ok (.iaload, 1)) (hk : k < 4) (h : S.2.1 39 k = x) (kk : Ev g M (pc + 1) lv (.int x :: st) (hC S) Post) : Ev g M pc lv (.int (nI k) :: .ref 59 :: st) (hC S) Post := ld_MO_nB d (vp_in_nI hk (by decide)) (by rw [nI_clamp (by omega)]; exact h) kk
theorem as_MO_nB {i : Int32} {x : Int32} (d : decode M.2.1 pc = .ok (.iastore, 1)) (hin : vp_in i 4) (kk : Ev g M (pc + 1) lv st (hC (setA S 39 (upd (S.2.1 39) i.toNatClampNeg x))) Post) : Ev g M pc lv (.int x :: .int i :: .ref 59 :: st) (hC S) Post := ev_iast d rfl hin rfl kk
theorem asN_MO_nB {k : Nat} {x : Int32} (d : decode M.2.1 pc = .ok (.iastore, 1)) (hk : k < 4) (kk : Ev g M (pc + 1) lv st (hC (setA S 39 (upd (S.2.1 39) k x))) Post) : Ev g M pc lv (.int x :: .int (nI k) :: .ref 59 :: st) (hC S) Post := as_MO_nB d (vp_in_nI hk (by decide)) (by rw [nI_clamp (by omega)]; exact kk)
theorem ld_MO_tape {i : Int32} {x : Int32} (d : decode M.2.1 pc = .ok (.iaload, 1)) (hin : vp_in i 200) (h : S.2.1 40 i.toNatClampNeg = x) (kk : Ev g M (pc + 1) lv (.int x :: st) (hC S) Post) : Ev g M pc lv (.int i :: .ref 60 :: st) (hC S) Post := by subst h; exact ev_iald d rfl hin kk
theorem ldN_MO_tape {k : Nat} {x : Int32} (d : decode M.2.1 pc = .ok (.iaload, 1)) (hk : k < 200) (h : S.2.1 40 k = x) (kk : Ev g M (pc + 1) lv (.int x :: st) (hC S) Post) : Ev g M pc lv (.int (nI k) :: .ref 60 :: st) (hC S) Post := ld_MO_tape d (vp_in_nI hk (by decide)) (by rw [nI_clamp (by omega)]; exact h) kk
theorem as_MO_tape {i : Int32} {x : Int32} (d : decode M.2.1 pc = .ok (.iastore, 1)) (hin : vp_in i 200) (kk : Ev g M (pc + 1) lv st (hC (setA S 40 (upd (S.2.1 40) i.toNatClampNeg x))) Post) : Ev g M pc lv (.int x :: .int i :: .ref 60 :: st) (hC S) Post := ev_iast d rfl hin rfl kk
theorem asN_MO_tape {k : Nat} {x : Int32} (d : decode M.2.1 pc = .ok (.iastore, 1)) (hk : k < 200) (kk : Ev g M (pc + 1) lv st (hC (setA S 40 (upd (S.2.1 40) k x))) Post) : Ev g M pc lv (.int x :: .int (nI k) :: .ref 60 :: st) (hC S) Post := as_MO_tape d (vp_in_nI hk (by decide)) (by rw [nI_clamp (by omega)]; exact kk)
theorem ld_MO_weights {i : Int32} {x : Int64} (d : decode M.2.1 pc = .ok (.laload, 1)) (hin : vp_in i 40) (h : S.2.2.2.1 8 i.toNatClampNeg = x) (kk : Ev g M (pc + 1) lv (.long x :: st) (hC S) Post) : Ev g M pc lv (.int i :: .ref 61 :: st) (hC S) Post := by subst h; exact ev_lald d rfl hin kk
theorem ldN_MO_weights {k : Nat} {x : Int64} (d : decode M.2.1 pc = .ok (.laload, 1)) (hk : k < 40) (h : S.2.2.2.1 8 k = x) (kk : Ev g M (pc + 1) lv (.long x :: st) (hC S) Post) : Ev g M pc lv (.int (nI k) :: .ref 61 :: st) (hC S) Post := ld_MO_weights d (vp_in_nI hk (by decide)) (by rw [nI_clamp (by omega)]; exact h) kk
theorem as_MO_weights {i : Int32} {x : Int64} (d : decode M.2.1 pc = .ok (.lastore, 1)) (hin : vp_in i 40) (kk : Ev g M (pc + 1) lv st (hC (setB S 8 (vp_updL (S.2.2.2.1 8) i.toNatClampNeg x))) Post) : Ev g M pc lv (.long x :: .int i :: .ref 61 :: st) (hC S) Post := ev_last d rfl hin rfl kk
theorem asN_MO_weights {k : Nat} {x : Int64} (d : decode M.2.1 pc = .ok (.lastore, 1)) (hk : k < 40) (kk : Ev g M (pc + 1) lv st (hC (setB S 8 (vp_updL (S.2.2.2.1 8) k x))) Post) : Ev g M pc lv (.long x :: .int (nI k) :: .ref 61 :: st) (hC S) Post := as_MO_weights d (vp_in_nI hk (by decide)) (by rw [nI_clamp (by omega)]; exact kk)
theorem ld_MO_owes {i : Int32} {x : Int64} (d : decode M.2.1 pc = .ok (.laload, 1)) (hin : vp_in i 40) (h : S.2.2.2.1 9 i.toNatClampNeg = x) (kk : Ev g M (pc + 1) lv (.long x :: st) (hC S) Post) : Ev g M pc lv (.int i :: .ref 62 :: st) (hC S) Post := by subst h; exact ev_lald d rfl hin kk
theorem ldN_MO_owes {k : Nat} {x : Int64} (d : decode M.2.1 pc = .ok (.laload, 1)) (hk : k < 40) (h : S.2.2.2.1 9 k = x) (kk : Ev g M (pc + 1) lv (.long x :: st) (hC S) Post) : Ev g M pc lv (.int (nI k) :: .ref 62 :: st) (hC S) Post := ld_MO_owes d (vp_in_nI hk (by decide)) (by rw [nI_clamp (by omega)]; exact h) kk
theorem as_MO_owes {i : Int32} {x : Int64} (d : decode M.2.1 pc = .ok (.lastore, 1)) (hin : vp_in i 40) (kk : Ev g M (pc + 1) lv st (hC (setB S 9 (vp_updL (S.2.2.2.1 9) i.toNatClampNeg x))) Post) : Ev g M pc lv (.long x :: .int i :: .ref 62 :: st) (hC S) Post := ev_last d rfl hin rfl kk
theorem asN_MO_owes {k : Nat} {x : Int64} (d : decode M.2.1 pc = .ok (.lastore, 1)) (hk : k < 40) (kk : Ev g M (pc + 1) lv st (hC (setB S 9 (vp_updL (S.2.2.2.1 9) k x))) Post) : Ev g M pc lv (.long x :: .int (nI k) :: .ref 62 :: st) (hC S) Post := as_MO_owes d (vp_in_nI hk (by decide)) (by rw [nI_clamp (by omega)]; exact kk)
theorem ld_MO_checks {i : Int32} {x : Int64} (d : decode M.2.1 pc = .ok (.laload, 1)) (hin : vp_in i 40) (h : S.2.2.2.1 10 i.toNatClampNeg = x) (kk : Ev g M (pc + 1) lv (.long x :: st) (hC S) Post) : Ev g M pc lv (.int i :: .ref 63 :: st) (hC S) Post := by subst h; exact ev_lald d rfl hin kk
theorem ldN_MO_checks {k : Nat} {x : Int64} (d : decode M.2.1 pc = .ok (.laload, 1)) (hk : k < 40) (h : S.2.2.2.1 10 k = x) (kk : Ev g M (pc + 1) lv (.long x :: st) (hC S) Post) : Ev g M pc lv (.int (nI k) :: .ref 63 :: st) (hC S) Post := ld_MO_checks d (vp_in_nI hk (by decide)) (by rw [nI_clamp (by omega)]; exact h) kk
theorem as_MO_checks {i : Int32} {x : Int64} (d : decode M.2.1 pc = .ok (.lastore, 1)) (hin : vp_in i 40) (kk : Ev g M (pc + 1) lv st (hC (setB S 10 (vp_updL (S.2.2.2.1 10) i.toNatClampNeg x))) Post) : Ev g M pc lv (.long x :: .int i :: .ref 63 :: st) (hC S) Post := ev_last d rfl hin rfl kk
theorem asN_MO_checks {k : Nat} {x : Int64} (d : decode M.2.1 pc = .ok (.lastore, 1)) (hk : k < 40) (kk : Ev g M (pc + 1) lv st (hC (setB S 10 (vp_updL (S.2.2.2.1 10) k x))) Post) : Ev g M pc lv (.long x :: .int (nI k) :: .ref 63 :: st) (hC S) Post := as_MO_checks d (vp_in_nI hk (by decide)) (by rw [nI_clamp (by omega)]; exact kk)
theorem ld_MO_offs {i : Int32} {x : Int64} (d : decode M.2.1 pc = .ok (.laload, 1)) (hin : vp_in i 40) (h : S.2.2.2.1 11 i.toNatClampNeg = x) (kk : Ev g M (pc + 1) lv (.long x :: st) (hC S) Post) : Ev g M pc lv (.int i :: .ref 64 :: st) (hC S) Post := by subst h; exact ev_lald d rfl hin kk
theorem ldN_MO_offs {k : Nat} {x : Int64} (d : decode M.2.1 pc = .ok (.laload, 1)) (hk : k < 40) (h : S.2.2.2.1 11 k = x) (kk : Ev g M (pc + 1) lv (.long x :: st) (hC S) Post) : Ev g M pc lv (.int (nI k) :: .ref 64 :: st) (hC S) Post := ld_MO_offs d (vp_in_nI hk (by decide)) (by rw [nI_clamp (by omega)]; exact h) kk
theorem as_MO_offs {i : Int32} {x : Int64} (d : decode M.2.1 pc = .ok (.lastore, 1)) (hin : vp_in i 40) (kk : Ev g M (pc + 1) lv st (hC (setB S 11 (vp_updL (S.2.2.2.1 11) i.toNatClampNeg x))) Post) : Ev g M pc lv (.long x :: .int i :: .ref 64 :: st) (hC S) Post := ev_last d rfl hin rfl kk
theorem asN_MO_offs {k : Nat} {x : Int64} (d : decode M.2.1 pc = .ok (.lastore, 1)) (hk : k < 40) (kk : Ev g M (pc + 1) lv st (hC (setB S 11 (vp_updL (S.2.2.2.1 11) k x))) Post) : Ev g M pc lv (.long x :: .int (nI k) :: .ref 64 :: st) (hC S) Post := as_MO_offs d (vp_in_nI hk (by decide)) (by rw [nI_clamp (by omega)]; exact kk)
theorem ld_MO_rests {i : Int32} {x : Int64} (d : decode M.2.1 pc = .ok (.laload, 1)) (hin : vp_in i 40) (h : S.2.2.2.1 12 i.toNatClampNeg = x) (kk : Ev g M (pc + 1) lv (.long x :: st) (hC S) Post) : Ev g M pc lv (.int i :: .ref 65 :: st) (hC S) Post := by subst h; exact ev_lald d rfl hin kk
theorem ldN_MO_rests {k : Nat} {x : Int64} (d : decode M.2.1 pc = .ok (.laload, 1)) (hk : k < 40) (h : S.2.2.2.1 12 k = x) (kk : Ev g M (pc + 1) lv (.long x :: st) (hC S) Post) : Ev g M pc lv (.int (nI k) :: .ref 65 :: st) (hC S) Post := ld_MO_rests d (vp_in_nI hk (by decide)) (by rw [nI_clamp (by omega)]; exact h) kk
theorem as_MO_rests {i : Int32} {x : Int64} (d : decode M.2.1 pc = .ok (.lastore, 1)) (hin : vp_in i 40) (kk : Ev g M (pc + 1) lv st (hC (setB S 12 (vp_updL (S.2.2.2.1 12) i.toNatClampNeg x))) Post) : Ev g M pc lv (.long x :: .int i :: .ref 65 :: st) (hC S) Post := ev_last d rfl hin rfl kk
theorem asN_MO_rests {k : Nat} {x : Int64} (d : decode M.2.1 pc = .ok (.lastore, 1)) (hk : k < 40) (kk : Ev g M (pc + 1) lv st (hC (setB S 12 (vp_updL (S.2.2.2.1 12) k x))) Post) : Ev g M pc lv (.long x :: .int (nI k) :: .ref 65 :: st) (hC S) Post := as_MO_rests d (vp_in_nI hk (by decide)) (by rw [nI_clamp (by omega)]; exact kk)
theorem ld_MO_quotas {i : Int32} {x : Int64} (d : decode M.2.1 pc = .ok (.laload, 1)) (hin : vp_in i 40) (h : S.2.2.2.1 13 i.toNatClampNeg = x) (kk : Ev g M (pc + 1) lv (.long x :: st) (hC S) Post) : Ev g M pc lv (.int i :: .ref 66 :: st) (hC S) Post := by subst h; exact ev_lald d rfl hin kk
theorem ldN_MO_quotas {k : Nat} {x : Int64} (d : decode M.2.1 pc = .ok (.laload, 1)) (hk : k < 40) (h : S.2.2.2.1 13 k = x) (kk : Ev g M (pc + 1) lv (.long x :: st) (hC S) Post) : Ev g M pc lv (.int (nI k) :: .ref 66 :: st) (hC S) Post := ld_MO_quotas d (vp_in_nI hk (by decide)) (by rw [nI_clamp (by omega)]; exact h) kk
theorem as_MO_quotas {i : Int32} {x : Int64} (d : decode M.2.1 pc = .ok (.lastore, 1)) (hin : vp_in i 40) (kk : Ev g M (pc + 1) lv st (hC (setB S 13 (vp_updL (S.2.2.2.1 13) i.toNatClampNeg x))) Post) : Ev g M pc lv (.long x :: .int i :: .ref 66 :: st) (hC S) Post := ev_last d rfl hin rfl kk
theorem asN_MO_quotas {k : Nat} {x : Int64} (d : decode M.2.1 pc = .ok (.lastore, 1)) (hk : k < 40) (kk : Ev g M (pc + 1) lv st (hC (setB S 13 (vp_updL (S.2.2.2.1 13) k x))) Post) : Ev g M pc lv (.long x :: .int (nI k) :: .ref 66 :: st) (hC S) Post := as_MO_quotas d (vp_in_nI hk (by decide)) (by rw [nI_clamp (by omega)]; exact kk)
theorem ld_MO_can {i : Int32} {x : Int64} (d : decode M.2.1 pc = .ok (.laload, 1)) (hin : vp_in i 40) (h : S.2.2.2.1 14 i.toNatClampNeg = x) (kk : Ev g M (pc + 1) lv (.long x :: st) (hC S) Post) : Ev g M pc lv (.int i :: .ref 67 :: st) (hC S) Post := by subst h; exact ev_lald d rfl hin kk
theorem ldN_MO_can {k : Nat} {x : Int64} (d : decode M.2.1 pc = .ok (.laload, 1)) (hk : k < 40) (h : S.2.2.2.1 14 k = x) (kk : Ev g M (pc + 1) lv (.long x :: st) (hC S) Post) : Ev g M pc lv (.int (nI k) :: .ref 67 :: st) (hC S) Post := ld_MO_can d (vp_in_nI hk (by decide)) (by rw [nI_clamp (by omega)]; exact h) kk
theorem as_MO_can {i : Int32} {x : Int64} (d : decode M.2.1 pc = .ok (.lastore, 1)) (hin : vp_in i 40) (kk : Ev g M (pc + 1) lv st (hC (setB S 14 (vp_updL (S.2.2.2.1 14) i.toNatClampNeg x))) Post) : Ev g M pc lv (.long x :: .int i :: .ref 67 :: st) (hC S) Post := ev_last d rfl hin rfl kk
theorem asN_MO_can {k : Nat} {x : Int64} (d : decode M.2.1 pc = .ok (.lastore, 1)) (hk : k < 40) (kk : Ev g M (pc + 1) lv st (hC (setB S 14 (vp_updL (S.2.2.2.1 14) k x))) Post) : Ev g M pc lv (.long x :: .int (nI k) :: .ref 67 :: st) (hC S) Post := as_MO_can d (vp_in_nI hk (by decide)) (by rw [nI_clamp (by omega)]; exact kk)
theorem ld_MO_given {i : Int32} {x : Int64} (d : decode M.2.1 pc = .ok (.laload, 1)) (hin : vp_in i 40) (h : S.2.2.2.1 15 i.toNatClampNeg = x) (kk : Ev g M (pc + 1) lv (.long x :: st) (hC S) Post) : Ev g M pc lv (.int i :: .ref 68 :: st) (hC S) Post := by subst h; exact ev_lald d rfl hin kk
theorem ldN_MO_given {k : Nat} {x : Int64} (d : decode M.2.1 pc = .ok (.laload, 1)) (hk : k < 40) (h : S.2.2.2.1 15 k = x) (kk : Ev g M (pc + 1) lv (.long x :: st) (hC S) Post) : Ev g M pc lv (.int (nI k) :: .ref 68 :: st) (hC S) Post := ld_MO_given d (vp_in_nI hk (by decide)) (by rw [nI_clamp (by omega)]; exact h) kk
theorem as_MO_given {i : Int32} {x : Int64} (d : decode M.2.1 pc = .ok (.lastore, 1)) (hin : vp_in i 40) (kk : Ev g M (pc + 1) lv st (hC (setB S 15 (vp_updL (S.2.2.2.1 15) i.toNatClampNeg x))) Post) : Ev g M pc lv (.long x :: .int i :: .ref 68 :: st) (hC S) Post := ev_last d rfl hin rfl kk
theorem asN_MO_given {k : Nat} {x : Int64} (d : decode M.2.1 pc = .ok (.lastore, 1)) (hk : k < 40) (kk : Ev g M (pc + 1) lv st (hC (setB S 15 (vp_updL (S.2.2.2.1 15) k x))) Post) : Ev g M pc lv (.long x :: .int (nI k) :: .ref 68 :: st) (hC S) Post := as_MO_given d (vp_in_nI hk (by decide)) (by rw [nI_clamp (by omega)]; exact kk)
theorem ld_MO_left {i : Int32} {x : Int64} (d : decode M.2.1 pc = .ok (.laload, 1)) (hin : vp_in i 40) (h : S.2.2.2.1 16 i.toNatClampNeg = x) (kk : Ev g M (pc + 1) lv (.long x :: st) (hC S) Post) : Ev g M pc lv (.int i :: .ref 69 :: st) (hC S) Post := by subst h; exact ev_lald d rfl hin kk
theorem ldN_MO_left {k : Nat} {x : Int64} (d : decode M.2.1 pc = .ok (.laload, 1)) (hk : k < 40) (h : S.2.2.2.1 16 k = x) (kk : Ev g M (pc + 1) lv (.long x :: st) (hC S) Post) : Ev g M pc lv (.int (nI k) :: .ref 69 :: st) (hC S) Post := ld_MO_left d (vp_in_nI hk (by decide)) (by rw [nI_clamp (by omega)]; exact h) kk
theorem as_MO_left {i : Int32} {x : Int64} (d : decode M.2.1 pc = .ok (.lastore, 1)) (hin : vp_in i 40) (kk : Ev g M (pc + 1) lv st (hC (setB S 16 (vp_updL (S.2.2.2.1 16) i.toNatClampNeg x))) Post) : Ev g M pc lv (.long x :: .int i :: .ref 69 :: st) (hC S) Post := ev_last d rfl hin rfl kk
theorem asN_MO_left {k : Nat} {x : Int64} (d : decode M.2.1 pc = .ok (.lastore, 1)) (hk : k < 40) (kk : Ev g M (pc + 1) lv st (hC (setB S 16 (vp_updL (S.2.2.2.1 16) k x))) Post) : Ev g M pc lv (.long x :: .int (nI k) :: .ref 69 :: st) (hC S) Post := as_MO_left d (vp_in_nI hk (by decide)) (by rw [nI_clamp (by omega)]; exact kk)
theorem ld_MO_dFrom {i : Int32} {x : Int32} (d : decode M.2.1 pc = .ok (.iaload, 1)) (hin : vp_in i 60) (h : S.2.1 41 i.toNatClampNeg = x) (kk : Ev g M (pc + 1) lv (.int x :: st) (hC S) Post) : Ev g M pc lv (.int i :: .ref 70 :: st) (hC S) Post := by subst h; exact ev_iald d rfl hin kk
theorem ldN_MO_dFrom {k : Nat} {x : Int32} (d : decode M.2.1 pc = .ok (.iaload, 1)) (hk : k < 60) (h : S.2.1 41 k = x) (kk : Ev g M (pc + 1) lv (.int x :: st) (hC S) Post) : Ev g M pc lv (.int (nI k) :: .ref 70 :: st) (hC S) Post := ld_MO_dFrom d (vp_in_nI hk (by decide)) (by rw [nI_clamp (by omega)]; exact h) kk
theorem as_MO_dFrom {i : Int32} {x : Int32} (d : decode M.2.1 pc = .ok (.iastore, 1)) (hin : vp_in i 60) (kk : Ev g M (pc + 1) lv st (hC (setA S 41 (upd (S.2.1 41) i.toNatClampNeg x))) Post) : Ev g M pc lv (.int x :: .int i :: .ref 70 :: st) (hC S) Post := ev_iast d rfl hin rfl kk
theorem asN_MO_dFrom {k : Nat} {x : Int32} (d : decode M.2.1 pc = .ok (.iastore, 1)) (hk : k < 60) (kk : Ev g M (pc + 1) lv st (hC (setA S 41 (upd (S.2.1 41) k x))) Post) : Ev g M pc lv (.int x :: .int (nI k) :: .ref 70 :: st) (hC S) Post := as_MO_dFrom d (vp_in_nI hk (by decide)) (by rw [nI_clamp (by omega)]; exact kk)
theorem ld_MO_dTo {i : Int32} {x : Int32} (d : decode M.2.1 pc = .ok (.iaload, 1)) (hin : vp_in i 60) (h : S.2.1 42 i.toNatClampNeg = x) (kk : Ev g M (pc + 1) lv (.int x :: st) (hC S) Post) : Ev g M pc lv (.int i :: .ref 71 :: st) (hC S) Post := by subst h; exact ev_iald d rfl hin kk
theorem ldN_MO_dTo {k : Nat} {x : Int32} (d : decode M.2.1 pc = .ok (.iaload, 1)) (hk : k < 60) (h : S.2.1 42 k = x) (kk : Ev g M (pc + 1) lv (.int x :: st) (hC S) Post) : Ev g M pc lv (.int (nI k) :: .ref 71 :: st) (hC S) Post := ld_MO_dTo d (vp_in_nI hk (by decide)) (by rw [nI_clamp (by omega)]; exact h) kk
theorem as_MO_dTo {i : Int32} {x : Int32} (d : decode M.2.1 pc = .ok (.iastore, 1)) (hin : vp_in i 60) (kk : Ev g M (pc + 1) lv st (hC (setA S 42 (upd (S.2.1 42) i.toNatClampNeg x))) Post) : Ev g M pc lv (.int x :: .int i :: .ref 71 :: st) (hC S) Post := ev_iast d rfl hin rfl kk
theorem asN_MO_dTo {k : Nat} {x : Int32} (d : decode M.2.1 pc = .ok (.iastore, 1)) (hk : k < 60) (kk : Ev g M (pc + 1) lv st (hC (setA S 42 (upd (S.2.1 42) k x))) Post) : Ev g M pc lv (.int x :: .int (nI k) :: .ref 71 :: st) (hC S) Post := as_MO_dTo d (vp_in_nI hk (by decide)) (by rw [nI_clamp (by omega)]; exact kk)
theorem ld_MO_dPart {i : Int32} {x : Int32} (d : decode M.2.1 pc = .ok (.iaload, 1)) (hin : vp_in i 60) (h : S.2.1 43 i.toNatClampNeg = x) (kk : Ev g M (pc + 1) lv (.int x :: st) (hC S) Post) : Ev g M pc lv (.int i :: .ref 72 :: st) (hC S) Post := by subst h; exact ev_iald d rfl hin kk
theorem ldN_MO_dPart {k : Nat} {x : Int32} (d : decode M.2.1 pc = .ok (.iaload, 1)) (hk : k < 60) (h : S.2.1 43 k = x) (kk : Ev g M (pc + 1) lv (.int x :: st) (hC S) Post) : Ev g M pc lv (.int (nI k) :: .ref 72 :: st) (hC S) Post := ld_MO_dPart d (vp_in_nI hk (by decide)) (by rw [nI_clamp (by omega)]; exact h) kk
theorem as_MO_dPart {i : Int32} {x : Int32} (d : decode M.2.1 pc = .ok (.iastore, 1)) (hin : vp_in i 60) (kk : Ev g M (pc + 1) lv st (hC (setA S 43 (upd (S.2.1 43) i.toNatClampNeg x))) Post) : Ev g M pc lv (.int x :: .int i :: .ref 72 :: st) (hC S) Post := ev_iast d rfl hin rfl kk
theorem asN_MO_dPart {k : Nat} {x : Int32} (d : decode M.2.1 pc = .ok (.iastore, 1)) (hk : k < 60) (kk : Ev g M (pc + 1) lv st (hC (setA S 43 (upd (S.2.1 43) k x))) Post) : Ev g M pc lv (.int x :: .int (nI k) :: .ref 72 :: st) (hC S) Post := as_MO_dPart d (vp_in_nI hk (by decide)) (by rw [nI_clamp (by omega)]; exact kk)
theorem ld_MO_vFarmer {i : Int32} {x : Int32} (d : decode M.2.1 pc = .ok (.iaload, 1)) (hin : vp_in i 16) (h : S.2.1 44 i.toNatClampNeg = x) (kk : Ev g M (pc + 1) lv (.int x :: st) (hC S) Post) : Ev g M pc lv (.int i :: .ref 73 :: st) (hC S) Post := by subst h; exact ev_iald d rfl hin kk
theorem ldN_MO_vFarmer {k : Nat} {x : Int32} (d : decode M.2.1 pc = .ok (.iaload, 1)) (hk : k < 16) (h : S.2.1 44 k = x) (kk : Ev g M (pc + 1) lv (.int x :: st) (hC S) Post) : Ev g M pc lv (.int (nI k) :: .ref 73 :: st) (hC S) Post := ld_MO_vFarmer d (vp_in_nI hk (by decide)) (by rw [nI_clamp (by omega)]; exact h) kk
theorem as_MO_vFarmer {i : Int32} {x : Int32} (d : decode M.2.1 pc = .ok (.iastore, 1)) (hin : vp_in i 16) (kk : Ev g M (pc + 1) lv st (hC (setA S 44 (upd (S.2.1 44) i.toNatClampNeg x))) Post) : Ev g M pc lv (.int x :: .int i :: .ref 73 :: st) (hC S) Post := ev_iast d rfl hin rfl kk
theorem asN_MO_vFarmer {k : Nat} {x : Int32} (d : decode M.2.1 pc = .ok (.iastore, 1)) (hk : k < 16) (kk : Ev g M (pc + 1) lv st (hC (setA S 44 (upd (S.2.1 44) k x))) Post) : Ev g M pc lv (.int x :: .int (nI k) :: .ref 73 :: st) (hC S) Post := as_MO_vFarmer d (vp_in_nI hk (by decide)) (by rw [nI_clamp (by omega)]; exact kk)
theorem ld_MO_vHour {i : Int32} {x : Int32} (d : decode M.2.1 pc = .ok (.iaload, 1)) (hin : vp_in i 16) (h : S.2.1 45 i.toNatClampNeg = x) (kk : Ev g M (pc + 1) lv (.int x :: st) (hC S) Post) : Ev g M pc lv (.int i :: .ref 74 :: st) (hC S) Post := by subst h; exact ev_iald d rfl hin kk
theorem ldN_MO_vHour {k : Nat} {x : Int32} (d : decode M.2.1 pc = .ok (.iaload, 1)) (hk : k < 16) (h : S.2.1 45 k = x) (kk : Ev g M (pc + 1) lv (.int x :: st) (hC S) Post) : Ev g M pc lv (.int (nI k) :: .ref 74 :: st) (hC S) Post := ld_MO_vHour d (vp_in_nI hk (by decide)) (by rw [nI_clamp (by omega)]; exact h) kk
theorem as_MO_vHour {i : Int32} {x : Int32} (d : decode M.2.1 pc = .ok (.iastore, 1)) (hin : vp_in i 16) (kk : Ev g M (pc + 1) lv st (hC (setA S 45 (upd (S.2.1 45) i.toNatClampNeg x))) Post) : Ev g M pc lv (.int x :: .int i :: .ref 74 :: st) (hC S) Post := ev_iast d rfl hin rfl kk
theorem asN_MO_vHour {k : Nat} {x : Int32} (d : decode M.2.1 pc = .ok (.iastore, 1)) (hk : k < 16) (kk : Ev g M (pc + 1) lv st (hC (setA S 45 (upd (S.2.1 45) k x))) Post) : Ev g M pc lv (.int x :: .int (nI k) :: .ref 74 :: st) (hC S) Post := as_MO_vHour d (vp_in_nI hk (by decide)) (by rw [nI_clamp (by omega)]; exact kk)
theorem ld_MO_place {i : Int32} {x : Int32} (d : decode M.2.1 pc = .ok (.iaload, 1)) (hin : vp_in i 17) (h : S.2.1 46 i.toNatClampNeg = x) (kk : Ev g M (pc + 1) lv (.int x :: st) (hC S) Post) : Ev g M pc lv (.int i :: .ref 75 :: st) (hC S) Post := by subst h; exact ev_iald d rfl hin kk
theorem ldN_MO_place {k : Nat} {x : Int32} (d : decode M.2.1 pc = .ok (.iaload, 1)) (hk : k < 17) (h : S.2.1 46 k = x) (kk : Ev g M (pc + 1) lv (.int x :: st) (hC S) Post) : Ev g M pc lv (.int (nI k) :: .ref 75 :: st) (hC S) Post := ld_MO_place d (vp_in_nI hk (by decide)) (by rw [nI_clamp (by omega)]; exact h) kk
theorem as_MO_place {i : Int32} {x : Int32} (d : decode M.2.1 pc = .ok (.iastore, 1)) (hin : vp_in i 17) (kk : Ev g M (pc + 1) lv st (hC (setA S 46 (upd (S.2.1 46) i.toNatClampNeg x))) Post) : Ev g M pc lv (.int x :: .int i :: .ref 75 :: st) (hC S) Post := ev_iast d rfl hin rfl kk
theorem asN_MO_place {k : Nat} {x : Int32} (d : decode M.2.1 pc = .ok (.iastore, 1)) (hk : k < 17) (kk : Ev g M (pc + 1) lv st (hC (setA S 46 (upd (S.2.1 46) k x))) Post) : Ev g M pc lv (.int x :: .int (nI k) :: .ref 75 :: st) (hC S) Post := as_MO_place d (vp_in_nI hk (by decide)) (by rw [nI_clamp (by omega)]; exact kk)
theorem ld_MO_early {i : Int32} {x : Int32} (d : decode M.2.1 pc = .ok (.iaload, 1)) (hin : vp_in i 9826) (h : S.2.1 47 i.toNatClampNeg = x) (kk : Ev g M (pc + 1) lv (.int x :: st) (hC S) Post) : Ev g M pc lv (.int i :: .ref 76 :: st) (hC S) Post := by subst h; exact ev_iald d rfl hin kk
theorem ldN_MO_early {k : Nat} {x : Int32} (d : decode M.2.1 pc = .ok (.iaload, 1)) (hk : k < 9826) (h : S.2.1 47 k = x) (kk : Ev g M (pc + 1) lv (.int x :: st) (hC S) Post) : Ev g M pc lv (.int (nI k) :: .ref 76 :: st) (hC S) Post := ld_MO_early d (vp_in_nI hk (by decide)) (by rw [nI_clamp (by omega)]; exact h) kk
theorem as_MO_early {i : Int32} {x : Int32} (d : decode M.2.1 pc = .ok (.iastore, 1)) (hin : vp_in i 9826) (kk : Ev g M (pc + 1) lv st (hC (setA S 47 (upd (S.2.1 47) i.toNatClampNeg x))) Post) : Ev g M pc lv (.int x :: .int i :: .ref 76 :: st) (hC S) Post := ev_iast d rfl hin rfl kk
theorem asN_MO_early {k : Nat} {x : Int32} (d : decode M.2.1 pc = .ok (.iastore, 1)) (hk : k < 9826) (kk : Ev g M (pc + 1) lv st (hC (setA S 47 (upd (S.2.1 47) k x))) Post) : Ev g M pc lv (.int x :: .int (nI k) :: .ref 76 :: st) (hC S) Post := as_MO_early d (vp_in_nI hk (by decide)) (by rw [nI_clamp (by omega)]; exact kk)
end EVL
end
section
theorem Cok_0 : Cok 0 RX0 TX0 6 := ⟨rfl, fun w hw => ts_in ((by decide +kernel : ∀ w ∈ u_ws RX0 TX0 6, w ∈ lw_tbl) w hw) ((by decide +kernel : ∀ w ∈ u_ws RX0 TX0 6, goodWord w = true) w hw), tyX0, tyX0_ok, nmX0⟩
theorem Cok_1 : Cok 1 RX1 TX1 11 := ⟨rfl, fun w hw => ts_in ((by decide +kernel : ∀ w ∈ u_ws RX1 TX1 11, w ∈ lw_tbl) w hw) ((by decide +kernel : ∀ w ∈ u_ws RX1 TX1 11, goodWord w = true) w hw), tyX1, tyX1_ok, nmX1⟩
theorem Cok_2 : Cok 2 RX2 TX2 5 := ⟨rfl, fun w hw => ts_in ((by decide +kernel : ∀ w ∈ u_ws RX2 TX2 5, w ∈ lw_tbl) w hw) ((by decide +kernel : ∀ w ∈ u_ws RX2 TX2 5, goodWord w = true) w hw), tyX2, tyX2_ok, nmX2⟩
theorem Cok_3 : Cok 3 RX3 TX3 4 := ⟨rfl, fun w hw => ts_in ((by decide +kernel : ∀ w ∈ u_ws RX3 TX3 4, w ∈ lw_tbl) w hw) ((by decide +kernel : ∀ w ∈ u_ws RX3 TX3 4, goodWord w = true) w hw), tyX3, tyX3_ok, nmX3⟩
theorem Cok_4 : Cok 4 RX4 TX4 4 := ⟨rfl, fun w hw => ts_in ((by decide +kernel : ∀ w ∈ u_ws RX4 TX4 4, w ∈ lw_tbl) w hw) ((by decide +kernel : ∀ w ∈ u_ws RX4 TX4 4, goodWord w = true) w hw), tyX4, tyX4_ok, nmX4⟩
theorem Cok_5 : Cok 5 RX5 TX5 5 := ⟨rfl, fun w hw => ts_in ((by decide +kernel : ∀ w ∈ u_ws RX5 TX5 5, w ∈ lw_tbl) w hw) ((by decide +kernel : ∀ w ∈ u_ws RX5 TX5 5, goodWord w = true) w hw), tyX5, tyX5_ok, nmX5⟩
theorem Cok_6 : Cok 6 RX6 TX6 8 := ⟨rfl, fun w hw => ts_in ((by decide +kernel : ∀ w ∈ u_ws RX6 TX6 8, w ∈ lw_tbl) w hw) ((by decide +kernel : ∀ w ∈ u_ws RX6 TX6 8, goodWord w = true) w hw), tyX6, tyX6_ok, nmX6⟩
theorem Cok_7 : Cok 7 RX7 TX7 2 := ⟨rfl, fun w hw => ts_in ((by decide +kernel : ∀ w ∈ u_ws RX7 TX7 2, w ∈ lw_tbl) w hw) ((by decide +kernel : ∀ w ∈ u_ws RX7 TX7 2, goodWord w = true) w hw), tyX7, tyX7_ok, nmX7⟩
theorem Cok_8 : Cok 8 RX8 TX8 5 := ⟨rfl, fun w hw => ts_in ((by decide +kernel : ∀ w ∈ u_ws RX8 TX8 5, w ∈ lw_tbl) w hw) ((by decide +kernel : ∀ w ∈ u_ws RX8 TX8 5, goodWord w = true) w hw), tyX8, tyX8_ok, nmX8⟩
theorem Cok_9 : Cok 9 RX9 TX9 12 := ⟨rfl, fun w hw => ts_in ((by decide +kernel : ∀ w ∈ u_ws RX9 TX9 12, w ∈ lw_tbl) w hw) ((by decide +kernel : ∀ w ∈ u_ws RX9 TX9 12, goodWord w = true) w hw), tyX9, tyX9_ok, nmX9⟩
theorem Cok_10 : Cok 10 RX10 TX10 53 := ⟨rfl, fun w hw => ts_in ((by decide +kernel : ∀ w ∈ u_ws RX10 TX10 53, w ∈ lw_tbl) w hw) ((by decide +kernel : ∀ w ∈ u_ws RX10 TX10 53, goodWord w = true) w hw), tyX10, tyX10_ok, nmX10⟩
theorem Fl_X0_15 : Fl RX0 15 0 1 := Fl.of Cok_0 (by decide) (List.mem_of_getElem? (i := 150) (by decide +kernel))
theorem Fl_X0_18 : Fl RX0 18 0 2 := Fl.of Cok_0 (by decide) (List.mem_of_getElem? (i := 152) (by decide +kernel))
theorem Fl_X0_21 : Fl RX0 21 0 3 := Fl.of Cok_0 (by decide) (List.mem_of_getElem? (i := 154) (by decide +kernel))
theorem Fl_X0_24 : Fl RX0 24 0 4 := Fl.of Cok_0 (by decide) (List.mem_of_getElem? (i := 156) (by decide +kernel))
theorem Fp_X0_24 : Fp RX0 24 0 4 .int := Fp.of Cok_0 (by decide) (List.mem_of_getElem? (i := 156) (by decide +kernel)) rfl (by decide +kernel)
theorem Fl_X0_28 : Fl RX0 28 0 5 := Fl.of Cok_0 (by decide) (List.mem_of_getElem? (i := 159) (by decide +kernel))
theorem Fp_X0_28 : Fp RX0 28 0 5 .int := Fp.of Cok_0 (by decide) (List.mem_of_getElem? (i := 159) (by decide +kernel)) rfl (by decide +kernel)
theorem Fl_X0_9 : Fl RX0 9 0 0 := Fl.of Cok_0 (by decide) (List.mem_of_getElem? (i := 148) (by decide +kernel))
theorem Fl_X1_103 : Fl RX1 103 1 8 := Fl.of Cok_1 (by decide) (List.mem_of_getElem? (i := 210) (by decide +kernel))
theorem Fp_X1_103 : Fp RX1 103 1 8 .long := Fp.of Cok_1 (by decide) (List.mem_of_getElem? (i := 210) (by decide +kernel)) rfl (by decide +kernel)
theorem Fl_X1_107 : Fl RX1 107 1 9 := Fl.of Cok_1 (by decide) (List.mem_of_getElem? (i := 212) (by decide +kernel))
theorem Fp_X1_107 : Fp RX1 107 1 9 .long := Fp.of Cok_1 (by decide) (List.mem_of_getElem? (i := 212) (by decide +kernel)) rfl (by decide +kernel)
theorem Fl_X1_134 : Fl RX1 134 1 10 := Fl.of Cok_1 (by decide) (List.mem_of_getElem? (i := 213) (by decide +kernel))
theorem Fp_X1_134 : Fp RX1 134 1 10 .long := Fp.of Cok_1 (by decide) (List.mem_of_getElem? (i := 213) (by decide +kernel)) rfl (by decide +kernel)
theorem Fl_X1_15 : Fl RX1 15 1 1 := Fl.of Cok_1 (by decide) (List.mem_of_getElem? (i := 198) (by decide +kernel))
theorem Fl_X1_18 : Fl RX1 18 1 2 := Fl.of Cok_1 (by decide) (List.mem_of_getElem? (i := 200) (by decide +kernel))
theorem Fl_X1_21 : Fl RX1 21 1 3 := Fl.of Cok_1 (by decide) (List.mem_of_getElem? (i := 202) (by decide +kernel))
theorem Fl_X1_24 : Fl RX1 24 1 4 := Fl.of Cok_1 (by decide) (List.mem_of_getElem? (i := 203) (by decide +kernel))
theorem Fl_X1_27 : Fl RX1 27 1 5 := Fl.of Cok_1 (by decide) (List.mem_of_getElem? (i := 205) (by decide +kernel))
theorem Fl_X1_30 : Fl RX1 30 1 6 := Fl.of Cok_1 (by decide) (List.mem_of_getElem? (i := 206) (by decide +kernel))
theorem Fl_X1_33 : Fl RX1 33 1 7 := Fl.of Cok_1 (by decide) (List.mem_of_getElem? (i := 208) (by decide +kernel))
theorem Fl_X1_9 : Fl RX1 9 1 0 := Fl.of Cok_1 (by decide) (List.mem_of_getElem? (i := 196) (by decide +kernel))
theorem Fl_X2_15 : Fl RX2 15 2 1 := Fl.of Cok_2 (by decide) (List.mem_of_getElem? (i := 341) (by decide +kernel))
theorem Fp_X2_15 : Fp RX2 15 2 1 (.object "MillFarmers$Terms") := Fp.of Cok_2 (by decide) (List.mem_of_getElem? (i := 341) (by decide +kernel)) rfl (by decide +kernel)
theorem Fl_X2_24 : Fl RX2 24 2 4 := Fl.of Cok_2 (by decide) (List.mem_of_getElem? (i := 344) (by decide +kernel))
theorem Fp_X2_24 : Fp RX2 24 2 4 .int := Fp.of Cok_2 (by decide) (List.mem_of_getElem? (i := 344) (by decide +kernel)) rfl (by decide +kernel)
theorem Fl_X2_31 : Fl RX2 31 2 2 := Fl.of Cok_2 (by decide) (List.mem_of_getElem? (i := 342) (by decide +kernel))
theorem Fp_X2_31 : Fp RX2 31 2 2 .int := Fp.of Cok_2 (by decide) (List.mem_of_getElem? (i := 342) (by decide +kernel)) rfl (by decide +kernel)
theorem Fl_X2_38 : Fl RX2 38 2 3 := Fl.of Cok_2 (by decide) (List.mem_of_getElem? (i := 343) (by decide +kernel))
theorem Fp_X2_38 : Fp RX2 38 2 3 .int := Fp.of Cok_2 (by decide) (List.mem_of_getElem? (i := 343) (by decide +kernel)) rfl (by decide +kernel)
theorem Fl_X2_9 : Fl RX2 9 2 0 := Fl.of Cok_2 (by decide) (List.mem_of_getElem? (i := 340) (by decide +kernel))
theorem Fl_X3_15 : Fl RX3 15 3 1 := Fl.of Cok_3 (by decide) (List.mem_of_getElem? (i := 126) (by decide +kernel))
theorem Fl_X3_18 : Fl RX3 18 3 2 := Fl.of Cok_3 (by decide) (List.mem_of_getElem? (i := 128) (by decide +kernel))
theorem Fl_X3_21 : Fl RX3 21 3 3 := Fl.of Cok_3 (by decide) (List.mem_of_getElem? (i := 130) (by decide +kernel))
theorem Fp_X3_21 : Fp RX3 21 3 3 .int := Fp.of Cok_3 (by decide) (List.mem_of_getElem? (i := 130) (by decide +kernel)) rfl (by decide +kernel)
theorem Fl_X3_9 : Fl RX3 9 3 0 := Fl.of Cok_3 (by decide) (List.mem_of_getElem? (i := 124) (by decide +kernel))
theorem Fl_X4_15 : Fl RX4 15 4 1 := Fl.of Cok_4 (by decide) (List.mem_of_getElem? (i := 100) (by decide +kernel))
theorem Fl_X4_18 : Fl RX4 18 4 2 := Fl.of Cok_4 (by decide) (List.mem_of_getElem? (i := 102) (by decide +kernel))
theorem Fl_X4_21 : Fl RX4 21 4 3 := Fl.of Cok_4 (by decide) (List.mem_of_getElem? (i := 105) (by decide +kernel))
theorem Fp_X4_21 : Fp RX4 21 4 3 .int := Fp.of Cok_4 (by decide) (List.mem_of_getElem? (i := 105) (by decide +kernel)) rfl (by decide +kernel)
theorem Fl_X4_9 : Fl RX4 9 4 0 := Fl.of Cok_4 (by decide) (List.mem_of_getElem? (i := 97) (by decide +kernel))
theorem Fl_X5_15 : Fl RX5 15 5 1 := Fl.of Cok_5 (by decide) (List.mem_of_getElem? (i := 246) (by decide +kernel))
theorem Fl_X5_18 : Fl RX5 18 5 2 := Fl.of Cok_5 (by decide) (List.mem_of_getElem? (i := 247) (by decide +kernel))
theorem Fl_X5_21 : Fl RX5 21 5 3 := Fl.of Cok_5 (by decide) (List.mem_of_getElem? (i := 248) (by decide +kernel))
theorem Fp_X5_21 : Fp RX5 21 5 3 .int := Fp.of Cok_5 (by decide) (List.mem_of_getElem? (i := 248) (by decide +kernel)) rfl (by decide +kernel)
theorem Fl_X5_25 : Fl RX5 25 5 4 := Fl.of Cok_5 (by decide) (List.mem_of_getElem? (i := 250) (by decide +kernel))
theorem Fp_X5_25 : Fp RX5 25 5 4 .int := Fp.of Cok_5 (by decide) (List.mem_of_getElem? (i := 250) (by decide +kernel)) rfl (by decide +kernel)
theorem Fl_X5_9 : Fl RX5 9 5 0 := Fl.of Cok_5 (by decide) (List.mem_of_getElem? (i := 245) (by decide +kernel))
theorem Fl_X6_15 : Fl RX6 15 6 1 := Fl.of Cok_6 (by decide) (List.mem_of_getElem? (i := 270) (by decide +kernel))
theorem Fl_X6_18 : Fl RX6 18 6 2 := Fl.of Cok_6 (by decide) (List.mem_of_getElem? (i := 271) (by decide +kernel))
theorem Fl_X6_21 : Fl RX6 21 6 3 := Fl.of Cok_6 (by decide) (List.mem_of_getElem? (i := 272) (by decide +kernel))
theorem Fl_X6_24 : Fl RX6 24 6 4 := Fl.of Cok_6 (by decide) (List.mem_of_getElem? (i := 273) (by decide +kernel))
theorem Fp_X6_24 : Fp RX6 24 6 4 .int := Fp.of Cok_6 (by decide) (List.mem_of_getElem? (i := 273) (by decide +kernel)) rfl (by decide +kernel)
theorem Fl_X6_28 : Fl RX6 28 6 5 := Fl.of Cok_6 (by decide) (List.mem_of_getElem? (i := 275) (by decide +kernel))
theorem Fp_X6_28 : Fp RX6 28 6 5 .int := Fp.of Cok_6 (by decide) (List.mem_of_getElem? (i := 275) (by decide +kernel)) rfl (by decide +kernel)
theorem Fl_X6_31 : Fl RX6 31 6 6 := Fl.of Cok_6 (by decide) (List.mem_of_getElem? (i := 276) (by decide +kernel))
theorem Fp_X6_31 : Fp RX6 31 6 6 .int := Fp.of Cok_6 (by decide) (List.mem_of_getElem? (i := 276) (by decide +kernel)) rfl (by decide +kernel)
theorem Fl_X6_34 : Fl RX6 34 6 7 := Fl.of Cok_6 (by decide) (List.mem_of_getElem? (i := 277) (by decide +kernel))
theorem Fp_X6_34 : Fp RX6 34 6 7 .int := Fp.of Cok_6 (by decide) (List.mem_of_getElem? (i := 277) (by decide +kernel)) rfl (by decide +kernel)
theorem Fl_X6_9 : Fl RX6 9 6 0 := Fl.of Cok_6 (by decide) (List.mem_of_getElem? (i := 269) (by decide +kernel))
theorem Fl_X7_15 : Fl RX7 15 7 1 := Fl.of Cok_7 (by decide) (List.mem_of_getElem? (i := 182) (by decide +kernel))
theorem Fp_X7_15 : Fp RX7 15 7 1 .int := Fp.of Cok_7 (by decide) (List.mem_of_getElem? (i := 182) (by decide +kernel)) rfl (by decide +kernel)
theorem Fl_X7_9 : Fl RX7 9 7 0 := Fl.of Cok_7 (by decide) (List.mem_of_getElem? (i := 180) (by decide +kernel))
theorem Fl_X8_15 : Fl RX8 15 8 1 := Fl.of Cok_8 (by decide) (List.mem_of_getElem? (i := 315) (by decide +kernel))
theorem Fl_X8_18 : Fl RX8 18 8 2 := Fl.of Cok_8 (by decide) (List.mem_of_getElem? (i := 316) (by decide +kernel))
theorem Fl_X8_34 : Fl RX8 34 8 3 := Fl.of Cok_8 (by decide) (List.mem_of_getElem? (i := 317) (by decide +kernel))
theorem Fp_X8_34 : Fp RX8 34 8 3 .int := Fp.of Cok_8 (by decide) (List.mem_of_getElem? (i := 317) (by decide +kernel)) rfl (by decide +kernel)
theorem Fl_X8_38 : Fl RX8 38 8 4 := Fl.of Cok_8 (by decide) (List.mem_of_getElem? (i := 320) (by decide +kernel))
theorem Fp_X8_38 : Fp RX8 38 8 4 .int := Fp.of Cok_8 (by decide) (List.mem_of_getElem? (i := 320) (by decide +kernel)) rfl (by decide +kernel)
theorem Fl_X8_9 : Fl RX8 9 8 0 := Fl.of Cok_8 (by decide) (List.mem_of_getElem? (i := 312) (by decide +kernel))
theorem Fl_X9_10 : Fl RX9 10 9 0 := Fl.of Cok_9 (by decide) (List.mem_of_getElem? (i := 356) (by decide +kernel))
theorem Fl_X9_19 : Fl RX9 19 9 1 := Fl.of Cok_9 (by decide) (List.mem_of_getElem? (i := 357) (by decide +kernel))
theorem Fl_X9_26 : Fl RX9 26 9 2 := Fl.of Cok_9 (by decide) (List.mem_of_getElem? (i := 358) (by decide +kernel))
theorem Fl_X9_33 : Fl RX9 33 9 3 := Fl.of Cok_9 (by decide) (List.mem_of_getElem? (i := 359) (by decide +kernel))
theorem Fl_X9_40 : Fl RX9 40 9 5 := Fl.of Cok_9 (by decide) (List.mem_of_getElem? (i := 361) (by decide +kernel))
theorem Fl_X9_47 : Fl RX9 47 9 6 := Fl.of Cok_9 (by decide) (List.mem_of_getElem? (i := 362) (by decide +kernel))
theorem Fl_X9_54 : Fl RX9 54 9 7 := Fl.of Cok_9 (by decide) (List.mem_of_getElem? (i := 363) (by decide +kernel))
theorem Fl_X9_61 : Fl RX9 61 9 8 := Fl.of Cok_9 (by decide) (List.mem_of_getElem? (i := 364) (by decide +kernel))
theorem Fp_X9_61 : Fp RX9 61 9 8 (.object "MillFarmers$Terms") := Fp.of Cok_9 (by decide) (List.mem_of_getElem? (i := 364) (by decide +kernel)) rfl (by decide +kernel)
theorem Fl_X9_65 : Fl RX9 65 9 9 := Fl.of Cok_9 (by decide) (List.mem_of_getElem? (i := 365) (by decide +kernel))
theorem Fp_X9_65 : Fp RX9 65 9 9 (.object "MillFarmers$Terms") := Fp.of Cok_9 (by decide) (List.mem_of_getElem? (i := 365) (by decide +kernel)) rfl (by decide +kernel)
theorem Fl_X9_73 : Fl RX9 73 9 4 := Fl.of Cok_9 (by decide) (List.mem_of_getElem? (i := 360) (by decide +kernel))
theorem Fl_X9_77 : Fl RX9 77 9 10 := Fl.of Cok_9 (by decide) (List.mem_of_getElem? (i := 366) (by decide +kernel))
theorem Fp_X9_77 : Fp RX9 77 9 10 .int := Fp.of Cok_9 (by decide) (List.mem_of_getElem? (i := 366) (by decide +kernel)) rfl (by decide +kernel)
theorem Fl_X9_81 : Fl RX9 81 9 11 := Fl.of Cok_9 (by decide) (List.mem_of_getElem? (i := 367) (by decide +kernel))
theorem Fp_X9_81 : Fp RX9 81 9 11 .int := Fp.of Cok_9 (by decide) (List.mem_of_getElem? (i := 367) (by decide +kernel)) rfl (by decide +kernel)
theorem Fl_X10_102 : Fl RX10 102 10 46 := Fl.of Cok_10 (by decide) (List.mem_of_getElem? (i := 780) (by decide +kernel))
theorem Fl_X10_105 : Fl RX10 105 10 48 := Fl.of Cok_10 (by decide) (List.mem_of_getElem? (i := 782) (by decide +kernel))
theorem Fl_X10_108 : Fl RX10 108 10 49 := Fl.of Cok_10 (by decide) (List.mem_of_getElem? (i := 783) (by decide +kernel))
theorem Fl_X10_111 : Fl RX10 111 10 51 := Fl.of Cok_10 (by decide) (List.mem_of_getElem? (i := 785) (by decide +kernel))
theorem Fl_X10_114 : Fl RX10 114 10 52 := Fl.of Cok_10 (by decide) (List.mem_of_getElem? (i := 786) (by decide +kernel))
theorem Fl_X10_117 : Fl RX10 117 10 0 := Fl.of Cok_10 (by decide) (List.mem_of_getElem? (i := 734) (by decide +kernel))
theorem Fp_X10_117 : Fp RX10 117 10 0 .int := Fp.of Cok_10 (by decide) (List.mem_of_getElem? (i := 734) (by decide +kernel)) rfl (by decide +kernel)
theorem Fl_X10_120 : Fl RX10 120 10 1 := Fl.of Cok_10 (by decide) (List.mem_of_getElem? (i := 735) (by decide +kernel))
theorem Fp_X10_120 : Fp RX10 120 10 1 .int := Fp.of Cok_10 (by decide) (List.mem_of_getElem? (i := 735) (by decide +kernel)) rfl (by decide +kernel)
theorem Fl_X10_129 : Fl RX10 129 10 2 := Fl.of Cok_10 (by decide) (List.mem_of_getElem? (i := 736) (by decide +kernel))
theorem Fp_X10_129 : Fp RX10 129 10 2 .int := Fp.of Cok_10 (by decide) (List.mem_of_getElem? (i := 736) (by decide +kernel)) rfl (by decide +kernel)
theorem Fl_X10_13 : Fl RX10 13 10 4 := Fl.of Cok_10 (by decide) (List.mem_of_getElem? (i := 738) (by decide +kernel))
theorem Fl_X10_151 : Fl RX10 151 10 6 := Fl.of Cok_10 (by decide) (List.mem_of_getElem? (i := 740) (by decide +kernel))
theorem Fp_X10_151 : Fp RX10 151 10 6 .int := Fp.of Cok_10 (by decide) (List.mem_of_getElem? (i := 740) (by decide +kernel)) rfl (by decide +kernel)
theorem Fl_X10_156 : Fl RX10 156 10 10 := Fl.of Cok_10 (by decide) (List.mem_of_getElem? (i := 744) (by decide +kernel))
theorem Fp_X10_156 : Fp RX10 156 10 10 .int := Fp.of Cok_10 (by decide) (List.mem_of_getElem? (i := 744) (by decide +kernel)) rfl (by decide +kernel)
theorem Fl_X10_159 : Fl RX10 159 10 26 := Fl.of Cok_10 (by decide) (List.mem_of_getElem? (i := 760) (by decide +kernel))
theorem Fp_X10_159 : Fp RX10 159 10 26 .int := Fp.of Cok_10 (by decide) (List.mem_of_getElem? (i := 760) (by decide +kernel)) rfl (by decide +kernel)
theorem Fl_X10_16 : Fl RX10 16 10 5 := Fl.of Cok_10 (by decide) (List.mem_of_getElem? (i := 739) (by decide +kernel))
theorem Fl_X10_166 : Fl RX10 166 10 28 := Fl.of Cok_10 (by decide) (List.mem_of_getElem? (i := 762) (by decide +kernel))
theorem Fp_X10_166 : Fp RX10 166 10 28 .int := Fp.of Cok_10 (by decide) (List.mem_of_getElem? (i := 762) (by decide +kernel)) rfl (by decide +kernel)
theorem Fl_X10_169 : Fl RX10 169 10 27 := Fl.of Cok_10 (by decide) (List.mem_of_getElem? (i := 761) (by decide +kernel))
theorem Fp_X10_169 : Fp RX10 169 10 27 .int := Fp.of Cok_10 (by decide) (List.mem_of_getElem? (i := 761) (by decide +kernel)) rfl (by decide +kernel)
theorem Fl_X10_172 : Fl RX10 172 10 30 := Fl.of Cok_10 (by decide) (List.mem_of_getElem? (i := 764) (by decide +kernel))
theorem Fp_X10_172 : Fp RX10 172 10 30 .long := Fp.of Cok_10 (by decide) (List.mem_of_getElem? (i := 764) (by decide +kernel)) rfl (by decide +kernel)
theorem Fl_X10_182 : Fl RX10 182 10 29 := Fl.of Cok_10 (by decide) (List.mem_of_getElem? (i := 763) (by decide +kernel))
theorem Fp_X10_182 : Fp RX10 182 10 29 .int := Fp.of Cok_10 (by decide) (List.mem_of_getElem? (i := 763) (by decide +kernel)) rfl (by decide +kernel)
theorem Fl_X10_19 : Fl RX10 19 10 7 := Fl.of Cok_10 (by decide) (List.mem_of_getElem? (i := 741) (by decide +kernel))
theorem Fl_X10_197 : Fl RX10 197 10 32 := Fl.of Cok_10 (by decide) (List.mem_of_getElem? (i := 766) (by decide +kernel))
theorem Fp_X10_197 : Fp RX10 197 10 32 .boolean := Fp.of Cok_10 (by decide) (List.mem_of_getElem? (i := 766) (by decide +kernel)) rfl (by decide +kernel)
theorem Fl_X10_216 : Fl RX10 216 10 20 := Fl.of Cok_10 (by decide) (List.mem_of_getElem? (i := 754) (by decide +kernel))
theorem Fp_X10_216 : Fp RX10 216 10 20 .int := Fp.of Cok_10 (by decide) (List.mem_of_getElem? (i := 754) (by decide +kernel)) rfl (by decide +kernel)
theorem Fl_X10_22 : Fl RX10 22 10 8 := Fl.of Cok_10 (by decide) (List.mem_of_getElem? (i := 742) (by decide +kernel))
theorem Fl_X10_223 : Fl RX10 223 10 22 := Fl.of Cok_10 (by decide) (List.mem_of_getElem? (i := 756) (by decide +kernel))
theorem Fp_X10_223 : Fp RX10 223 10 22 .int := Fp.of Cok_10 (by decide) (List.mem_of_getElem? (i := 756) (by decide +kernel)) rfl (by decide +kernel)
theorem Fl_X10_231 : Fl RX10 231 10 15 := Fl.of Cok_10 (by decide) (List.mem_of_getElem? (i := 749) (by decide +kernel))
theorem Fp_X10_231 : Fp RX10 231 10 15 .int := Fp.of Cok_10 (by decide) (List.mem_of_getElem? (i := 749) (by decide +kernel)) rfl (by decide +kernel)
theorem Fl_X10_249 : Fl RX10 249 10 42 := Fl.of Cok_10 (by decide) (List.mem_of_getElem? (i := 776) (by decide +kernel))
theorem Fp_X10_249 : Fp RX10 249 10 42 .int := Fp.of Cok_10 (by decide) (List.mem_of_getElem? (i := 776) (by decide +kernel)) rfl (by decide +kernel)
theorem Fl_X10_25 : Fl RX10 25 10 9 := Fl.of Cok_10 (by decide) (List.mem_of_getElem? (i := 743) (by decide +kernel))
theorem Fl_X10_254 : Fl RX10 254 10 43 := Fl.of Cok_10 (by decide) (List.mem_of_getElem? (i := 777) (by decide +kernel))
theorem Fp_X10_254 : Fp RX10 254 10 43 .int := Fp.of Cok_10 (by decide) (List.mem_of_getElem? (i := 777) (by decide +kernel)) rfl (by decide +kernel)
theorem Fl_X10_268 : Fl RX10 268 10 47 := Fl.of Cok_10 (by decide) (List.mem_of_getElem? (i := 781) (by decide +kernel))
theorem Fp_X10_268 : Fp RX10 268 10 47 .int := Fp.of Cok_10 (by decide) (List.mem_of_getElem? (i := 781) (by decide +kernel)) rfl (by decide +kernel)
theorem Fl_X10_271 : Fl RX10 271 10 50 := Fl.of Cok_10 (by decide) (List.mem_of_getElem? (i := 784) (by decide +kernel))
theorem Fp_X10_271 : Fp RX10 271 10 50 .int := Fp.of Cok_10 (by decide) (List.mem_of_getElem? (i := 784) (by decide +kernel)) rfl (by decide +kernel)
theorem Fl_X10_28 : Fl RX10 28 10 11 := Fl.of Cok_10 (by decide) (List.mem_of_getElem? (i := 745) (by decide +kernel))
theorem Fl_X10_31 : Fl RX10 31 10 12 := Fl.of Cok_10 (by decide) (List.mem_of_getElem? (i := 746) (by decide +kernel))
theorem Fl_X10_34 : Fl RX10 34 10 13 := Fl.of Cok_10 (by decide) (List.mem_of_getElem? (i := 747) (by decide +kernel))
theorem Fl_X10_37 : Fl RX10 37 10 14 := Fl.of Cok_10 (by decide) (List.mem_of_getElem? (i := 748) (by decide +kernel))
theorem Fl_X10_40 : Fl RX10 40 10 16 := Fl.of Cok_10 (by decide) (List.mem_of_getElem? (i := 750) (by decide +kernel))
theorem Fl_X10_43 : Fl RX10 43 10 17 := Fl.of Cok_10 (by decide) (List.mem_of_getElem? (i := 751) (by decide +kernel))
theorem Fp_X10_43 : Fp RX10 43 10 17 .int := Fp.of Cok_10 (by decide) (List.mem_of_getElem? (i := 751) (by decide +kernel)) rfl (by decide +kernel)
theorem Fl_X10_47 : Fl RX10 47 10 18 := Fl.of Cok_10 (by decide) (List.mem_of_getElem? (i := 752) (by decide +kernel))
theorem Fl_X10_50 : Fl RX10 50 10 19 := Fl.of Cok_10 (by decide) (List.mem_of_getElem? (i := 753) (by decide +kernel))
theorem Fl_X10_53 : Fl RX10 53 10 21 := Fl.of Cok_10 (by decide) (List.mem_of_getElem? (i := 755) (by decide +kernel))
theorem Fl_X10_56 : Fl RX10 56 10 23 := Fl.of Cok_10 (by decide) (List.mem_of_getElem? (i := 757) (by decide +kernel))
theorem Fl_X10_59 : Fl RX10 59 10 24 := Fl.of Cok_10 (by decide) (List.mem_of_getElem? (i := 758) (by decide +kernel))
theorem Fl_X10_62 : Fl RX10 62 10 25 := Fl.of Cok_10 (by decide) (List.mem_of_getElem? (i := 759) (by decide +kernel))
theorem Fl_X10_65 : Fl RX10 65 10 31 := Fl.of Cok_10 (by decide) (List.mem_of_getElem? (i := 765) (by decide +kernel))
theorem Fp_X10_65 : Fp RX10 65 10 31 .int := Fp.of Cok_10 (by decide) (List.mem_of_getElem? (i := 765) (by decide +kernel)) rfl (by decide +kernel)
theorem Fl_X10_68 : Fl RX10 68 10 33 := Fl.of Cok_10 (by decide) (List.mem_of_getElem? (i := 767) (by decide +kernel))
theorem Fl_X10_7 : Fl RX10 7 10 3 := Fl.of Cok_10 (by decide) (List.mem_of_getElem? (i := 737) (by decide +kernel))
theorem Fl_X10_72 : Fl RX10 72 10 34 := Fl.of Cok_10 (by decide) (List.mem_of_getElem? (i := 768) (by decide +kernel))
theorem Fl_X10_75 : Fl RX10 75 10 35 := Fl.of Cok_10 (by decide) (List.mem_of_getElem? (i := 769) (by decide +kernel))
theorem Fl_X10_78 : Fl RX10 78 10 36 := Fl.of Cok_10 (by decide) (List.mem_of_getElem? (i := 770) (by decide +kernel))
theorem Fl_X10_81 : Fl RX10 81 10 37 := Fl.of Cok_10 (by decide) (List.mem_of_getElem? (i := 771) (by decide +kernel))
theorem Fl_X10_84 : Fl RX10 84 10 38 := Fl.of Cok_10 (by decide) (List.mem_of_getElem? (i := 772) (by decide +kernel))
theorem Fl_X10_87 : Fl RX10 87 10 39 := Fl.of Cok_10 (by decide) (List.mem_of_getElem? (i := 773) (by decide +kernel))
theorem Fl_X10_90 : Fl RX10 90 10 40 := Fl.of Cok_10 (by decide) (List.mem_of_getElem? (i := 774) (by decide +kernel))
theorem Fl_X10_93 : Fl RX10 93 10 41 := Fl.of Cok_10 (by decide) (List.mem_of_getElem? (i := 775) (by decide +kernel))
theorem Fl_X10_96 : Fl RX10 96 10 44 := Fl.of Cok_10 (by decide) (List.mem_of_getElem? (i := 778) (by decide +kernel))
theorem Fl_X10_99 : Fl RX10 99 10 45 := Fl.of Cok_10 (by decide) (List.mem_of_getElem? (i := 779) (by decide +kernel))
theorem Fl_X1_100 : Fl RX1 100 0 2 := Fl.ofN (host := "MillFarmers") Cok_0 (by decide) (List.mem_of_getElem? (i := 153) (by decide +kernel))
theorem Fl_X1_110 : Fl RX1 110 4 0 := Fl.ofN (host := "MillFarmers") Cok_4 (by decide) (List.mem_of_getElem? (i := 98) (by decide +kernel))
theorem Fl_X1_50 : Fl RX1 50 4 3 := Fl.ofN (host := "MillFarmers") Cok_4 (by decide) (List.mem_of_getElem? (i := 107) (by decide +kernel))
theorem Fp_X1_50 : Fp RX1 50 4 3 .int := Fp.ofN (host := "MillFarmers") Cok_4 (by decide) (List.mem_of_getElem? (i := 107) (by decide +kernel)) rfl (by decide +kernel)
theorem Fl_X1_68 : Fl RX1 68 3 3 := Fl.ofN (host := "MillFarmers") Cok_3 (by decide) (List.mem_of_getElem? (i := 131) (by decide +kernel))
theorem Fp_X1_68 : Fp RX1 68 3 3 .int := Fp.ofN (host := "MillFarmers") Cok_3 (by decide) (List.mem_of_getElem? (i := 131) (by decide +kernel)) rfl (by decide +kernel)
theorem Fl_X1_71 : Fl RX1 71 3 2 := Fl.ofN (host := "MillFarmers") Cok_3 (by decide) (List.mem_of_getElem? (i := 129) (by decide +kernel))
theorem Fl_X1_75 : Fl RX1 75 3 0 := Fl.ofN (host := "MillFarmers") Cok_3 (by decide) (List.mem_of_getElem? (i := 125) (by decide +kernel))
theorem Fl_X1_78 : Fl RX1 78 3 1 := Fl.ofN (host := "MillFarmers") Cok_3 (by decide) (List.mem_of_getElem? (i := 127) (by decide +kernel))
theorem Fl_X1_81 : Fl RX1 81 0 4 := Fl.ofN (host := "MillFarmers") Cok_0 (by decide) (List.mem_of_getElem? (i := 157) (by decide +kernel))
theorem Fp_X1_81 : Fp RX1 81 0 4 .int := Fp.ofN (host := "MillFarmers") Cok_0 (by decide) (List.mem_of_getElem? (i := 157) (by decide +kernel)) rfl (by decide +kernel)
theorem Fl_X1_84 : Fl RX1 84 0 3 := Fl.ofN (host := "MillFarmers") Cok_0 (by decide) (List.mem_of_getElem? (i := 155) (by decide +kernel))
theorem Fl_X1_85 : Fl RX1 85 0 0 := Fl.ofN (host := "MillFarmers") Cok_0 (by decide) (List.mem_of_getElem? (i := 149) (by decide +kernel))
theorem Fl_X1_86 : Fl RX1 86 0 1 := Fl.ofN (host := "MillFarmers") Cok_0 (by decide) (List.mem_of_getElem? (i := 151) (by decide +kernel))
theorem Fl_X1_88 : Fl RX1 88 8 3 := Fl.ofN (host := "MillFarmers") Cok_8 (by decide) (List.mem_of_getElem? (i := 318) (by decide +kernel))
theorem Fp_X1_88 : Fp RX1 88 8 3 .int := Fp.ofN (host := "MillFarmers") Cok_8 (by decide) (List.mem_of_getElem? (i := 318) (by decide +kernel)) rfl (by decide +kernel)
theorem Fl_X1_91 : Fl RX1 91 4 2 := Fl.ofN (host := "MillFarmers") Cok_4 (by decide) (List.mem_of_getElem? (i := 103) (by decide +kernel))
theorem Fl_X1_97 : Fl RX1 97 8 0 := Fl.ofN (host := "MillFarmers") Cok_8 (by decide) (List.mem_of_getElem? (i := 314) (by decide +kernel))
theorem Fl_X2_103 : Fl RX2 103 7 0 := Fl.ofN (host := "MillFarmers") Cok_7 (by decide) (List.mem_of_getElem? (i := 181) (by decide +kernel))
theorem Fl_X2_41 : Fl RX2 41 8 4 := Fl.ofN (host := "MillFarmers") Cok_8 (by decide) (List.mem_of_getElem? (i := 321) (by decide +kernel))
theorem Fp_X2_41 : Fp RX2 41 8 4 .int := Fp.ofN (host := "MillFarmers") Cok_8 (by decide) (List.mem_of_getElem? (i := 321) (by decide +kernel)) rfl (by decide +kernel)
theorem Fl_X2_81 : Fl RX2 81 8 0 := Fl.ofN (host := "MillFarmers") Cok_8 (by decide) (List.mem_of_getElem? (i := 313) (by decide +kernel))
theorem Fl_X2_84 : Fl RX2 84 8 3 := Fl.ofN (host := "MillFarmers") Cok_8 (by decide) (List.mem_of_getElem? (i := 319) (by decide +kernel))
theorem Fp_X2_84 : Fp RX2 84 8 3 .int := Fp.ofN (host := "MillFarmers") Cok_8 (by decide) (List.mem_of_getElem? (i := 319) (by decide +kernel)) rfl (by decide +kernel)
theorem Fl_X2_98 : Fl RX2 98 7 1 := Fl.ofN (host := "MillFarmers") Cok_7 (by decide) (List.mem_of_getElem? (i := 184) (by decide +kernel))
theorem Fp_X2_98 : Fp RX2 98 7 1 .int := Fp.ofN (host := "MillFarmers") Cok_7 (by decide) (List.mem_of_getElem? (i := 184) (by decide +kernel)) rfl (by decide +kernel)
theorem Fl_X9_107 : Fl RX9 107 3 3 := Fl.ofN (host := "MillFarmers") Cok_3 (by decide) (List.mem_of_getElem? (i := 132) (by decide +kernel))
theorem Fp_X9_107 : Fp RX9 107 3 3 .int := Fp.ofN (host := "MillFarmers") Cok_3 (by decide) (List.mem_of_getElem? (i := 132) (by decide +kernel)) rfl (by decide +kernel)
theorem Fl_X9_109 : Fl RX9 109 0 4 := Fl.ofN (host := "MillFarmers") Cok_0 (by decide) (List.mem_of_getElem? (i := 158) (by decide +kernel))
theorem Fp_X9_109 : Fp RX9 109 0 4 .int := Fp.ofN (host := "MillFarmers") Cok_0 (by decide) (List.mem_of_getElem? (i := 158) (by decide +kernel)) rfl (by decide +kernel)
theorem Fl_X9_113 : Fl RX9 113 7 1 := Fl.ofN (host := "MillFarmers") Cok_7 (by decide) (List.mem_of_getElem? (i := 183) (by decide +kernel))
theorem Fp_X9_113 : Fp RX9 113 7 1 .int := Fp.ofN (host := "MillFarmers") Cok_7 (by decide) (List.mem_of_getElem? (i := 183) (by decide +kernel)) rfl (by decide +kernel)
theorem Fl_X9_124 : Fl RX9 124 8 4 := Fl.ofN (host := "MillFarmers") Cok_8 (by decide) (List.mem_of_getElem? (i := 322) (by decide +kernel))
theorem Fp_X9_124 : Fp RX9 124 8 4 .int := Fp.ofN (host := "MillFarmers") Cok_8 (by decide) (List.mem_of_getElem? (i := 322) (by decide +kernel)) rfl (by decide +kernel)
theorem Fl_X9_133 : Fl RX9 133 4 0 := Fl.ofN (host := "MillFarmers") Cok_4 (by decide) (List.mem_of_getElem? (i := 99) (by decide +kernel))
theorem Fl_X9_141 : Fl RX9 141 1 0 := Fl.ofN (host := "MillFarmers") Cok_1 (by decide) (List.mem_of_getElem? (i := 197) (by decide +kernel))
theorem Fl_X9_145 : Fl RX9 145 1 1 := Fl.ofN (host := "MillFarmers") Cok_1 (by decide) (List.mem_of_getElem? (i := 199) (by decide +kernel))
theorem Fl_X9_148 : Fl RX9 148 1 2 := Fl.ofN (host := "MillFarmers") Cok_1 (by decide) (List.mem_of_getElem? (i := 201) (by decide +kernel))
theorem Fl_X9_151 : Fl RX9 151 1 4 := Fl.ofN (host := "MillFarmers") Cok_1 (by decide) (List.mem_of_getElem? (i := 204) (by decide +kernel))
theorem Fl_X9_161 : Fl RX9 161 1 6 := Fl.ofN (host := "MillFarmers") Cok_1 (by decide) (List.mem_of_getElem? (i := 207) (by decide +kernel))
theorem Fl_X9_164 : Fl RX9 164 1 7 := Fl.ofN (host := "MillFarmers") Cok_1 (by decide) (List.mem_of_getElem? (i := 209) (by decide +kernel))
theorem Fl_X9_176 : Fl RX9 176 1 8 := Fl.ofN (host := "MillFarmers") Cok_1 (by decide) (List.mem_of_getElem? (i := 211) (by decide +kernel))
theorem Fp_X9_176 : Fp RX9 176 1 8 .long := Fp.ofN (host := "MillFarmers") Cok_1 (by decide) (List.mem_of_getElem? (i := 211) (by decide +kernel)) rfl (by decide +kernel)
theorem Fl_X9_180 : Fl RX9 180 1 10 := Fl.ofN (host := "MillFarmers") Cok_1 (by decide) (List.mem_of_getElem? (i := 214) (by decide +kernel))
theorem Fp_X9_180 : Fp RX9 180 1 10 .long := Fp.ofN (host := "MillFarmers") Cok_1 (by decide) (List.mem_of_getElem? (i := 214) (by decide +kernel)) rfl (by decide +kernel)
theorem Fl_X9_183 : Fl RX9 183 5 4 := Fl.ofN (host := "MillFarmers") Cok_5 (by decide) (List.mem_of_getElem? (i := 251) (by decide +kernel))
theorem Fp_X9_183 : Fp RX9 183 5 4 .int := Fp.ofN (host := "MillFarmers") Cok_5 (by decide) (List.mem_of_getElem? (i := 251) (by decide +kernel)) rfl (by decide +kernel)
theorem Fl_X9_186 : Fl RX9 186 5 3 := Fl.ofN (host := "MillFarmers") Cok_5 (by decide) (List.mem_of_getElem? (i := 249) (by decide +kernel))
theorem Fp_X9_186 : Fp RX9 186 5 3 .int := Fp.ofN (host := "MillFarmers") Cok_5 (by decide) (List.mem_of_getElem? (i := 249) (by decide +kernel)) rfl (by decide +kernel)
theorem Fl_X9_188 : Fl RX9 188 6 4 := Fl.ofN (host := "MillFarmers") Cok_6 (by decide) (List.mem_of_getElem? (i := 274) (by decide +kernel))
theorem Fp_X9_188 : Fp RX9 188 6 4 .int := Fp.ofN (host := "MillFarmers") Cok_6 (by decide) (List.mem_of_getElem? (i := 274) (by decide +kernel)) rfl (by decide +kernel)
theorem Fl_X9_189 : Fl RX9 189 4 1 := Fl.ofN (host := "MillFarmers") Cok_4 (by decide) (List.mem_of_getElem? (i := 101) (by decide +kernel))
theorem Fl_X9_210 : Fl RX9 210 0 5 := Fl.ofN (host := "MillFarmers") Cok_0 (by decide) (List.mem_of_getElem? (i := 160) (by decide +kernel))
theorem Fp_X9_210 : Fp RX9 210 0 5 .int := Fp.ofN (host := "MillFarmers") Cok_0 (by decide) (List.mem_of_getElem? (i := 160) (by decide +kernel)) rfl (by decide +kernel)
theorem Fl_X9_213 : Fl RX9 213 4 2 := Fl.ofN (host := "MillFarmers") Cok_4 (by decide) (List.mem_of_getElem? (i := 104) (by decide +kernel))
theorem Fl_X9_92 : Fl RX9 92 4 3 := Fl.ofN (host := "MillFarmers") Cok_4 (by decide) (List.mem_of_getElem? (i := 106) (by decide +kernel))
theorem Fp_X9_92 : Fp RX9 92 4 3 .int := Fp.ofN (host := "MillFarmers") Cok_4 (by decide) (List.mem_of_getElem? (i := 106) (by decide +kernel)) rfl (by decide +kernel)
abbrev mX0_add : MD := (yX0_add, cX0_add, 5, none, { frames := 0, cells := 0, slots := 0, locals := 0 })
theorem M_X0_add : Mv mX0_add 4 := ⟨⟨ts_in (List.mem_of_getElem? (i := 432) (by decide +kernel)) rfl, ts_in (List.mem_of_getElem? (i := 68) (by decide +kernel)) rfl, ⟨by decide +kernel, by decide +kernel⟩, by decide +kernel, rfl, rfl⟩, ts_in (List.mem_of_getElem? (i := 431) (by decide +kernel)) rfl, ts_in (List.mem_of_getElem? (i := 7) (by decide +kernel)) rfl⟩
abbrev mX0_ownerOf : MD := (yX0_ownerOf, cX0_ownerOf, 5, (some .int), { frames := 0, cells := 0, slots := 0, locals := 0 })
theorem M_X0_ownerOf : Mv mX0_ownerOf 2 := ⟨⟨ts_in (List.mem_of_getElem? (i := 719) (by decide +kernel)) rfl, ts_in (List.mem_of_getElem? (i := 68) (by decide +kernel)) rfl, ⟨by decide +kernel, by decide +kernel⟩, by decide +kernel, rfl, rfl⟩, ts_in (List.mem_of_getElem? (i := 718) (by decide +kernel)) rfl, ts_in (List.mem_of_getElem? (i := 44) (by decide +kernel)) rfl⟩
abbrev mX1_draw : MD := (yX1_draw, cX1_draw, 7, none, { frames := 2, cells := 0, slots := 0, locals := 55 })
theorem M_X1_draw : Mv mX1_draw 5 := ⟨⟨ts_in (List.mem_of_getElem? (i := 566) (by decide +kernel)) rfl, ts_in (List.mem_of_getElem? (i := 70) (by decide +kernel)) rfl, ⟨by decide +kernel, by decide +kernel⟩, by decide +kernel, rfl, rfl⟩, ts_in (List.mem_of_getElem? (i := 565) (by decide +kernel)) rfl, ts_in (List.mem_of_getElem? (i := 19) (by decide +kernel)) rfl⟩
abbrev mX1_addCredits : MD := (yX1_addCredits, cX1_addCredits, 4, none, { frames := 0, cells := 0, slots := 0, locals := 0 })
theorem M_X1_addCredits : Mv mX1_addCredits 2 := ⟨⟨ts_in (List.mem_of_getElem? (i := 573) (by decide +kernel)) rfl, ts_in (List.mem_of_getElem? (i := 70) (by decide +kernel)) rfl, ⟨by decide +kernel, by decide +kernel⟩, by decide +kernel, rfl, rfl⟩, ts_in (List.mem_of_getElem? (i := 572) (by decide +kernel)) rfl, ts_in (List.mem_of_getElem? (i := 20) (by decide +kernel)) rfl⟩
abbrev mX1_addBaskets : MD := (yX1_addBaskets, cX1_addBaskets, 13, none, { frames := 1, cells := 0, slots := 0, locals := 23 })
theorem M_X1_addBaskets : Mv mX1_addBaskets 4 := ⟨⟨ts_in (List.mem_of_getElem? (i := 577) (by decide +kernel)) rfl, ts_in (List.mem_of_getElem? (i := 70) (by decide +kernel)) rfl, ⟨by decide +kernel, by decide +kernel⟩, by decide +kernel, rfl, rfl⟩, ts_in (List.mem_of_getElem? (i := 576) (by decide +kernel)) rfl, ts_in (List.mem_of_getElem? (i := 21) (by decide +kernel)) rfl⟩
abbrev mX1_pay : MD := (yX1_pay, cX1_pay, 2, (some .long), { frames := 0, cells := 0, slots := 0, locals := 0 })
theorem M_X1_pay : Mv mX1_pay 1 := ⟨⟨ts_in (List.mem_of_getElem? (i := 595) (by decide +kernel)) rfl, ts_in (List.mem_of_getElem? (i := 70) (by decide +kernel)) rfl, ⟨by decide +kernel, by decide +kernel⟩, by decide +kernel, rfl, rfl⟩, ts_in (List.mem_of_getElem? (i := 594) (by decide +kernel)) rfl, ts_in (List.mem_of_getElem? (i := 24) (by decide +kernel)) rfl⟩
abbrev mX1_debt : MD := (yX1_debt, cX1_debt, 2, (some .long), { frames := 0, cells := 0, slots := 0, locals := 0 })
theorem M_X1_debt : Mv mX1_debt 1 := ⟨⟨ts_in (List.mem_of_getElem? (i := 599) (by decide +kernel)) rfl, ts_in (List.mem_of_getElem? (i := 70) (by decide +kernel)) rfl, ⟨by decide +kernel, by decide +kernel⟩, by decide +kernel, rfl, rfl⟩, ts_in (List.mem_of_getElem? (i := 598) (by decide +kernel)) rfl, ts_in (List.mem_of_getElem? (i := 25) (by decide +kernel)) rfl⟩
abbrev mX1_stand : MD := (yX1_stand, cX1_stand, 5, none, { frames := 4, cells := 0, slots := 0, locals := 100 })
theorem M_X1_stand : Mv mX1_stand 3 := ⟨⟨ts_in (List.mem_of_getElem? (i := 591) (by decide +kernel)) rfl, ts_in (List.mem_of_getElem? (i := 70) (by decide +kernel)) rfl, ⟨by decide +kernel, by decide +kernel⟩, by decide +kernel, rfl, rfl⟩, ts_in (List.mem_of_getElem? (i := 590) (by decide +kernel)) rfl, ts_in (List.mem_of_getElem? (i := 23) (by decide +kernel)) rfl⟩
abbrev mX1_giveEvenly : MD := (yX1_giveEvenly, cX1_giveEvenly, 7, none, { frames := 3, cells := 0, slots := 0, locals := 74 })
theorem M_X1_giveEvenly : Mv mX1_giveEvenly 1 := ⟨⟨ts_in (List.mem_of_getElem? (i := 603) (by decide +kernel)) rfl, ts_in (List.mem_of_getElem? (i := 70) (by decide +kernel)) rfl, ⟨by decide +kernel, by decide +kernel⟩, by decide +kernel, rfl, rfl⟩, ts_in (List.mem_of_getElem? (i := 602) (by decide +kernel)) rfl, ts_in (List.mem_of_getElem? (i := 26) (by decide +kernel)) rfl⟩
abbrev mX1_greatestLevel : MD := (yX1_greatestLevel, cX1_greatestLevel, 6, (some .long), { frames := 2, cells := 0, slots := 0, locals := 49 })
theorem M_X1_greatestLevel : Mv mX1_greatestLevel 1 := ⟨⟨ts_in (List.mem_of_getElem? (i := 610) (by decide +kernel)) rfl, ts_in (List.mem_of_getElem? (i := 70) (by decide +kernel)) rfl, ⟨by decide +kernel, by decide +kernel⟩, by decide +kernel, rfl, rfl⟩, ts_in (List.mem_of_getElem? (i := 609) (by decide +kernel)) rfl, ts_in (List.mem_of_getElem? (i := 27) (by decide +kernel)) rfl⟩
abbrev mX1_sumAtLevel : MD := (yX1_sumAtLevel, cX1_sumAtLevel, 7, (some .long), { frames := 1, cells := 0, slots := 0, locals := 23 })
theorem M_X1_sumAtLevel : Mv mX1_sumAtLevel 2 := ⟨⟨ts_in (List.mem_of_getElem? (i := 615) (by decide +kernel)) rfl, ts_in (List.mem_of_getElem? (i := 70) (by decide +kernel)) rfl, ⟨by decide +kernel, by decide +kernel⟩, by decide +kernel, rfl, rfl⟩, ts_in (List.mem_of_getElem? (i := 614) (by decide +kernel)) rfl, ts_in (List.mem_of_getElem? (i := 28) (by decide +kernel)) rfl⟩
abbrev mX1_payDebts : MD := (yX1_payDebts, cX1_payDebts, 6, none, { frames := 1, cells := 0, slots := 0, locals := 23 })
theorem M_X1_payDebts : Mv mX1_payDebts 2 := ⟨⟨ts_in (List.mem_of_getElem? (i := 619) (by decide +kernel)) rfl, ts_in (List.mem_of_getElem? (i := 70) (by decide +kernel)) rfl, ⟨by decide +kernel, by decide +kernel⟩, by decide +kernel, rfl, rfl⟩, ts_in (List.mem_of_getElem? (i := 618) (by decide +kernel)) rfl, ts_in (List.mem_of_getElem? (i := 29) (by decide +kernel)) rfl⟩
abbrev mX2_read : MD := (yX2_read, cX2_read, 3, (some .int), { frames := 7, cells := 0, slots := 0, locals := 150 })
theorem M_X2_read : Mv mX2_read 1 := ⟨⟨ts_in (List.mem_of_getElem? (i := 452) (by decide +kernel)) rfl, ts_in (List.mem_of_getElem? (i := 75) (by decide +kernel)) rfl, ⟨by decide +kernel, by decide +kernel⟩, by decide +kernel, rfl, rfl⟩, ts_in (List.mem_of_getElem? (i := 451) (by decide +kernel)) rfl, ts_in (List.mem_of_getElem? (i := 9) (by decide +kernel)) rfl⟩
abbrev mX2_readClause : MD := (yX2_readClause, cX2_readClause, 1, (some .boolean), { frames := 6, cells := 0, slots := 0, locals := 130 })
theorem M_X2_readClause : Mv mX2_readClause 0 := ⟨⟨ts_in (List.mem_of_getElem? (i := 465) (by decide +kernel)) rfl, ts_in (List.mem_of_getElem? (i := 75) (by decide +kernel)) rfl, ⟨by decide +kernel, by decide +kernel⟩, by decide +kernel, rfl, rfl⟩, ts_in (List.mem_of_getElem? (i := 464) (by decide +kernel)) rfl, ts_in (List.mem_of_getElem? (i := 12) (by decide +kernel)) rfl⟩
abbrev mX2_readPrice : MD := (yX2_readPrice, cX2_readPrice, 3, (some .boolean), { frames := 2, cells := 0, slots := 0, locals := 45 })
theorem M_X2_readPrice : Mv mX2_readPrice 0 := ⟨⟨ts_in (List.mem_of_getElem? (i := 522) (by decide +kernel)) rfl, ts_in (List.mem_of_getElem? (i := 75) (by decide +kernel)) rfl, ⟨by decide +kernel, by decide +kernel⟩, by decide +kernel, rfl, rfl⟩, ts_in (List.mem_of_getElem? (i := 521) (by decide +kernel)) rfl, ts_in (List.mem_of_getElem? (i := 14) (by decide +kernel)) rfl⟩
abbrev mX2_readQuota : MD := (yX2_readQuota, cX2_readQuota, 2, (some .boolean), { frames := 2, cells := 0, slots := 0, locals := 45 })
theorem M_X2_readQuota : Mv mX2_readQuota 0 := ⟨⟨ts_in (List.mem_of_getElem? (i := 535) (by decide +kernel)) rfl, ts_in (List.mem_of_getElem? (i := 75) (by decide +kernel)) rfl, ⟨by decide +kernel, by decide +kernel⟩, by decide +kernel, rfl, rfl⟩, ts_in (List.mem_of_getElem? (i := 534) (by decide +kernel)) rfl, ts_in (List.mem_of_getElem? (i := 16) (by decide +kernel)) rfl⟩
abbrev mX2_readShare : MD := (yX2_readShare, cX2_readShare, 4, (some .boolean), { frames := 5, cells := 0, slots := 0, locals := 107 })
theorem M_X2_readShare : Mv mX2_readShare 1 := ⟨⟨ts_in (List.mem_of_getElem? (i := 540) (by decide +kernel)) rfl, ts_in (List.mem_of_getElem? (i := 75) (by decide +kernel)) rfl, ⟨by decide +kernel, by decide +kernel⟩, by decide +kernel, rfl, rfl⟩, ts_in (List.mem_of_getElem? (i := 539) (by decide +kernel)) rfl, ts_in (List.mem_of_getElem? (i := 17) (by decide +kernel)) rfl⟩
abbrev mX2_next : MD := (yX2_next, cX2_next, 1, none, { frames := 1, cells := 0, slots := 0, locals := 22 })
theorem M_X2_next : Mv mX2_next 0 := ⟨⟨ts_in (List.mem_of_getElem? (i := 457) (by decide +kernel)) rfl, ts_in (List.mem_of_getElem? (i := 75) (by decide +kernel)) rfl, ⟨by decide +kernel, by decide +kernel⟩, by decide +kernel, rfl, rfl⟩, ts_in (List.mem_of_getElem? (i := 456) (by decide +kernel)) rfl, ts_in (List.mem_of_getElem? (i := 10) (by decide +kernel)) rfl⟩
abbrev mX2_kindAt : MD := (yX2_kindAt, cX2_kindAt, 3, (some .int), { frames := 0, cells := 0, slots := 0, locals := 0 })
theorem M_X2_kindAt : Mv mX2_kindAt 1 := ⟨⟨ts_in (List.mem_of_getElem? (i := 461) (by decide +kernel)) rfl, ts_in (List.mem_of_getElem? (i := 75) (by decide +kernel)) rfl, ⟨by decide +kernel, by decide +kernel⟩, by decide +kernel, rfl, rfl⟩, ts_in (List.mem_of_getElem? (i := 460) (by decide +kernel)) rfl, ts_in (List.mem_of_getElem? (i := 11) (by decide +kernel)) rfl⟩
abbrev mX2_isSemicolon : MD := (yX2_isSemicolon, cX2_isSemicolon, 1, (some .boolean), { frames := 0, cells := 0, slots := 0, locals := 0 })
theorem M_X2_isSemicolon : Mv mX2_isSemicolon 0 := ⟨⟨ts_in (List.mem_of_getElem? (i := 552) (by decide +kernel)) rfl, ts_in (List.mem_of_getElem? (i := 75) (by decide +kernel)) rfl, ⟨by decide +kernel, by decide +kernel⟩, by decide +kernel, rfl, rfl⟩, ts_in (List.mem_of_getElem? (i := 551) (by decide +kernel)) rfl, ts_in (List.mem_of_getElem? (i := 18) (by decide +kernel)) rfl⟩
abbrev mX2_isWord : MD := (yX2_isWord, cX2_isWord, 3, (some .boolean), { frames := 4, cells := 0, slots := 0, locals := 85 })
theorem M_X2_isWord : Mv mX2_isWord 1 := ⟨⟨ts_in (List.mem_of_getElem? (i := 470) (by decide +kernel)) rfl, ts_in (List.mem_of_getElem? (i := 75) (by decide +kernel)) rfl, ⟨by decide +kernel, by decide +kernel⟩, by decide +kernel, rfl, rfl⟩, ts_in (List.mem_of_getElem? (i := 469) (by decide +kernel)) rfl, ts_in (List.mem_of_getElem? (i := 13) (by decide +kernel)) rfl⟩
abbrev mX2_number : MD := (yX2_number, cX2_number, 3, (some .int), { frames := 1, cells := 0, slots := 0, locals := 23 })
theorem M_X2_number : Mv mX2_number 0 := ⟨⟨ts_in (List.mem_of_getElem? (i := 526) (by decide +kernel)) rfl, ts_in (List.mem_of_getElem? (i := 75) (by decide +kernel)) rfl, ⟨by decide +kernel, by decide +kernel⟩, by decide +kernel, rfl, rfl⟩, ts_in (List.mem_of_getElem? (i := 525) (by decide +kernel)) rfl, ts_in (List.mem_of_getElem? (i := 15) (by decide +kernel)) rfl⟩
abbrev mX3_add : MD := (yX3_add, cX3_add, 4, none, { frames := 0, cells := 0, slots := 0, locals := 0 })
theorem M_X3_add : Mv mX3_add 3 := ⟨⟨ts_in (List.mem_of_getElem? (i := 424) (by decide +kernel)) rfl, ts_in (List.mem_of_getElem? (i := 67) (by decide +kernel)) rfl, ⟨by decide +kernel, by decide +kernel⟩, by decide +kernel, rfl, rfl⟩, ts_in (List.mem_of_getElem? (i := 423) (by decide +kernel)) rfl, ts_in (List.mem_of_getElem? (i := 6) (by decide +kernel)) rfl⟩
abbrev mX4_add : MD := (yX4_add, cX4_add, 4, none, { frames := 0, cells := 0, slots := 0, locals := 0 })
theorem M_X4_add : Mv mX4_add 3 := ⟨⟨ts_in (List.mem_of_getElem? (i := 407) (by decide +kernel)) rfl, ts_in (List.mem_of_getElem? (i := 66) (by decide +kernel)) rfl, ⟨by decide +kernel, by decide +kernel⟩, by decide +kernel, rfl, rfl⟩, ts_in (List.mem_of_getElem? (i := 406) (by decide +kernel)) rfl, ts_in (List.mem_of_getElem? (i := 3) (by decide +kernel)) rfl⟩
abbrev mX4_howManyIn : MD := (yX4_howManyIn, cX4_howManyIn, 4, (some .int), { frames := 0, cells := 0, slots := 0, locals := 0 })
theorem M_X4_howManyIn : Mv mX4_howManyIn 1 := ⟨⟨ts_in (List.mem_of_getElem? (i := 647) (by decide +kernel)) rfl, ts_in (List.mem_of_getElem? (i := 66) (by decide +kernel)) rfl, ⟨by decide +kernel, by decide +kernel⟩, by decide +kernel, rfl, rfl⟩, ts_in (List.mem_of_getElem? (i := 646) (by decide +kernel)) rfl, ts_in (List.mem_of_getElem? (i := 34) (by decide +kernel)) rfl⟩
abbrev mX5_add : MD := (yX5_add, cX5_add, 4, none, { frames := 0, cells := 0, slots := 0, locals := 0 })
theorem M_X5_add : Mv mX5_add 3 := ⟨⟨ts_in (List.mem_of_getElem? (i := 659) (by decide +kernel)) rfl, ts_in (List.mem_of_getElem? (i := 71) (by decide +kernel)) rfl, ⟨by decide +kernel, by decide +kernel⟩, by decide +kernel, rfl, rfl⟩, ts_in (List.mem_of_getElem? (i := 658) (by decide +kernel)) rfl, ts_in (List.mem_of_getElem? (i := 35) (by decide +kernel)) rfl⟩
abbrev mX5_lostAt : MD := (yX5_lostAt, cX5_lostAt, 3, (some .int), { frames := 0, cells := 0, slots := 0, locals := 0 })
theorem M_X5_lostAt : Mv mX5_lostAt 1 := ⟨⟨ts_in (List.mem_of_getElem? (i := 633) (by decide +kernel)) rfl, ts_in (List.mem_of_getElem? (i := 71) (by decide +kernel)) rfl, ⟨by decide +kernel, by decide +kernel⟩, by decide +kernel, rfl, rfl⟩, ts_in (List.mem_of_getElem? (i := 632) (by decide +kernel)) rfl, ts_in (List.mem_of_getElem? (i := 32) (by decide +kernel)) rfl⟩
abbrev mX5_foretold : MD := (yX5_foretold, cX5_foretold, 3, (some .long), { frames := 1, cells := 0, slots := 0, locals := 22 })
theorem M_X5_foretold : Mv mX5_foretold 2 := ⟨⟨ts_in (List.mem_of_getElem? (i := 629) (by decide +kernel)) rfl, ts_in (List.mem_of_getElem? (i := 71) (by decide +kernel)) rfl, ⟨by decide +kernel, by decide +kernel⟩, by decide +kernel, rfl, rfl⟩, ts_in (List.mem_of_getElem? (i := 628) (by decide +kernel)) rfl, ts_in (List.mem_of_getElem? (i := 31) (by decide +kernel)) rfl⟩
abbrev mX6_add : MD := (yX6_add, cX6_add, 4, none, { frames := 0, cells := 0, slots := 0, locals := 0 })
theorem M_X6_add : Mv mX6_add 2 := ⟨⟨ts_in (List.mem_of_getElem? (i := 667) (by decide +kernel)) rfl, ts_in (List.mem_of_getElem? (i := 72) (by decide +kernel)) rfl, ⟨by decide +kernel, by decide +kernel⟩, by decide +kernel, rfl, rfl⟩, ts_in (List.mem_of_getElem? (i := 666) (by decide +kernel)) rfl, ts_in (List.mem_of_getElem? (i := 36) (by decide +kernel)) rfl⟩
abbrev mX6_walk : MD := (yX6_walk, cX6_walk, 4, none, { frames := 3, cells := 0, slots := 0, locals := 75 })
theorem M_X6_walk : Mv mX6_walk 1 := ⟨⟨ts_in (List.mem_of_getElem? (i := 679) (by decide +kernel)) rfl, ts_in (List.mem_of_getElem? (i := 72) (by decide +kernel)) rfl, ⟨by decide +kernel, by decide +kernel⟩, by decide +kernel, rfl, rfl⟩, ts_in (List.mem_of_getElem? (i := 678) (by decide +kernel)) rfl, ts_in (List.mem_of_getElem? (i := 37) (by decide +kernel)) rfl⟩
abbrev mX6_goOnFrom : MD := (yX6_goOnFrom, cX6_goOnFrom, 9, none, { frames := 2, cells := 0, slots := 0, locals := 47 })
theorem M_X6_goOnFrom : Mv mX6_goOnFrom 3 := ⟨⟨ts_in (List.mem_of_getElem? (i := 689) (by decide +kernel)) rfl, ts_in (List.mem_of_getElem? (i := 72) (by decide +kernel)) rfl, ⟨by decide +kernel, by decide +kernel⟩, by decide +kernel, rfl, rfl⟩, ts_in (List.mem_of_getElem? (i := 688) (by decide +kernel)) rfl, ts_in (List.mem_of_getElem? (i := 39) (by decide +kernel)) rfl⟩
abbrev mX6_arrive : MD := (yX6_arrive, cX6_arrive, 5, none, { frames := 1, cells := 0, slots := 0, locals := 23 })
theorem M_X6_arrive : Mv mX6_arrive 3 := ⟨⟨ts_in (List.mem_of_getElem? (i := 698) (by decide +kernel)) rfl, ts_in (List.mem_of_getElem? (i := 72) (by decide +kernel)) rfl, ⟨by decide +kernel, by decide +kernel⟩, by decide +kernel, rfl, rfl⟩, ts_in (List.mem_of_getElem? (i := 697) (by decide +kernel)) rfl, ts_in (List.mem_of_getElem? (i := 41) (by decide +kernel)) rfl⟩
abbrev mX6_placeAtEnd : MD := (yX6_placeAtEnd, cX6_placeAtEnd, 4, (some .int), { frames := 0, cells := 0, slots := 0, locals := 0 })
theorem M_X6_placeAtEnd : Mv mX6_placeAtEnd 3 := ⟨⟨ts_in (List.mem_of_getElem? (i := 693) (by decide +kernel)) rfl, ts_in (List.mem_of_getElem? (i := 72) (by decide +kernel)) rfl, ⟨by decide +kernel, by decide +kernel⟩, by decide +kernel, rfl, rfl⟩, ts_in (List.mem_of_getElem? (i := 692) (by decide +kernel)) rfl, ts_in (List.mem_of_getElem? (i := 40) (by decide +kernel)) rfl⟩
abbrev mX6_cellOf : MD := (yX6_cellOf, cX6_cellOf, 5, (some .int), { frames := 0, cells := 0, slots := 0, locals := 0 })
theorem M_X6_cellOf : Mv mX6_cellOf 4 := ⟨⟨ts_in (List.mem_of_getElem? (i := 685) (by decide +kernel)) rfl, ts_in (List.mem_of_getElem? (i := 72) (by decide +kernel)) rfl, ⟨by decide +kernel, by decide +kernel⟩, by decide +kernel, rfl, rfl⟩, ts_in (List.mem_of_getElem? (i := 684) (by decide +kernel)) rfl, ts_in (List.mem_of_getElem? (i := 38) (by decide +kernel)) rfl⟩
abbrev mX6_mostMet : MD := (yX6_mostMet, cX6_mostMet, 3, (some .int), { frames := 0, cells := 0, slots := 0, locals := 0 })
theorem M_X6_mostMet : Mv mX6_mostMet 0 := ⟨⟨ts_in (List.mem_of_getElem? (i := 702) (by decide +kernel)) rfl, ts_in (List.mem_of_getElem? (i := 72) (by decide +kernel)) rfl, ⟨by decide +kernel, by decide +kernel⟩, by decide +kernel, rfl, rfl⟩, ts_in (List.mem_of_getElem? (i := 701) (by decide +kernel)) rfl, ts_in (List.mem_of_getElem? (i := 42) (by decide +kernel)) rfl⟩
abbrev mX6_firstHourWith : MD := (yX6_firstHourWith, cX6_firstHourWith, 4, (some .int), { frames := 1, cells := 0, slots := 0, locals := 23 })
theorem M_X6_firstHourWith : Mv mX6_firstHourWith 1 := ⟨⟨ts_in (List.mem_of_getElem? (i := 710) (by decide +kernel)) rfl, ts_in (List.mem_of_getElem? (i := 72) (by decide +kernel)) rfl, ⟨by decide +kernel, by decide +kernel⟩, by decide +kernel, rfl, rfl⟩, ts_in (List.mem_of_getElem? (i := 709) (by decide +kernel)) rfl, ts_in (List.mem_of_getElem? (i := 43) (by decide +kernel)) rfl⟩
abbrev mX7_append : MD := (yX7_append, cX7_append, 3, none, { frames := 0, cells := 0, slots := 0, locals := 0 })
theorem M_X7_append : Mv mX7_append 1 := ⟨⟨ts_in (List.mem_of_getElem? (i := 440) (by decide +kernel)) rfl, ts_in (List.mem_of_getElem? (i := 69) (by decide +kernel)) rfl, ⟨by decide +kernel, by decide +kernel⟩, by decide +kernel, rfl, rfl⟩, ts_in (List.mem_of_getElem? (i := 439) (by decide +kernel)) rfl, ts_in (List.mem_of_getElem? (i := 8) (by decide +kernel)) rfl⟩
abbrev mX8_reset : MD := (yX8_reset, cX8_reset, 1, none, { frames := 1, cells := 0, slots := 0, locals := 23 })
theorem M_X8_reset : Mv mX8_reset 0 := ⟨⟨ts_in (List.mem_of_getElem? (i := 304) (by decide +kernel)) rfl, ts_in (List.mem_of_getElem? (i := 73) (by decide +kernel)) rfl, ⟨by decide +kernel, by decide +kernel⟩, by decide +kernel, rfl, rfl⟩, ts_in (List.mem_of_getElem? (i := 303) (by decide +kernel)) rfl, ts_in (List.mem_of_getElem? (i := 0) (by decide +kernel)) rfl⟩
abbrev mX8_setShare : MD := (yX8_setShare, cX8_setShare, 4, none, { frames := 0, cells := 0, slots := 0, locals := 0 })
theorem M_X8_setShare : Mv mX8_setShare 3 := ⟨⟨ts_in (List.mem_of_getElem? (i := 311) (by decide +kernel)) rfl, ts_in (List.mem_of_getElem? (i := 73) (by decide +kernel)) rfl, ⟨by decide +kernel, by decide +kernel⟩, by decide +kernel, rfl, rfl⟩, ts_in (List.mem_of_getElem? (i := 310) (by decide +kernel)) rfl, ts_in (List.mem_of_getElem? (i := 1) (by decide +kernel)) rfl⟩
abbrev mX8_shareOf : MD := (yX8_shareOf, cX8_shareOf, 4, (some .long), { frames := 0, cells := 0, slots := 0, locals := 0 })
theorem M_X8_shareOf : Mv mX8_shareOf 2 := ⟨⟨ts_in (List.mem_of_getElem? (i := 587) (by decide +kernel)) rfl, ts_in (List.mem_of_getElem? (i := 73) (by decide +kernel)) rfl, ⟨by decide +kernel, by decide +kernel⟩, by decide +kernel, rfl, rfl⟩, ts_in (List.mem_of_getElem? (i := 586) (by decide +kernel)) rfl, ts_in (List.mem_of_getElem? (i := 22) (by decide +kernel)) rfl⟩
abbrev mX9_farmer : MD := (yX9_farmer, cX9_farmer, 4, (some .int), { frames := 1, cells := 0, slots := 0, locals := 23 })
theorem M_X9_farmer : Mv mX9_farmer 3 := ⟨⟨ts_in (List.mem_of_getElem? (i := 396) (by decide +kernel)) rfl, ts_in (List.mem_of_getElem? (i := 65) (by decide +kernel)) rfl, ⟨by decide +kernel, by decide +kernel⟩, by decide +kernel, rfl, rfl⟩, ts_in (List.mem_of_getElem? (i := 394) (by decide +kernel)) rfl, ts_in (List.mem_of_getElem? (i := 395) (by decide +kernel)) rfl⟩
abbrev mX9_credit : MD := (yX9_credit, cX9_credit, 4, (some .int), { frames := 2, cells := 0, slots := 0, locals := 43 })
theorem M_X9_credit : Mv mX9_credit 3 := ⟨⟨ts_in (List.mem_of_getElem? (i := 415) (by decide +kernel)) rfl, ts_in (List.mem_of_getElem? (i := 65) (by decide +kernel)) rfl, ⟨by decide +kernel, by decide +kernel⟩, by decide +kernel, rfl, rfl⟩, ts_in (List.mem_of_getElem? (i := 413) (by decide +kernel)) rfl, ts_in (List.mem_of_getElem? (i := 414) (by decide +kernel)) rfl⟩
abbrev mX9_basket : MD := (yX9_basket, cX9_basket, 5, (some .int), { frames := 2, cells := 0, slots := 0, locals := 43 })
theorem M_X9_basket : Mv mX9_basket 4 := ⟨⟨ts_in (List.mem_of_getElem? (i := 428) (by decide +kernel)) rfl, ts_in (List.mem_of_getElem? (i := 65) (by decide +kernel)) rfl, ⟨by decide +kernel, by decide +kernel⟩, by decide +kernel, rfl, rfl⟩, ts_in (List.mem_of_getElem? (i := 426) (by decide +kernel)) rfl, ts_in (List.mem_of_getElem? (i := 427) (by decide +kernel)) rfl⟩
abbrev mX9_feed : MD := (yX9_feed, cX9_feed, 6, (some .int), { frames := 1, cells := 0, slots := 0, locals := 22 })
theorem M_X9_feed : Mv mX9_feed 5 := ⟨⟨ts_in (List.mem_of_getElem? (i := 436) (by decide +kernel)) rfl, ts_in (List.mem_of_getElem? (i := 65) (by decide +kernel)) rfl, ⟨by decide +kernel, by decide +kernel⟩, by decide +kernel, rfl, rfl⟩, ts_in (List.mem_of_getElem? (i := 434) (by decide +kernel)) rfl, ts_in (List.mem_of_getElem? (i := 435) (by decide +kernel)) rfl⟩
abbrev mX9_end : MD := (yX9_end, cX9_end, 2, (some .int), { frames := 1, cells := 0, slots := 0, locals := 22 })
theorem M_X9_end : Mv mX9_end 1 := ⟨⟨ts_in (List.mem_of_getElem? (i := 444) (by decide +kernel)) rfl, ts_in (List.mem_of_getElem? (i := 65) (by decide +kernel)) rfl, ⟨by decide +kernel, by decide +kernel⟩, by decide +kernel, rfl, rfl⟩, ts_in (List.mem_of_getElem? (i := 442) (by decide +kernel)) rfl, ts_in (List.mem_of_getElem? (i := 443) (by decide +kernel)) rfl⟩
abbrev mX9_contract : MD := (yX9_contract, cX9_contract, 2, (some .int), { frames := 8, cells := 0, slots := 0, locals := 172 })
theorem M_X9_contract : Mv mX9_contract 0 := ⟨⟨ts_in (List.mem_of_getElem? (i := 448) (by decide +kernel)) rfl, ts_in (List.mem_of_getElem? (i := 65) (by decide +kernel)) rfl, ⟨by decide +kernel, by decide +kernel⟩, by decide +kernel, rfl, rfl⟩, ts_in (List.mem_of_getElem? (i := 446) (by decide +kernel)) rfl, ts_in (List.mem_of_getElem? (i := 447) (by decide +kernel)) rfl⟩
abbrev mX9_fault : MD := (yX9_fault, cX9_fault, 1, (some .int), { frames := 0, cells := 0, slots := 0, locals := 0 })
theorem M_X9_fault : Mv mX9_fault 0 := ⟨⟨ts_in (List.mem_of_getElem? (i := 557) (by decide +kernel)) rfl, ts_in (List.mem_of_getElem? (i := 65) (by decide +kernel)) rfl, ⟨by decide +kernel, by decide +kernel⟩, by decide +kernel, rfl, rfl⟩, ts_in (List.mem_of_getElem? (i := 555) (by decide +kernel)) rfl, ts_in (List.mem_of_getElem? (i := 556) (by decide +kernel)) rfl⟩
abbrev mX9_of : MD := (yX9_of, cX9_of, 4, (some .long), { frames := 5, cells := 0, slots := 0, locals := 124 })
theorem M_X9_of : Mv mX9_of 3 := ⟨⟨ts_in (List.mem_of_getElem? (i := 561) (by decide +kernel)) rfl, ts_in (List.mem_of_getElem? (i := 65) (by decide +kernel)) rfl, ⟨by decide +kernel, by decide +kernel⟩, by decide +kernel, rfl, rfl⟩, ts_in (List.mem_of_getElem? (i := 559) (by decide +kernel)) rfl, ts_in (List.mem_of_getElem? (i := 560) (by decide +kernel)) rfl⟩
abbrev mX9_group : MD := (yX9_group, cX9_group, 4, (some .long), { frames := 5, cells := 0, slots := 0, locals := 124 })
theorem M_X9_group : Mv mX9_group 3 := ⟨⟨ts_in (List.mem_of_getElem? (i := 643) (by decide +kernel)) rfl, ts_in (List.mem_of_getElem? (i := 65) (by decide +kernel)) rfl, ⟨by decide +kernel, by decide +kernel⟩, by decide +kernel, rfl, rfl⟩, ts_in (List.mem_of_getElem? (i := 641) (by decide +kernel)) rfl, ts_in (List.mem_of_getElem? (i := 642) (by decide +kernel)) rfl⟩
abbrev mX9_bears : MD := (yX9_bears, cX9_bears, 3, (some .int), { frames := 1, cells := 0, slots := 0, locals := 22 })
theorem M_X9_bears : Mv mX9_bears 1 := ⟨⟨ts_in (List.mem_of_getElem? (i := 651) (by decide +kernel)) rfl, ts_in (List.mem_of_getElem? (i := 65) (by decide +kernel)) rfl, ⟨by decide +kernel, by decide +kernel⟩, by decide +kernel, rfl, rfl⟩, ts_in (List.mem_of_getElem? (i := 649) (by decide +kernel)) rfl, ts_in (List.mem_of_getElem? (i := 650) (by decide +kernel)) rfl⟩
abbrev mX9_drought : MD := (yX9_drought, cX9_drought, 4, (some .int), { frames := 1, cells := 0, slots := 0, locals := 23 })
theorem M_X9_drought : Mv mX9_drought 3 := ⟨⟨ts_in (List.mem_of_getElem? (i := 655) (by decide +kernel)) rfl, ts_in (List.mem_of_getElem? (i := 65) (by decide +kernel)) rfl, ⟨by decide +kernel, by decide +kernel⟩, by decide +kernel, rfl, rfl⟩, ts_in (List.mem_of_getElem? (i := 653) (by decide +kernel)) rfl, ts_in (List.mem_of_getElem? (i := 654) (by decide +kernel)) rfl⟩
abbrev mX9_visit : MD := (yX9_visit, cX9_visit, 3, (some .int), { frames := 2, cells := 0, slots := 0, locals := 43 })
theorem M_X9_visit : Mv mX9_visit 2 := ⟨⟨ts_in (List.mem_of_getElem? (i := 663) (by decide +kernel)) rfl, ts_in (List.mem_of_getElem? (i := 65) (by decide +kernel)) rfl, ⟨by decide +kernel, by decide +kernel⟩, by decide +kernel, rfl, rfl⟩, ts_in (List.mem_of_getElem? (i := 661) (by decide +kernel)) rfl, ts_in (List.mem_of_getElem? (i := 662) (by decide +kernel)) rfl⟩
abbrev mX9_clear : MD := (yX9_clear, cX9_clear, 2, (some .int), { frames := 0, cells := 0, slots := 0, locals := 0 })
theorem M_X9_clear : Mv mX9_clear 0 := ⟨⟨ts_in (List.mem_of_getElem? (i := 671) (by decide +kernel)) rfl, ts_in (List.mem_of_getElem? (i := 65) (by decide +kernel)) rfl, ⟨by decide +kernel, by decide +kernel⟩, by decide +kernel, rfl, rfl⟩, ts_in (List.mem_of_getElem? (i := 669) (by decide +kernel)) rfl, ts_in (List.mem_of_getElem? (i := 670) (by decide +kernel)) rfl⟩
abbrev mX9_most : MD := (yX9_most, cX9_most, 2, (some .int), { frames := 4, cells := 0, slots := 0, locals := 98 })
theorem M_X9_most : Mv mX9_most 1 := ⟨⟨ts_in (List.mem_of_getElem? (i := 675) (by decide +kernel)) rfl, ts_in (List.mem_of_getElem? (i := 65) (by decide +kernel)) rfl, ⟨by decide +kernel, by decide +kernel⟩, by decide +kernel, rfl, rfl⟩, ts_in (List.mem_of_getElem? (i := 673) (by decide +kernel)) rfl, ts_in (List.mem_of_getElem? (i := 674) (by decide +kernel)) rfl⟩
abbrev mX9_least : MD := (yX9_least, cX9_least, 4, (some .int), { frames := 4, cells := 0, slots := 0, locals := 98 })
theorem M_X9_least : Mv mX9_least 2 := ⟨⟨ts_in (List.mem_of_getElem? (i := 706) (by decide +kernel)) rfl, ts_in (List.mem_of_getElem? (i := 65) (by decide +kernel)) rfl, ⟨by decide +kernel, by decide +kernel⟩, by decide +kernel, rfl, rfl⟩, ts_in (List.mem_of_getElem? (i := 704) (by decide +kernel)) rfl, ts_in (List.mem_of_getElem? (i := 705) (by decide +kernel)) rfl⟩
abbrev mX9_led : MD := (yX9_led, cX9_led, 3, (some .int), { frames := 1, cells := 0, slots := 0, locals := 24 })
theorem M_X9_led : Mv mX9_led 2 := ⟨⟨ts_in (List.mem_of_getElem? (i := 715) (by decide +kernel)) rfl, ts_in (List.mem_of_getElem? (i := 65) (by decide +kernel)) rfl, ⟨by decide +kernel, by decide +kernel⟩, by decide +kernel, rfl, rfl⟩, ts_in (List.mem_of_getElem? (i := 713) (by decide +kernel)) rfl, ts_in (List.mem_of_getElem? (i := 714) (by decide +kernel)) rfl⟩
abbrev mX9_count : MD := (yX9_count, cX9_count, 2, (some .int), { frames := 0, cells := 0, slots := 0, locals := 0 })
theorem M_X9_count : Mv mX9_count 1 := ⟨⟨ts_in (List.mem_of_getElem? (i := 723) (by decide +kernel)) rfl, ts_in (List.mem_of_getElem? (i := 65) (by decide +kernel)) rfl, ⟨by decide +kernel, by decide +kernel⟩, by decide +kernel, rfl, rfl⟩, ts_in (List.mem_of_getElem? (i := 721) (by decide +kernel)) rfl, ts_in (List.mem_of_getElem? (i := 722) (by decide +kernel)) rfl⟩
abbrev mX9_status : MD := (yX9_status, cX9_status, 1, (some .int), { frames := 0, cells := 0, slots := 0, locals := 0 })
theorem M_X9_status : Mv mX9_status 0 := ⟨⟨ts_in (List.mem_of_getElem? (i := 727) (by decide +kernel)) rfl, ts_in (List.mem_of_getElem? (i := 65) (by decide +kernel)) rfl, ⟨by decide +kernel, by decide +kernel⟩, by decide +kernel, rfl, rfl⟩, ts_in (List.mem_of_getElem? (i := 725) (by decide +kernel)) rfl, ts_in (List.mem_of_getElem? (i := 726) (by decide +kernel)) rfl⟩
abbrev mX9_refuse : MD := (yX9_refuse, cX9_refuse, 2, (some .int), { frames := 0, cells := 0, slots := 0, locals := 0 })
theorem M_X9_refuse : Mv mX9_refuse 1 := ⟨⟨ts_in (List.mem_of_getElem? (i := 403) (by decide +kernel)) rfl, ts_in (List.mem_of_getElem? (i := 65) (by decide +kernel)) rfl, ⟨by decide +kernel, by decide +kernel⟩, by decide +kernel, rfl, rfl⟩, ts_in (List.mem_of_getElem? (i := 402) (by decide +kernel)) rfl, ts_in (List.mem_of_getElem? (i := 2) (by decide +kernel)) rfl⟩
abbrev mX9_accept : MD := (yX9_accept, cX9_accept, 2, (some .int), { frames := 0, cells := 0, slots := 0, locals := 0 })
theorem M_X9_accept : Mv mX9_accept 1 := ⟨⟨ts_in (List.mem_of_getElem? (i := 411) (by decide +kernel)) rfl, ts_in (List.mem_of_getElem? (i := 65) (by decide +kernel)) rfl, ⟨by decide +kernel, by decide +kernel⟩, by decide +kernel, rfl, rfl⟩, ts_in (List.mem_of_getElem? (i := 410) (by decide +kernel)) rfl, ts_in (List.mem_of_getElem? (i := 4) (by decide +kernel)) rfl⟩
abbrev mX9_isNoFarmer : MD := (yX9_isNoFarmer, cX9_isNoFarmer, 2, (some .boolean), { frames := 1, cells := 0, slots := 0, locals := 22 })
theorem M_X9_isNoFarmer : Mv mX9_isNoFarmer 1 := ⟨⟨ts_in (List.mem_of_getElem? (i := 420) (by decide +kernel)) rfl, ts_in (List.mem_of_getElem? (i := 65) (by decide +kernel)) rfl, ⟨by decide +kernel, by decide +kernel⟩, by decide +kernel, rfl, rfl⟩, ts_in (List.mem_of_getElem? (i := 419) (by decide +kernel)) rfl, ts_in (List.mem_of_getElem? (i := 5) (by decide +kernel)) rfl⟩
abbrev mX9_foretold : MD := (yX9_foretold, cX9_foretold, 2, (some .long), { frames := 2, cells := 0, slots := 0, locals := 44 })
theorem M_X9_foretold : Mv mX9_foretold 1 := ⟨⟨ts_in (List.mem_of_getElem? (i := 625) (by decide +kernel)) rfl, ts_in (List.mem_of_getElem? (i := 65) (by decide +kernel)) rfl, ⟨by decide +kernel, by decide +kernel⟩, by decide +kernel, rfl, rfl⟩, ts_in (List.mem_of_getElem? (i := 624) (by decide +kernel)) rfl, ts_in (List.mem_of_getElem? (i := 30) (by decide +kernel)) rfl⟩
abbrev mX9_isShort : MD := (yX9_isShort, cX9_isShort, 2, (some .boolean), { frames := 3, cells := 0, slots := 0, locals := 65 })
theorem M_X9_isShort : Mv mX9_isShort 1 := ⟨⟨ts_in (List.mem_of_getElem? (i := 638) (by decide +kernel)) rfl, ts_in (List.mem_of_getElem? (i := 65) (by decide +kernel)) rfl, ⟨by decide +kernel, by decide +kernel⟩, by decide +kernel, rfl, rfl⟩, ts_in (List.mem_of_getElem? (i := 637) (by decide +kernel)) rfl, ts_in (List.mem_of_getElem? (i := 33) (by decide +kernel)) rfl⟩
abbrev mX9_outside : MD := (yX9_outside, cX9_outside, 3, (some .boolean), { frames := 0, cells := 0, slots := 0, locals := 0 })
theorem M_X9_outside : Ms mX9_outside 3 := ⟨⟨ts_in (List.mem_of_getElem? (i := 399) (by decide +kernel)) rfl, ts_in (List.mem_of_getElem? (i := 65) (by decide +kernel)) rfl, ⟨by decide +kernel, by decide +kernel⟩, by decide +kernel, rfl, rfl⟩, ts_in (List.mem_of_getElem? (i := 398) (by decide +kernel)) rfl⟩
abbrev mX10_in : MD := (yX10_in, cX10_in, 6, (some .boolean), { frames := 0, cells := 0, slots := 0, locals := 0 })
theorem M_X10_in : Ms mX10_in 3 := ⟨⟨ts_in (List.mem_of_getElem? (i := 901) (by decide +kernel)) rfl, ts_in (List.mem_of_getElem? (i := 76) (by decide +kernel)) rfl, ⟨by decide +kernel, by decide +kernel⟩, by decide +kernel, rfl, rfl⟩, ts_in (List.mem_of_getElem? (i := 900) (by decide +kernel)) rfl⟩
abbrev mX10_told : MD := (yX10_told, cX10_told, 2, (some .int), { frames := 0, cells := 0, slots := 0, locals := 0 })
theorem M_X10_told : Mv mX10_told 1 := ⟨⟨ts_in (List.mem_of_getElem? (i := 907) (by decide +kernel)) rfl, ts_in (List.mem_of_getElem? (i := 76) (by decide +kernel)) rfl, ⟨by decide +kernel, by decide +kernel⟩, by decide +kernel, rfl, rfl⟩, ts_in (List.mem_of_getElem? (i := 906) (by decide +kernel)) rfl, ts_in (List.mem_of_getElem? (i := 45) (by decide +kernel)) rfl⟩
abbrev mX10_isDay : MD := (yX10_isDay, cX10_isDay, 1, (some .boolean), { frames := 1, cells := 0, slots := 0, locals := 25 })
theorem M_X10_isDay : Ms mX10_isDay 1 := ⟨⟨ts_in (List.mem_of_getElem? (i := 915) (by decide +kernel)) rfl, ts_in (List.mem_of_getElem? (i := 76) (by decide +kernel)) rfl, ⟨by decide +kernel, by decide +kernel⟩, by decide +kernel, rfl, rfl⟩, ts_in (List.mem_of_getElem? (i := 914) (by decide +kernel)) rfl⟩
abbrev mX10_isFarmer : MD := (yX10_isFarmer, cX10_isFarmer, 2, (some .boolean), { frames := 1, cells := 0, slots := 0, locals := 25 })
theorem M_X10_isFarmer : Mv mX10_isFarmer 1 := ⟨⟨ts_in (List.mem_of_getElem? (i := 920) (by decide +kernel)) rfl, ts_in (List.mem_of_getElem? (i := 76) (by decide +kernel)) rfl, ⟨by decide +kernel, by decide +kernel⟩, by decide +kernel, rfl, rfl⟩, ts_in (List.mem_of_getElem? (i := 919) (by decide +kernel)) rfl, ts_in (List.mem_of_getElem? (i := 46) (by decide +kernel)) rfl⟩
abbrev mX10_farmer : MD := (yX10_farmer, cX10_farmer, 4, (some .int), { frames := 1, cells := 0, slots := 0, locals := 25 })
theorem M_X10_farmer : Mv mX10_farmer 3 := ⟨⟨ts_in (List.mem_of_getElem? (i := 897) (by decide +kernel)) rfl, ts_in (List.mem_of_getElem? (i := 76) (by decide +kernel)) rfl, ⟨by decide +kernel, by decide +kernel⟩, by decide +kernel, rfl, rfl⟩, ts_in (List.mem_of_getElem? (i := 895) (by decide +kernel)) rfl, ts_in (List.mem_of_getElem? (i := 896) (by decide +kernel)) rfl⟩
abbrev mX10_credit : MD := (yX10_credit, cX10_credit, 4, (some .int), { frames := 2, cells := 0, slots := 0, locals := 46 })
theorem M_X10_credit : Mv mX10_credit 3 := ⟨⟨ts_in (List.mem_of_getElem? (i := 911) (by decide +kernel)) rfl, ts_in (List.mem_of_getElem? (i := 76) (by decide +kernel)) rfl, ⟨by decide +kernel, by decide +kernel⟩, by decide +kernel, rfl, rfl⟩, ts_in (List.mem_of_getElem? (i := 909) (by decide +kernel)) rfl, ts_in (List.mem_of_getElem? (i := 910) (by decide +kernel)) rfl⟩
abbrev mX10_basket : MD := (yX10_basket, cX10_basket, 5, (some .int), { frames := 2, cells := 0, slots := 0, locals := 46 })
theorem M_X10_basket : Mv mX10_basket 4 := ⟨⟨ts_in (List.mem_of_getElem? (i := 924) (by decide +kernel)) rfl, ts_in (List.mem_of_getElem? (i := 76) (by decide +kernel)) rfl, ⟨by decide +kernel, by decide +kernel⟩, by decide +kernel, rfl, rfl⟩, ts_in (List.mem_of_getElem? (i := 922) (by decide +kernel)) rfl, ts_in (List.mem_of_getElem? (i := 923) (by decide +kernel)) rfl⟩
abbrev mX10_four : MD := (yX10_four, cX10_four, 3, none, { frames := 0, cells := 0, slots := 0, locals := 0 })
theorem M_X10_four : Mv mX10_four 1 := ⟨⟨ts_in (List.mem_of_getElem? (i := 933) (by decide +kernel)) rfl, ts_in (List.mem_of_getElem? (i := 76) (by decide +kernel)) rfl, ⟨by decide +kernel, by decide +kernel⟩, by decide +kernel, rfl, rfl⟩, ts_in (List.mem_of_getElem? (i := 932) (by decide +kernel)) rfl, ts_in (List.mem_of_getElem? (i := 47) (by decide +kernel)) rfl⟩
abbrev mX10_feed : MD := (yX10_feed, cX10_feed, 6, (some .int), { frames := 1, cells := 0, slots := 0, locals := 22 })
theorem M_X10_feed : Mv mX10_feed 5 := ⟨⟨ts_in (List.mem_of_getElem? (i := 929) (by decide +kernel)) rfl, ts_in (List.mem_of_getElem? (i := 76) (by decide +kernel)) rfl, ⟨by decide +kernel, by decide +kernel⟩, by decide +kernel, rfl, rfl⟩, ts_in (List.mem_of_getElem? (i := 927) (by decide +kernel)) rfl, ts_in (List.mem_of_getElem? (i := 928) (by decide +kernel)) rfl⟩
abbrev mX10_end : MD := (yX10_end, cX10_end, 2, (some .int), { frames := 0, cells := 0, slots := 0, locals := 0 })
theorem M_X10_end : Mv mX10_end 1 := ⟨⟨ts_in (List.mem_of_getElem? (i := 937) (by decide +kernel)) rfl, ts_in (List.mem_of_getElem? (i := 76) (by decide +kernel)) rfl, ⟨by decide +kernel, by decide +kernel⟩, by decide +kernel, rfl, rfl⟩, ts_in (List.mem_of_getElem? (i := 935) (by decide +kernel)) rfl, ts_in (List.mem_of_getElem? (i := 936) (by decide +kernel)) rfl⟩
abbrev mX10_isSmall : MD := (yX10_isSmall, cX10_isSmall, 1, (some .boolean), { frames := 0, cells := 0, slots := 0, locals := 0 })
theorem M_X10_isSmall : Ms mX10_isSmall 1 := ⟨⟨ts_in (List.mem_of_getElem? (i := 948) (by decide +kernel)) rfl, ts_in (List.mem_of_getElem? (i := 76) (by decide +kernel)) rfl, ⟨by decide +kernel, by decide +kernel⟩, by decide +kernel, rfl, rfl⟩, ts_in (List.mem_of_getElem? (i := 947) (by decide +kernel)) rfl⟩
abbrev mX10_isDigit : MD := (yX10_isDigit, cX10_isDigit, 1, (some .boolean), { frames := 0, cells := 0, slots := 0, locals := 0 })
theorem M_X10_isDigit : Ms mX10_isDigit 1 := ⟨⟨ts_in (List.mem_of_getElem? (i := 951) (by decide +kernel)) rfl, ts_in (List.mem_of_getElem? (i := 76) (by decide +kernel)) rfl, ⟨by decide +kernel, by decide +kernel⟩, by decide +kernel, rfl, rfl⟩, ts_in (List.mem_of_getElem? (i := 950) (by decide +kernel)) rfl⟩
abbrev mX10_next : MD := (yX10_next, cX10_next, 1, none, { frames := 1, cells := 0, slots := 0, locals := 20 })
theorem M_X10_next : Mv mX10_next 0 := ⟨⟨ts_in (List.mem_of_getElem? (i := 945) (by decide +kernel)) rfl, ts_in (List.mem_of_getElem? (i := 76) (by decide +kernel)) rfl, ⟨by decide +kernel, by decide +kernel⟩, by decide +kernel, rfl, rfl⟩, ts_in (List.mem_of_getElem? (i := 944) (by decide +kernel)) rfl, ts_in (List.mem_of_getElem? (i := 48) (by decide +kernel)) rfl⟩
abbrev mX10_isWord : MD := (yX10_isWord, cX10_isWord, 8, (some .boolean), { frames := 0, cells := 0, slots := 0, locals := 0 })
theorem M_X10_isWord : Mv mX10_isWord 5 := ⟨⟨ts_in (List.mem_of_getElem? (i := 965) (by decide +kernel)) rfl, ts_in (List.mem_of_getElem? (i := 76) (by decide +kernel)) rfl, ⟨by decide +kernel, by decide +kernel⟩, by decide +kernel, rfl, rfl⟩, ts_in (List.mem_of_getElem? (i := 964) (by decide +kernel)) rfl, ts_in (List.mem_of_getElem? (i := 50) (by decide +kernel)) rfl⟩
abbrev mX10_must : MD := (yX10_must, cX10_must, 2, none, { frames := 2, cells := 0, slots := 0, locals := 40 })
theorem M_X10_must : Mv mX10_must 1 := ⟨⟨ts_in (List.mem_of_getElem? (i := 973) (by decide +kernel)) rfl, ts_in (List.mem_of_getElem? (i := 76) (by decide +kernel)) rfl, ⟨by decide +kernel, by decide +kernel⟩, by decide +kernel, rfl, rfl⟩, ts_in (List.mem_of_getElem? (i := 972) (by decide +kernel)) rfl, ts_in (List.mem_of_getElem? (i := 52) (by decide +kernel)) rfl⟩
abbrev mX10_number : MD := (yX10_number, cX10_number, 6, (some .int), { frames := 3, cells := 0, slots := 0, locals := 61 })
theorem M_X10_number : Mv mX10_number 2 := ⟨⟨ts_in (List.mem_of_getElem? (i := 977) (by decide +kernel)) rfl, ts_in (List.mem_of_getElem? (i := 76) (by decide +kernel)) rfl, ⟨by decide +kernel, by decide +kernel⟩, by decide +kernel, rfl, rfl⟩, ts_in (List.mem_of_getElem? (i := 976) (by decide +kernel)) rfl, ts_in (List.mem_of_getElem? (i := 53) (by decide +kernel)) rfl⟩
abbrev mX10_partAt : MD := (yX10_partAt, cX10_partAt, 1, (some .int), { frames := 1, cells := 0, slots := 0, locals := 27 })
theorem M_X10_partAt : Mv mX10_partAt 0 := ⟨⟨ts_in (List.mem_of_getElem? (i := 969) (by decide +kernel)) rfl, ts_in (List.mem_of_getElem? (i := 76) (by decide +kernel)) rfl, ⟨by decide +kernel, by decide +kernel⟩, by decide +kernel, rfl, rfl⟩, ts_in (List.mem_of_getElem? (i := 968) (by decide +kernel)) rfl, ts_in (List.mem_of_getElem? (i := 51) (by decide +kernel)) rfl⟩
abbrev mX10_readClause : MD := (yX10_readClause, cX10_readClause, 7, none, { frames := 4, cells := 0, slots := 0, locals := 86 })
theorem M_X10_readClause : Mv mX10_readClause 0 := ⟨⟨ts_in (List.mem_of_getElem? (i := 961) (by decide +kernel)) rfl, ts_in (List.mem_of_getElem? (i := 76) (by decide +kernel)) rfl, ⟨by decide +kernel, by decide +kernel⟩, by decide +kernel, rfl, rfl⟩, ts_in (List.mem_of_getElem? (i := 960) (by decide +kernel)) rfl, ts_in (List.mem_of_getElem? (i := 49) (by decide +kernel)) rfl⟩
abbrev mX10_contract : MD := (yX10_contract, cX10_contract, 2, (some .int), { frames := 5, cells := 0, slots := 0, locals := 112 })
theorem M_X10_contract : Mv mX10_contract 0 := ⟨⟨ts_in (List.mem_of_getElem? (i := 941) (by decide +kernel)) rfl, ts_in (List.mem_of_getElem? (i := 76) (by decide +kernel)) rfl, ⟨by decide +kernel, by decide +kernel⟩, by decide +kernel, rfl, rfl⟩, ts_in (List.mem_of_getElem? (i := 939) (by decide +kernel)) rfl, ts_in (List.mem_of_getElem? (i := 940) (by decide +kernel)) rfl⟩
abbrev mX10_fault : MD := (yX10_fault, cX10_fault, 1, (some .int), { frames := 0, cells := 0, slots := 0, locals := 0 })
theorem M_X10_fault : Mv mX10_fault 0 := ⟨⟨ts_in (List.mem_of_getElem? (i := 982) (by decide +kernel)) rfl, ts_in (List.mem_of_getElem? (i := 76) (by decide +kernel)) rfl, ⟨by decide +kernel, by decide +kernel⟩, by decide +kernel, rfl, rfl⟩, ts_in (List.mem_of_getElem? (i := 980) (by decide +kernel)) rfl, ts_in (List.mem_of_getElem? (i := 981) (by decide +kernel)) rfl⟩
abbrev mX10_partOf : MD := (yX10_partOf, cX10_partOf, 4, (some .long), { frames := 0, cells := 0, slots := 0, locals := 0 })
theorem M_X10_partOf : Mv mX10_partOf 2 := ⟨⟨ts_in (List.mem_of_getElem? (i := 1004) (by decide +kernel)) rfl, ts_in (List.mem_of_getElem? (i := 76) (by decide +kernel)) rfl, ⟨by decide +kernel, by decide +kernel⟩, by decide +kernel, rfl, rfl⟩, ts_in (List.mem_of_getElem? (i := 1003) (by decide +kernel)) rfl, ts_in (List.mem_of_getElem? (i := 55) (by decide +kernel)) rfl⟩
abbrev mX10_reckon : MD := (yX10_reckon, cX10_reckon, 6, none, { frames := 2, cells := 0, slots := 0, locals := 62 })
theorem M_X10_reckon : Mv mX10_reckon 1 := ⟨⟨ts_in (List.mem_of_getElem? (i := 999) (by decide +kernel)) rfl, ts_in (List.mem_of_getElem? (i := 76) (by decide +kernel)) rfl, ⟨by decide +kernel, by decide +kernel⟩, by decide +kernel, rfl, rfl⟩, ts_in (List.mem_of_getElem? (i := 998) (by decide +kernel)) rfl, ts_in (List.mem_of_getElem? (i := 54) (by decide +kernel)) rfl⟩
abbrev mX10_givenAt : MD := (yX10_givenAt, cX10_givenAt, 7, (some .long), { frames := 0, cells := 0, slots := 0, locals := 0 })
theorem M_X10_givenAt : Mv mX10_givenAt 2 := ⟨⟨ts_in (List.mem_of_getElem? (i := 1013) (by decide +kernel)) rfl, ts_in (List.mem_of_getElem? (i := 76) (by decide +kernel)) rfl, ⟨by decide +kernel, by decide +kernel⟩, by decide +kernel, rfl, rfl⟩, ts_in (List.mem_of_getElem? (i := 1012) (by decide +kernel)) rfl, ts_in (List.mem_of_getElem? (i := 57) (by decide +kernel)) rfl⟩
abbrev mX10_stand : MD := (yX10_stand, cX10_stand, 17, none, { frames := 1, cells := 0, slots := 0, locals := 26 })
theorem M_X10_stand : Mv mX10_stand 1 := ⟨⟨ts_in (List.mem_of_getElem? (i := 1008) (by decide +kernel)) rfl, ts_in (List.mem_of_getElem? (i := 76) (by decide +kernel)) rfl, ⟨by decide +kernel, by decide +kernel⟩, by decide +kernel, rfl, rfl⟩, ts_in (List.mem_of_getElem? (i := 1007) (by decide +kernel)) rfl, ts_in (List.mem_of_getElem? (i := 56) (by decide +kernel)) rfl⟩
abbrev mX10_bears : MD := (yX10_bears, cX10_bears, 3, (some .int), { frames := 1, cells := 0, slots := 0, locals := 25 })
theorem M_X10_bears : Mv mX10_bears 1 := ⟨⟨ts_in (List.mem_of_getElem? (i := 986) (by decide +kernel)) rfl, ts_in (List.mem_of_getElem? (i := 76) (by decide +kernel)) rfl, ⟨by decide +kernel, by decide +kernel⟩, by decide +kernel, rfl, rfl⟩, ts_in (List.mem_of_getElem? (i := 984) (by decide +kernel)) rfl, ts_in (List.mem_of_getElem? (i := 985) (by decide +kernel)) rfl⟩
abbrev mX10_drought : MD := (yX10_drought, cX10_drought, 4, (some .int), { frames := 1, cells := 0, slots := 0, locals := 25 })
theorem M_X10_drought : Mv mX10_drought 3 := ⟨⟨ts_in (List.mem_of_getElem? (i := 990) (by decide +kernel)) rfl, ts_in (List.mem_of_getElem? (i := 76) (by decide +kernel)) rfl, ⟨by decide +kernel, by decide +kernel⟩, by decide +kernel, rfl, rfl⟩, ts_in (List.mem_of_getElem? (i := 988) (by decide +kernel)) rfl, ts_in (List.mem_of_getElem? (i := 989) (by decide +kernel)) rfl⟩
abbrev mX10_foretold : MD := (yX10_foretold, cX10_foretold, 4, (some .long), { frames := 1, cells := 0, slots := 0, locals := 25 })
theorem M_X10_foretold : Mv mX10_foretold 1 := ⟨⟨ts_in (List.mem_of_getElem? (i := 1017) (by decide +kernel)) rfl, ts_in (List.mem_of_getElem? (i := 76) (by decide +kernel)) rfl, ⟨by decide +kernel, by decide +kernel⟩, by decide +kernel, rfl, rfl⟩, ts_in (List.mem_of_getElem? (i := 1016) (by decide +kernel)) rfl, ts_in (List.mem_of_getElem? (i := 58) (by decide +kernel)) rfl⟩
abbrev mX10_of : MD := (yX10_of, cX10_of, 4, (some .long), { frames := 3, cells := 0, slots := 0, locals := 87 })
theorem M_X10_of : Mv mX10_of 3 := ⟨⟨ts_in (List.mem_of_getElem? (i := 995) (by decide +kernel)) rfl, ts_in (List.mem_of_getElem? (i := 76) (by decide +kernel)) rfl, ⟨by decide +kernel, by decide +kernel⟩, by decide +kernel, rfl, rfl⟩, ts_in (List.mem_of_getElem? (i := 993) (by decide +kernel)) rfl, ts_in (List.mem_of_getElem? (i := 994) (by decide +kernel)) rfl⟩
abbrev mX10_group : MD := (yX10_group, cX10_group, 7, (some .long), { frames := 3, cells := 0, slots := 0, locals := 87 })
theorem M_X10_group : Mv mX10_group 3 := ⟨⟨ts_in (List.mem_of_getElem? (i := 1021) (by decide +kernel)) rfl, ts_in (List.mem_of_getElem? (i := 76) (by decide +kernel)) rfl, ⟨by decide +kernel, by decide +kernel⟩, by decide +kernel, rfl, rfl⟩, ts_in (List.mem_of_getElem? (i := 1019) (by decide +kernel)) rfl, ts_in (List.mem_of_getElem? (i := 1020) (by decide +kernel)) rfl⟩
abbrev mX10_visit : MD := (yX10_visit, cX10_visit, 3, (some .int), { frames := 2, cells := 0, slots := 0, locals := 46 })
theorem M_X10_visit : Mv mX10_visit 2 := ⟨⟨ts_in (List.mem_of_getElem? (i := 1026) (by decide +kernel)) rfl, ts_in (List.mem_of_getElem? (i := 76) (by decide +kernel)) rfl, ⟨by decide +kernel, by decide +kernel⟩, by decide +kernel, rfl, rfl⟩, ts_in (List.mem_of_getElem? (i := 1024) (by decide +kernel)) rfl, ts_in (List.mem_of_getElem? (i := 1025) (by decide +kernel)) rfl⟩
abbrev mX10_clear : MD := (yX10_clear, cX10_clear, 2, (some .int), { frames := 0, cells := 0, slots := 0, locals := 0 })
theorem M_X10_clear : Mv mX10_clear 0 := ⟨⟨ts_in (List.mem_of_getElem? (i := 1031) (by decide +kernel)) rfl, ts_in (List.mem_of_getElem? (i := 76) (by decide +kernel)) rfl, ⟨by decide +kernel, by decide +kernel⟩, by decide +kernel, rfl, rfl⟩, ts_in (List.mem_of_getElem? (i := 1029) (by decide +kernel)) rfl, ts_in (List.mem_of_getElem? (i := 1030) (by decide +kernel)) rfl⟩
abbrev mX10_addPlace : MD := (yX10_addPlace, cX10_addPlace, 4, none, { frames := 0, cells := 0, slots := 0, locals := 0 })
theorem M_X10_addPlace : Mv mX10_addPlace 1 := ⟨⟨ts_in (List.mem_of_getElem? (i := 1043) (by decide +kernel)) rfl, ts_in (List.mem_of_getElem? (i := 76) (by decide +kernel)) rfl, ⟨by decide +kernel, by decide +kernel⟩, by decide +kernel, rfl, rfl⟩, ts_in (List.mem_of_getElem? (i := 1042) (by decide +kernel)) rfl, ts_in (List.mem_of_getElem? (i := 60) (by decide +kernel)) rfl⟩
abbrev mX10_metAt : MD := (yX10_metAt, cX10_metAt, 5, (some .int), { frames := 0, cells := 0, slots := 0, locals := 0 })
theorem M_X10_metAt : Mv mX10_metAt 2 := ⟨⟨ts_in (List.mem_of_getElem? (i := 1048) (by decide +kernel)) rfl, ts_in (List.mem_of_getElem? (i := 76) (by decide +kernel)) rfl, ⟨by decide +kernel, by decide +kernel⟩, by decide +kernel, rfl, rfl⟩, ts_in (List.mem_of_getElem? (i := 1047) (by decide +kernel)) rfl, ts_in (List.mem_of_getElem? (i := 61) (by decide +kernel)) rfl⟩
abbrev mX10_at : MD := (yX10_at, cX10_at, 4, (some .int), { frames := 0, cells := 0, slots := 0, locals := 0 })
theorem M_X10_at : Ms mX10_at 4 := ⟨⟨ts_in (List.mem_of_getElem? (i := 1051) (by decide +kernel)) rfl, ts_in (List.mem_of_getElem? (i := 76) (by decide +kernel)) rfl, ⟨by decide +kernel, by decide +kernel⟩, by decide +kernel, rfl, rfl⟩, ts_in (List.mem_of_getElem? (i := 1050) (by decide +kernel)) rfl⟩
abbrev mX10_widen : MD := (yX10_widen, cX10_widen, 12, none, { frames := 1, cells := 0, slots := 0, locals := 24 })
theorem M_X10_widen : Mv mX10_widen 6 := ⟨⟨ts_in (List.mem_of_getElem? (i := 1055) (by decide +kernel)) rfl, ts_in (List.mem_of_getElem? (i := 76) (by decide +kernel)) rfl, ⟨by decide +kernel, by decide +kernel⟩, by decide +kernel, rfl, rfl⟩, ts_in (List.mem_of_getElem? (i := 1054) (by decide +kernel)) rfl, ts_in (List.mem_of_getElem? (i := 62) (by decide +kernel)) rfl⟩
abbrev mX10_walk : MD := (yX10_walk, cX10_walk, 8, none, { frames := 2, cells := 0, slots := 0, locals := 55 })
theorem M_X10_walk : Mv mX10_walk 1 := ⟨⟨ts_in (List.mem_of_getElem? (i := 1039) (by decide +kernel)) rfl, ts_in (List.mem_of_getElem? (i := 76) (by decide +kernel)) rfl, ⟨by decide +kernel, by decide +kernel⟩, by decide +kernel, rfl, rfl⟩, ts_in (List.mem_of_getElem? (i := 1038) (by decide +kernel)) rfl, ts_in (List.mem_of_getElem? (i := 59) (by decide +kernel)) rfl⟩
abbrev mX10_leastOf : MD := (yX10_leastOf, cX10_leastOf, 8, (some .int), { frames := 1, cells := 0, slots := 0, locals := 23 })
theorem M_X10_leastOf : Mv mX10_leastOf 1 := ⟨⟨ts_in (List.mem_of_getElem? (i := 1059) (by decide +kernel)) rfl, ts_in (List.mem_of_getElem? (i := 76) (by decide +kernel)) rfl, ⟨by decide +kernel, by decide +kernel⟩, by decide +kernel, rfl, rfl⟩, ts_in (List.mem_of_getElem? (i := 1058) (by decide +kernel)) rfl, ts_in (List.mem_of_getElem? (i := 63) (by decide +kernel)) rfl⟩
abbrev mX10_most : MD := (yX10_most, cX10_most, 3, (some .int), { frames := 3, cells := 0, slots := 0, locals := 82 })
theorem M_X10_most : Mv mX10_most 1 := ⟨⟨ts_in (List.mem_of_getElem? (i := 1035) (by decide +kernel)) rfl, ts_in (List.mem_of_getElem? (i := 76) (by decide +kernel)) rfl, ⟨by decide +kernel, by decide +kernel⟩, by decide +kernel, rfl, rfl⟩, ts_in (List.mem_of_getElem? (i := 1033) (by decide +kernel)) rfl, ts_in (List.mem_of_getElem? (i := 1034) (by decide +kernel)) rfl⟩
abbrev mX10_least : MD := (yX10_least, cX10_least, 4, (some .int), { frames := 3, cells := 0, slots := 0, locals := 82 })
theorem M_X10_least : Mv mX10_least 2 := ⟨⟨ts_in (List.mem_of_getElem? (i := 1063) (by decide +kernel)) rfl, ts_in (List.mem_of_getElem? (i := 76) (by decide +kernel)) rfl, ⟨by decide +kernel, by decide +kernel⟩, by decide +kernel, rfl, rfl⟩, ts_in (List.mem_of_getElem? (i := 1061) (by decide +kernel)) rfl, ts_in (List.mem_of_getElem? (i := 1062) (by decide +kernel)) rfl⟩
abbrev mX10_led : MD := (yX10_led, cX10_led, 5, (some .int), { frames := 2, cells := 0, slots := 0, locals := 45 })
theorem M_X10_led : Mv mX10_led 2 := ⟨⟨ts_in (List.mem_of_getElem? (i := 1067) (by decide +kernel)) rfl, ts_in (List.mem_of_getElem? (i := 76) (by decide +kernel)) rfl, ⟨by decide +kernel, by decide +kernel⟩, by decide +kernel, rfl, rfl⟩, ts_in (List.mem_of_getElem? (i := 1065) (by decide +kernel)) rfl, ts_in (List.mem_of_getElem? (i := 1066) (by decide +kernel)) rfl⟩
abbrev mX10_count : MD := (yX10_count, cX10_count, 4, (some .int), { frames := 0, cells := 0, slots := 0, locals := 0 })
theorem M_X10_count : Mv mX10_count 1 := ⟨⟨ts_in (List.mem_of_getElem? (i := 1071) (by decide +kernel)) rfl, ts_in (List.mem_of_getElem? (i := 76) (by decide +kernel)) rfl, ⟨by decide +kernel, by decide +kernel⟩, by decide +kernel, rfl, rfl⟩, ts_in (List.mem_of_getElem? (i := 1069) (by decide +kernel)) rfl, ts_in (List.mem_of_getElem? (i := 1070) (by decide +kernel)) rfl⟩
abbrev mX10_status : MD := (yX10_status, cX10_status, 1, (some .int), { frames := 0, cells := 0, slots := 0, locals := 0 })
theorem M_X10_status : Mv mX10_status 0 := ⟨⟨ts_in (List.mem_of_getElem? (i := 1075) (by decide +kernel)) rfl, ts_in (List.mem_of_getElem? (i := 76) (by decide +kernel)) rfl, ⟨by decide +kernel, by decide +kernel⟩, by decide +kernel, rfl, rfl⟩, ts_in (List.mem_of_getElem? (i := 1073) (by decide +kernel)) rfl, ts_in (List.mem_of_getElem? (i := 1074) (by decide +kernel)) rfl⟩
abbrev mJ0_length_8abf5 : MD := (yJ0_length_8abf5, cJ0_length_8abf5, 1, (some .int), { frames := 1, cells := 0, slots := 0, locals := 20 })
theorem M_J0_length_8abf5 : Mv mJ0_length_8abf5 0 := ⟨⟨ts_in (List.mem_of_getElem? (i := 474) (by decide +kernel)) rfl, ts_in (List.mem_of_getElem? (i := 77) (by decide +kernel)) rfl, ⟨by decide +kernel, by decide +kernel⟩, by decide +kernel, rfl, rfl⟩, ts_in (List.mem_of_getElem? (i := 472) (by decide +kernel)) rfl, ts_in (List.mem_of_getElem? (i := 473) (by decide +kernel)) rfl⟩
abbrev mJ0_charAt_5068e : MD := (yJ0_charAt_5068e, cJ0_charAt_5068e, 2, (some .char), { frames := 3, cells := 0, slots := 0, locals := 64 })
theorem M_J0_charAt_5068e : Mv mJ0_charAt_5068e 1 := ⟨⟨ts_in (List.mem_of_getElem? (i := 484) (by decide +kernel)) rfl, ts_in (List.mem_of_getElem? (i := 77) (by decide +kernel)) rfl, ⟨by decide +kernel, by decide +kernel⟩, by decide +kernel, rfl, rfl⟩, ts_in (List.mem_of_getElem? (i := 482) (by decide +kernel)) rfl, ts_in (List.mem_of_getElem? (i := 483) (by decide +kernel)) rfl⟩
abbrev mJ0_coder_7d493 : MD := (yJ0_coder_7d493, cJ0_coder_7d493, 1, (some .byte), { frames := 0, cells := 0, slots := 0, locals := 0 })
theorem M_J0_coder_7d493 : Mv mJ0_coder_7d493 0 := ⟨⟨ts_in (List.mem_of_getElem? (i := 478) (by decide +kernel)) rfl, ts_in (List.mem_of_getElem? (i := 77) (by decide +kernel)) rfl, ⟨by decide +kernel, by decide +kernel⟩, by decide +kernel, rfl, rfl⟩, ts_in (List.mem_of_getElem? (i := 476) (by decide +kernel)) rfl, ts_in (List.mem_of_getElem? (i := 477) (by decide +kernel)) rfl⟩
abbrev mJ0_isLatin1_aae02 : MD := (yJ0_isLatin1_aae02, cJ0_isLatin1_aae02, 1, (some .boolean), { frames := 0, cells := 0, slots := 0, locals := 0 })
theorem M_J0_isLatin1_aae02 : Mv mJ0_isLatin1_aae02 0 := ⟨⟨ts_in (List.mem_of_getElem? (i := 488) (by decide +kernel)) rfl, ts_in (List.mem_of_getElem? (i := 77) (by decide +kernel)) rfl, ⟨by decide +kernel, by decide +kernel⟩, by decide +kernel, rfl, rfl⟩, ts_in (List.mem_of_getElem? (i := 486) (by decide +kernel)) rfl, ts_in (List.mem_of_getElem? (i := 487) (by decide +kernel)) rfl⟩
abbrev mJ1_charAt_3b067 : MD := (yJ1_charAt_3b067, cJ1_charAt_3b067, 2, (some .char), { frames := 2, cells := 0, slots := 0, locals := 43 })
theorem M_J1_charAt_3b067 : Ms mJ1_charAt_3b067 2 := ⟨⟨ts_in (List.mem_of_getElem? (i := 491) (by decide +kernel)) rfl, ts_in (List.mem_of_getElem? (i := 78) (by decide +kernel)) rfl, ⟨by decide +kernel, by decide +kernel⟩, by decide +kernel, rfl, rfl⟩, ts_in (List.mem_of_getElem? (i := 490) (by decide +kernel)) rfl⟩
abbrev mJ7_fill_d0a16 : MD := (yJ7_fill_d0a16, cJ7_fill_d0a16, 5, none, { frames := 0, cells := 0, slots := 0, locals := 0 })
theorem M_J7_fill_d0a16 : Ms mJ7_fill_d0a16 2 := ⟨⟨ts_in (List.mem_of_getElem? (i := 569) (by decide +kernel)) rfl, ts_in (List.mem_of_getElem? (i := 74) (by decide +kernel)) rfl, ⟨by decide +kernel, by decide +kernel⟩, by decide +kernel, rfl, rfl⟩, ts_in (List.mem_of_getElem? (i := 568) (by decide +kernel)) rfl⟩
abbrev mJ7_fill_53178 : MD := (yJ7_fill_53178, cJ7_fill_53178, 4, none, { frames := 0, cells := 0, slots := 0, locals := 0 })
theorem M_J7_fill_53178 : Ms mJ7_fill_53178 2 := ⟨⟨ts_in (List.mem_of_getElem? (i := 307) (by decide +kernel)) rfl, ts_in (List.mem_of_getElem? (i := 74) (by decide +kernel)) rfl, ⟨by decide +kernel, by decide +kernel⟩, by decide +kernel, rfl, rfl⟩, ts_in (List.mem_of_getElem? (i := 306) (by decide +kernel)) rfl⟩
theorem Cn_X6_37 : Cond.constant RX6 37 (1000000) ∈ Ts := ts_in (List.mem_of_getElem? (i := 680) (by decide +kernel)) rfl
theorem Cn_X9_102 : Cond.constant RX9 102 (100000) ∈ Ts := ts_in (List.mem_of_getElem? (i := 416) (by decide +kernel)) rfl
theorem Cn_X9_205 : Cond.constant RX9 205 (1000000) ∈ Ts := ts_in (List.mem_of_getElem? (i := 711) (by decide +kernel)) rfl
theorem Cn_X10_278 : Cond.constant RX10 278 (1000000000) ∈ Ts := ts_in (List.mem_of_getElem? (i := 1044) (by decide +kernel)) rfl
theorem Cn_X1_144 : Cond.constantLong RX1 144 (1073741824) ∈ Ts := ts_in (List.mem_of_getElem? (i := 611) (by decide +kernel)) rfl
theorem Cn_X5_32 : Cond.constantLong RX5 32 (100) ∈ Ts := ts_in (List.mem_of_getElem? (i := 634) (by decide +kernel)) rfl
theorem Cn_X9_127 : Cond.constantLong RX9 127 (-1) ∈ Ts := ts_in (List.mem_of_getElem? (i := 562) (by decide +kernel)) rfl
theorem Cn_X10_123 : Cond.constantLong RX10 123 (400) ∈ Ts := ts_in (List.mem_of_getElem? (i := 916) (by decide +kernel)) rfl
theorem Cn_X10_132 : Cond.constantLong RX10 132 (9) ∈ Ts := ts_in (List.mem_of_getElem? (i := 898) (by decide +kernel)) rfl
theorem Cn_X10_134 : Cond.constantLong RX10 134 (1000) ∈ Ts := ts_in (List.mem_of_getElem? (i := 902) (by decide +kernel)) rfl
theorem Cn_X10_136 : Cond.constantLong RX10 136 (50) ∈ Ts := ts_in (List.mem_of_getElem? (i := 903) (by decide +kernel)) rfl
theorem Cn_X10_142 : Cond.constantLong RX10 142 (100000) ∈ Ts := ts_in (List.mem_of_getElem? (i := 912) (by decide +kernel)) rfl
theorem Cn_X10_154 : Cond.constantLong RX10 154 (4) ∈ Ts := ts_in (List.mem_of_getElem? (i := 925) (by decide +kernel)) rfl
theorem Cn_X10_185 : Cond.constantLong RX10 185 (32) ∈ Ts := ts_in (List.mem_of_getElem? (i := 952) (by decide +kernel)) rfl
theorem Cn_X10_187 : Cond.constantLong RX10 187 (96) ∈ Ts := ts_in (List.mem_of_getElem? (i := 953) (by decide +kernel)) rfl
theorem Cn_X10_189 : Cond.constantLong RX10 189 (-1) ∈ Ts := ts_in (List.mem_of_getElem? (i := 954) (by decide +kernel)) rfl
theorem Cn_X10_191 : Cond.constantLong RX10 191 (10000) ∈ Ts := ts_in (List.mem_of_getElem? (i := 955) (by decide +kernel)) rfl
theorem Cn_X10_193 : Cond.constantLong RX10 193 (10) ∈ Ts := ts_in (List.mem_of_getElem? (i := 956) (by decide +kernel)) rfl
theorem Cn_X10_195 : Cond.constantLong RX10 195 (48) ∈ Ts := ts_in (List.mem_of_getElem? (i := 957) (by decide +kernel)) rfl
theorem Cn_X10_229 : Cond.constantLong RX10 229 (59) ∈ Ts := ts_in (List.mem_of_getElem? (i := 978) (by decide +kernel)) rfl
theorem Cn_X10_234 : Cond.constantLong RX10 234 (1000000000) ∈ Ts := ts_in (List.mem_of_getElem? (i := 1000) (by decide +kernel)) rfl
theorem Cn_X10_243 : Cond.constantLong RX10 243 (2) ∈ Ts := ts_in (List.mem_of_getElem? (i := 1009) (by decide +kernel)) rfl
theorem Cn_X10_252 : Cond.constantLong RX10 252 (100) ∈ Ts := ts_in (List.mem_of_getElem? (i := 991) (by decide +kernel)) rfl
theorem Cn_X10_264 : Cond.constantLong RX10 264 (3) ∈ Ts := ts_in (List.mem_of_getElem? (i := 1022) (by decide +kernel)) rfl
theorem Cn_X10_266 : Cond.constantLong RX10 266 (5000) ∈ Ts := ts_in (List.mem_of_getElem? (i := 1027) (by decide +kernel)) rfl
theorem Ml_X1_113 : Ml RX1 113 mX1_pay := Or.inl (ts_in (List.mem_of_getElem? (i := 592) (by decide +kernel)) rfl)
theorem Ml_X1_117 : Ml RX1 117 mX1_debt := Or.inl (ts_in (List.mem_of_getElem? (i := 596) (by decide +kernel)) rfl)
theorem Ml_X1_120 : Ml RX1 120 mX1_giveEvenly := Or.inl (ts_in (List.mem_of_getElem? (i := 600) (by decide +kernel)) rfl)
theorem Ml_X1_124 : Ml RX1 124 mX1_payDebts := Or.inl (ts_in (List.mem_of_getElem? (i := 616) (by decide +kernel)) rfl)
theorem Ml_X1_137 : Ml RX1 137 mX1_greatestLevel := Or.inl (ts_in (List.mem_of_getElem? (i := 607) (by decide +kernel)) rfl)
theorem Ml_X1_140 : Ml RX1 140 mX1_sumAtLevel := Or.inl (ts_in (List.mem_of_getElem? (i := 612) (by decide +kernel)) rfl)
theorem Ml_X1_36 : Ml RX1 36 mJ7_fill_d0a16 := Or.inl (ts_in (List.mem_of_getElem? (i := 567) (by decide +kernel)) rfl)
theorem Ml_X1_42 : Ml RX1 42 mX1_addCredits := Or.inl (ts_in (List.mem_of_getElem? (i := 570) (by decide +kernel)) rfl)
theorem Ml_X1_46 : Ml RX1 46 mX1_addBaskets := Or.inl (ts_in (List.mem_of_getElem? (i := 574) (by decide +kernel)) rfl)
theorem Ml_X2_106 : Ml RX2 106 mX2_kindAt := Or.inl (ts_in (List.mem_of_getElem? (i := 458) (by decide +kernel)) rfl)
theorem Ml_X2_110 : Ml RX2 110 mJ0_length_8abf5 := Or.inl (ts_in (List.mem_of_getElem? (i := 471) (by decide +kernel)) rfl)
theorem Ml_X2_114 : Ml RX2 114 mJ0_charAt_5068e := Or.inl (ts_in (List.mem_of_getElem? (i := 481) (by decide +kernel)) rfl)
theorem Ml_X2_28 : Ml RX2 28 mX2_next := Or.inl (ts_in (List.mem_of_getElem? (i := 454) (by decide +kernel)) rfl)
theorem Ml_X2_34 : Ml RX2 34 mX2_readClause := Or.inl (ts_in (List.mem_of_getElem? (i := 462) (by decide +kernel)) rfl)
theorem Ml_X2_44 : Ml RX2 44 mX2_isSemicolon := Or.inl (ts_in (List.mem_of_getElem? (i := 549) (by decide +kernel)) rfl)
theorem Ml_X2_49 : Ml RX2 49 mX2_isWord := Or.inl (ts_in (List.mem_of_getElem? (i := 467) (by decide +kernel)) rfl)
theorem Ml_X2_53 : Ml RX2 53 mX2_readPrice := Or.inl (ts_in (List.mem_of_getElem? (i := 519) (by decide +kernel)) rfl)
theorem Ml_X2_58 : Ml RX2 58 mX2_readQuota := Or.inl (ts_in (List.mem_of_getElem? (i := 532) (by decide +kernel)) rfl)
theorem Ml_X2_63 : Ml RX2 63 mX2_readShare := Or.inl (ts_in (List.mem_of_getElem? (i := 537) (by decide +kernel)) rfl)
theorem Ml_X2_73 : Ml RX2 73 mX2_number := Or.inl (ts_in (List.mem_of_getElem? (i := 523) (by decide +kernel)) rfl)
theorem Ml_X5_28 : Ml RX5 28 mX5_lostAt := Or.inl (ts_in (List.mem_of_getElem? (i := 630) (by decide +kernel)) rfl)
theorem Ml_X6_38 : Ml RX6 38 mJ7_fill_53178 := Or.inl (ts_in (List.mem_of_getElem? (i := 681) (by decide +kernel)) rfl)
theorem Ml_X6_44 : Ml RX6 44 mX6_cellOf := Or.inl (ts_in (List.mem_of_getElem? (i := 682) (by decide +kernel)) rfl)
theorem Ml_X6_48 : Ml RX6 48 mX6_goOnFrom := Or.inl (ts_in (List.mem_of_getElem? (i := 686) (by decide +kernel)) rfl)
theorem Ml_X6_52 : Ml RX6 52 mX6_placeAtEnd := Or.inl (ts_in (List.mem_of_getElem? (i := 690) (by decide +kernel)) rfl)
theorem Ml_X6_62 : Ml RX6 62 mX6_arrive := Or.inl (ts_in (List.mem_of_getElem? (i := 695) (by decide +kernel)) rfl)
theorem Ml_X8_21 : Ml RX8 21 mX8_reset := Or.inl (ts_in (List.mem_of_getElem? (i := 301) (by decide +kernel)) rfl)
theorem Ml_X8_24 : Ml RX8 24 mJ7_fill_53178 := Or.inl (ts_in (List.mem_of_getElem? (i := 305) (by decide +kernel)) rfl)
theorem Ml_X8_30 : Ml RX8 30 mX8_setShare := Or.inl (ts_in (List.mem_of_getElem? (i := 308) (by decide +kernel)) rfl)
theorem Ml_X9_103 : Ml RX9 103 mX9_isNoFarmer := Or.inl (ts_in (List.mem_of_getElem? (i := 417) (by decide +kernel)) rfl)
theorem Ml_X9_167 : Ml RX9 167 mX9_foretold := Or.inl (ts_in (List.mem_of_getElem? (i := 622) (by decide +kernel)) rfl)
theorem Ml_X9_170 : Ml RX9 170 mX9_isShort := Or.inl (ts_in (List.mem_of_getElem? (i := 635) (by decide +kernel)) rfl)
theorem Ml_X9_84 : Ml RX9 84 mX9_outside := Or.inl (ts_in (List.mem_of_getElem? (i := 397) (by decide +kernel)) rfl)
theorem Ml_X9_88 : Ml RX9 88 mX9_refuse := Or.inl (ts_in (List.mem_of_getElem? (i := 400) (by decide +kernel)) rfl)
theorem Ml_X9_99 : Ml RX9 99 mX9_accept := Or.inl (ts_in (List.mem_of_getElem? (i := 408) (by decide +kernel)) rfl)
theorem Ml_X10_125 : Ml RX10 125 mX10_in := Or.inl (ts_in (List.mem_of_getElem? (i := 899) (by decide +kernel)) rfl)
theorem Ml_X10_138 : Ml RX10 138 mX10_told := Or.inl (ts_in (List.mem_of_getElem? (i := 904) (by decide +kernel)) rfl)
theorem Ml_X10_144 : Ml RX10 144 mX10_isDay := Or.inl (ts_in (List.mem_of_getElem? (i := 913) (by decide +kernel)) rfl)
theorem Ml_X10_148 : Ml RX10 148 mX10_isFarmer := Or.inl (ts_in (List.mem_of_getElem? (i := 917) (by decide +kernel)) rfl)
theorem Ml_X10_162 : Ml RX10 162 mX10_four := Or.inl (ts_in (List.mem_of_getElem? (i := 930) (by decide +kernel)) rfl)
theorem Ml_X10_176 : Ml RX10 176 mX10_isSmall := Or.inl (ts_in (List.mem_of_getElem? (i := 946) (by decide +kernel)) rfl)
theorem Ml_X10_179 : Ml RX10 179 mX10_isDigit := Or.inl (ts_in (List.mem_of_getElem? (i := 949) (by decide +kernel)) rfl)
theorem Ml_X10_201 : Ml RX10 201 mX10_next := Or.inl (ts_in (List.mem_of_getElem? (i := 942) (by decide +kernel)) rfl)
theorem Ml_X10_204 : Ml RX10 204 mX10_must := Or.inl (ts_in (List.mem_of_getElem? (i := 970) (by decide +kernel)) rfl)
theorem Ml_X10_208 : Ml RX10 208 mX10_isWord := Or.inl (ts_in (List.mem_of_getElem? (i := 962) (by decide +kernel)) rfl)
theorem Ml_X10_212 : Ml RX10 212 mX10_partAt := Or.inl (ts_in (List.mem_of_getElem? (i := 966) (by decide +kernel)) rfl)
theorem Ml_X10_219 : Ml RX10 219 mX10_number := Or.inl (ts_in (List.mem_of_getElem? (i := 974) (by decide +kernel)) rfl)
theorem Ml_X10_226 : Ml RX10 226 mX10_readClause := Or.inl (ts_in (List.mem_of_getElem? (i := 958) (by decide +kernel)) rfl)
theorem Ml_X10_236 : Ml RX10 236 mX10_partOf := Or.inl (ts_in (List.mem_of_getElem? (i := 1001) (by decide +kernel)) rfl)
theorem Ml_X10_240 : Ml RX10 240 mX10_stand := Or.inl (ts_in (List.mem_of_getElem? (i := 1005) (by decide +kernel)) rfl)
theorem Ml_X10_245 : Ml RX10 245 mX10_givenAt := Or.inl (ts_in (List.mem_of_getElem? (i := 1010) (by decide +kernel)) rfl)
theorem Ml_X10_257 : Ml RX10 257 mX10_reckon := Or.inl (ts_in (List.mem_of_getElem? (i := 996) (by decide +kernel)) rfl)
theorem Ml_X10_260 : Ml RX10 260 mX10_foretold := Or.inl (ts_in (List.mem_of_getElem? (i := 1014) (by decide +kernel)) rfl)
theorem Ml_X10_274 : Ml RX10 274 mX10_at := Or.inl (ts_in (List.mem_of_getElem? (i := 1049) (by decide +kernel)) rfl)
theorem Ml_X10_279 : Ml RX10 279 mX10_metAt := Or.inl (ts_in (List.mem_of_getElem? (i := 1045) (by decide +kernel)) rfl)
theorem Ml_X10_283 : Ml RX10 283 mX10_addPlace := Or.inl (ts_in (List.mem_of_getElem? (i := 1040) (by decide +kernel)) rfl)
theorem Ml_X10_286 : Ml RX10 286 mX10_widen := Or.inl (ts_in (List.mem_of_getElem? (i := 1052) (by decide +kernel)) rfl)
theorem Ml_X10_290 : Ml RX10 290 mX10_walk := Or.inl (ts_in (List.mem_of_getElem? (i := 1036) (by decide +kernel)) rfl)
theorem Ml_X10_293 : Ml RX10 293 mX10_leastOf := Or.inl (ts_in (List.mem_of_getElem? (i := 1056) (by decide +kernel)) rfl)
theorem Ml_J0_335 : Ml RJ0 335 mJ0_coder_7d493 := Or.inl (ts_in (List.mem_of_getElem? (i := 475) (by decide +kernel)) rfl)
theorem Ml_J0_492 : Ml RJ0 492 mJ0_isLatin1_aae02 := Or.inl (ts_in (List.mem_of_getElem? (i := 485) (by decide +kernel)) rfl)
theorem Ml_J0_495 : Ml RJ0 495 mJ1_charAt_3b067 := Or.inl (ts_in (List.mem_of_getElem? (i := 489) (by decide +kernel)) rfl)
theorem Ml_X1_58 : Ml RX1 58 mX8_shareOf := Or.inr ⟨"MillFarmers", tn_in (List.mem_of_getElem? (i := 584) (by decide +kernel)) rfl⟩
theorem Ml_X2_19 : Ml RX2 19 mX8_reset := Or.inr ⟨"MillFarmers", tn_in (List.mem_of_getElem? (i := 453) (by decide +kernel)) rfl⟩
theorem Ml_X2_77 : Ml RX2 77 mX9_outside := Or.inr ⟨"MillFarmers", tn_in (List.mem_of_getElem? (i := 530) (by decide +kernel)) rfl⟩
theorem Ml_X2_94 : Ml RX2 94 mX8_setShare := Or.inr ⟨"MillFarmers", tn_in (List.mem_of_getElem? (i := 545) (by decide +kernel)) rfl⟩
theorem Ml_X9_108 : Ml RX9 108 mX3_add := Or.inr ⟨"MillFarmers", tn_in (List.mem_of_getElem? (i := 421) (by decide +kernel)) rfl⟩
theorem Ml_X9_110 : Ml RX9 110 mX0_add := Or.inr ⟨"MillFarmers", tn_in (List.mem_of_getElem? (i := 429) (by decide +kernel)) rfl⟩
theorem Ml_X9_116 : Ml RX9 116 mX7_append := Or.inr ⟨"MillFarmers", tn_in (List.mem_of_getElem? (i := 437) (by decide +kernel)) rfl⟩
theorem Ml_X9_120 : Ml RX9 120 mX2_read := Or.inr ⟨"MillFarmers", tn_in (List.mem_of_getElem? (i := 449) (by decide +kernel)) rfl⟩
theorem Ml_X9_129 : Ml RX9 129 mX1_draw := Or.inr ⟨"MillFarmers", tn_in (List.mem_of_getElem? (i := 563) (by decide +kernel)) rfl⟩
theorem Ml_X9_137 : Ml RX9 137 mX1_stand := Or.inr ⟨"MillFarmers", tn_in (List.mem_of_getElem? (i := 588) (by decide +kernel)) rfl⟩
theorem Ml_X9_154 : Ml RX9 154 mX1_pay := Or.inr ⟨"MillFarmers", tn_in (List.mem_of_getElem? (i := 620) (by decide +kernel)) rfl⟩
theorem Ml_X9_158 : Ml RX9 158 mX1_debt := Or.inr ⟨"MillFarmers", tn_in (List.mem_of_getElem? (i := 621) (by decide +kernel)) rfl⟩
theorem Ml_X9_173 : Ml RX9 173 mX4_howManyIn := Or.inr ⟨"MillFarmers", tn_in (List.mem_of_getElem? (i := 644) (by decide +kernel)) rfl⟩
theorem Ml_X9_187 : Ml RX9 187 mX5_add := Or.inr ⟨"MillFarmers", tn_in (List.mem_of_getElem? (i := 656) (by decide +kernel)) rfl⟩
theorem Ml_X9_192 : Ml RX9 192 mX6_add := Or.inr ⟨"MillFarmers", tn_in (List.mem_of_getElem? (i := 664) (by decide +kernel)) rfl⟩
theorem Ml_X9_195 : Ml RX9 195 mX6_walk := Or.inr ⟨"MillFarmers", tn_in (List.mem_of_getElem? (i := 676) (by decide +kernel)) rfl⟩
theorem Ml_X9_198 : Ml RX9 198 mX6_mostMet := Or.inr ⟨"MillFarmers", tn_in (List.mem_of_getElem? (i := 699) (by decide +kernel)) rfl⟩
theorem Ml_X9_202 : Ml RX9 202 mX6_firstHourWith := Or.inr ⟨"MillFarmers", tn_in (List.mem_of_getElem? (i := 707) (by decide +kernel)) rfl⟩
theorem Ml_X9_206 : Ml RX9 206 mX0_ownerOf := Or.inr ⟨"MillFarmers", tn_in (List.mem_of_getElem? (i := 716) (by decide +kernel)) rfl⟩
theorem Ml_X9_216 : Ml RX9 216 mX5_foretold := Or.inr ⟨"MillFarmers", tn_in (List.mem_of_getElem? (i := 626) (by decide +kernel)) rfl⟩
theorem Ml_X9_219 : Ml RX9 219 mX8_shareOf := Or.inr ⟨"MillFarmers", tn_in (List.mem_of_getElem? (i := 639) (by decide +kernel)) rfl⟩
theorem Ml_X9_95 : Ml RX9 95 mX4_add := Or.inr ⟨"MillFarmers", tn_in (List.mem_of_getElem? (i := 404) (by decide +kernel)) rfl⟩
theorem In_Math : Cond.initialized "java/lang/Math" ∈ Ts := ts_in (List.mem_of_getElem? (i := 81) (by decide +kernel)) rfl
theorem In_System : Cond.initialized "java/lang/System" ∈ Ts := ts_in (List.mem_of_getElem? (i := 82) (by decide +kernel)) rfl
theorem Fs_value : Cond.fieldLink RJ0 9 "java/lang/String" "value" "[B" ∈ Ts := ts_in (List.mem_of_getElem? (i := 1076) (by decide +kernel)) rfl
theorem Fs_coder : Cond.fieldLink RJ0 15 "java/lang/String" "coder" "B" ∈ Ts := ts_in (List.mem_of_getElem? (i := 1077) (by decide +kernel)) rfl
theorem Fs_COMPACT_STRINGS : Cond.fieldLink RJ0 38 "java/lang/String" "COMPACT_STRINGS" "Z" ∈ Ts := ts_in (List.mem_of_getElem? (i := 479) (by decide +kernel)) rfl
end
section
theorem dX0_add_0 : decode cX0_add 0 = .ok (.aload_n 0, 1) := by decide +kernel
theorem dX0_add_1 : decode cX0_add 1 = .ok (.getfield 24, 3) := by decide +kernel
theorem dX0_add_4 : decode cX0_add 4 = .ok (.sipush 300, 3) := by decide +kernel
theorem dX0_add_7 : decode cX0_add 7 = .ok (.if_icmp .lt 4, 3) := by decide +kernel
theorem dX0_add_10 : decode cX0_add 10 = .ok (.return_, 1) := by decide +kernel
theorem dX0_add_11 : decode cX0_add 11 = .ok (.aload_n 0, 1) := by decide +kernel
theorem dX0_add_12 : decode cX0_add 12 = .ok (.getfield 9, 3) := by decide +kernel
theorem dX0_add_15 : decode cX0_add 15 = .ok (.aload_n 0, 1) := by decide +kernel
theorem dX0_add_16 : decode cX0_add 16 = .ok (.getfield 24, 3) := by decide +kernel
theorem dX0_add_19 : decode cX0_add 19 = .ok (.iload_n 1, 1) := by decide +kernel
theorem dX0_add_20 : decode cX0_add 20 = .ok (.iastore, 1) := by decide +kernel
theorem dX0_add_21 : decode cX0_add 21 = .ok (.aload_n 0, 1) := by decide +kernel
theorem dX0_add_22 : decode cX0_add 22 = .ok (.getfield 15, 3) := by decide +kernel
theorem dX0_add_25 : decode cX0_add 25 = .ok (.aload_n 0, 1) := by decide +kernel
theorem dX0_add_26 : decode cX0_add 26 = .ok (.getfield 24, 3) := by decide +kernel
theorem dX0_add_29 : decode cX0_add 29 = .ok (.iload_n 2, 1) := by decide +kernel
theorem dX0_add_30 : decode cX0_add 30 = .ok (.iastore, 1) := by decide +kernel
theorem dX0_add_31 : decode cX0_add 31 = .ok (.aload_n 0, 1) := by decide +kernel
theorem dX0_add_32 : decode cX0_add 32 = .ok (.getfield 18, 3) := by decide +kernel
theorem dX0_add_35 : decode cX0_add 35 = .ok (.aload_n 0, 1) := by decide +kernel
theorem dX0_add_36 : decode cX0_add 36 = .ok (.getfield 24, 3) := by decide +kernel
theorem dX0_add_39 : decode cX0_add 39 = .ok (.iload_n 3, 1) := by decide +kernel
theorem dX0_add_40 : decode cX0_add 40 = .ok (.iastore, 1) := by decide +kernel
theorem dX0_add_41 : decode cX0_add 41 = .ok (.aload_n 0, 1) := by decide +kernel
theorem dX0_add_42 : decode cX0_add 42 = .ok (.getfield 21, 3) := by decide +kernel
theorem dX0_add_45 : decode cX0_add 45 = .ok (.aload_n 0, 1) := by decide +kernel
theorem dX0_add_46 : decode cX0_add 46 = .ok (.getfield 24, 3) := by decide +kernel
theorem dX0_add_49 : decode cX0_add 49 = .ok (.iload 4, 2) := by decide +kernel
theorem dX0_add_51 : decode cX0_add 51 = .ok (.iastore, 1) := by decide +kernel
theorem dX0_add_52 : decode cX0_add 52 = .ok (.aload_n 0, 1) := by decide +kernel
theorem dX0_add_53 : decode cX0_add 53 = .ok (.dup, 1) := by decide +kernel
theorem dX0_add_54 : decode cX0_add 54 = .ok (.getfield 24, 3) := by decide +kernel
theorem dX0_add_57 : decode cX0_add 57 = .ok (.iconst 1, 1) := by decide +kernel
theorem dX0_add_58 : decode cX0_add 58 = .ok (.iadd, 1) := by decide +kernel
theorem dX0_add_59 : decode cX0_add 59 = .ok (.putfield 24, 3) := by decide +kernel
theorem dX0_add_62 : decode cX0_add 62 = .ok (.aload_n 0, 1) := by decide +kernel
theorem dX0_add_63 : decode cX0_add 63 = .ok (.dup, 1) := by decide +kernel
theorem dX0_add_64 : decode cX0_add 64 = .ok (.getfield 28, 3) := by decide +kernel
theorem dX0_add_67 : decode cX0_add 67 = .ok (.iload_n 2, 1) := by decide +kernel
theorem dX0_add_68 : decode cX0_add 68 = .ok (.iadd, 1) := by decide +kernel
theorem dX0_add_69 : decode cX0_add 69 = .ok (.putfield 28, 3) := by decide +kernel
theorem dX0_add_72 : decode cX0_add 72 = .ok (.return_, 1) := by decide +kernel
theorem dX0_ownerOf_0 : decode cX0_ownerOf 0 = .ok (.iload_n 1, 1) := by decide +kernel
theorem dX0_ownerOf_1 : decode cX0_ownerOf 1 = .ok (.istore_n 3, 1) := by decide +kernel
theorem dX0_ownerOf_2 : decode cX0_ownerOf 2 = .ok (.iconst 0, 1) := by decide +kernel
theorem dX0_ownerOf_3 : decode cX0_ownerOf 3 = .ok (.istore 4, 2) := by decide +kernel
theorem dX0_ownerOf_5 : decode cX0_ownerOf 5 = .ok (.iload 4, 2) := by decide +kernel
theorem dX0_ownerOf_7 : decode cX0_ownerOf 7 = .ok (.aload_n 0, 1) := by decide +kernel
theorem dX0_ownerOf_8 : decode cX0_ownerOf 8 = .ok (.getfield 24, 3) := by decide +kernel
theorem dX0_ownerOf_11 : decode cX0_ownerOf 11 = .ok (.if_icmp .ge 52, 3) := by decide +kernel
theorem dX0_ownerOf_14 : decode cX0_ownerOf 14 = .ok (.aload_n 0, 1) := by decide +kernel
theorem dX0_ownerOf_15 : decode cX0_ownerOf 15 = .ok (.getfield 21, 3) := by decide +kernel
theorem dX0_ownerOf_18 : decode cX0_ownerOf 18 = .ok (.iload 4, 2) := by decide +kernel
theorem dX0_ownerOf_20 : decode cX0_ownerOf 20 = .ok (.iaload, 1) := by decide +kernel
theorem dX0_ownerOf_21 : decode cX0_ownerOf 21 = .ok (.iload_n 2, 1) := by decide +kernel
theorem dX0_ownerOf_22 : decode cX0_ownerOf 22 = .ok (.if_icmp .le 6, 3) := by decide +kernel
theorem dX0_ownerOf_25 : decode cX0_ownerOf 25 = .ok (.goto 32, 3) := by decide +kernel
theorem dX0_ownerOf_28 : decode cX0_ownerOf 28 = .ok (.iload_n 3, 1) := by decide +kernel
theorem dX0_ownerOf_29 : decode cX0_ownerOf 29 = .ok (.aload_n 0, 1) := by decide +kernel
theorem dX0_ownerOf_30 : decode cX0_ownerOf 30 = .ok (.getfield 15, 3) := by decide +kernel
theorem dX0_ownerOf_33 : decode cX0_ownerOf 33 = .ok (.iload 4, 2) := by decide +kernel
theorem dX0_ownerOf_35 : decode cX0_ownerOf 35 = .ok (.iaload, 1) := by decide +kernel
theorem dX0_ownerOf_36 : decode cX0_ownerOf 36 = .ok (.if_icmp .ge 11, 3) := by decide +kernel
theorem dX0_ownerOf_39 : decode cX0_ownerOf 39 = .ok (.aload_n 0, 1) := by decide +kernel
theorem dX0_ownerOf_40 : decode cX0_ownerOf 40 = .ok (.getfield 9, 3) := by decide +kernel
theorem dX0_ownerOf_43 : decode cX0_ownerOf 43 = .ok (.iload 4, 2) := by decide +kernel
theorem dX0_ownerOf_45 : decode cX0_ownerOf 45 = .ok (.iaload, 1) := by decide +kernel
theorem dX0_ownerOf_46 : decode cX0_ownerOf 46 = .ok (.ireturn, 1) := by decide +kernel
theorem dX0_ownerOf_47 : decode cX0_ownerOf 47 = .ok (.iload_n 3, 1) := by decide +kernel
theorem dX0_ownerOf_48 : decode cX0_ownerOf 48 = .ok (.aload_n 0, 1) := by decide +kernel
theorem dX0_ownerOf_49 : decode cX0_ownerOf 49 = .ok (.getfield 15, 3) := by decide +kernel
theorem dX0_ownerOf_52 : decode cX0_ownerOf 52 = .ok (.iload 4, 2) := by decide +kernel
theorem dX0_ownerOf_54 : decode cX0_ownerOf 54 = .ok (.iaload, 1) := by decide +kernel
theorem dX0_ownerOf_55 : decode cX0_ownerOf 55 = .ok (.isub, 1) := by decide +kernel
theorem dX0_ownerOf_56 : decode cX0_ownerOf 56 = .ok (.istore_n 3, 1) := by decide +kernel
theorem dX0_ownerOf_57 : decode cX0_ownerOf 57 = .ok (.iinc 4 1, 3) := by decide +kernel
theorem dX0_ownerOf_60 : decode cX0_ownerOf 60 = .ok (.goto (-55), 3) := by decide +kernel
theorem dX0_ownerOf_63 : decode cX0_ownerOf 63 = .ok (.iconst (-1), 1) := by decide +kernel
theorem dX0_ownerOf_64 : decode cX0_ownerOf 64 = .ok (.ireturn, 1) := by decide +kernel
theorem dX1_draw_0 : decode cX1_draw 0 = .ok (.aload_n 0, 1) := by decide +kernel
theorem dX1_draw_1 : decode cX1_draw 1 = .ok (.getfield 9, 3) := by decide +kernel
theorem dX1_draw_4 : decode cX1_draw 4 = .ok (.lconst 0, 1) := by decide +kernel
theorem dX1_draw_5 : decode cX1_draw 5 = .ok (.invokestatic 36, 3) := by decide +kernel
theorem dX1_draw_8 : decode cX1_draw 8 = .ok (.aload_n 0, 1) := by decide +kernel
theorem dX1_draw_9 : decode cX1_draw 9 = .ok (.getfield 15, 3) := by decide +kernel
theorem dX1_draw_12 : decode cX1_draw 12 = .ok (.lconst 0, 1) := by decide +kernel
theorem dX1_draw_13 : decode cX1_draw 13 = .ok (.invokestatic 36, 3) := by decide +kernel
theorem dX1_draw_16 : decode cX1_draw 16 = .ok (.aload_n 0, 1) := by decide +kernel
theorem dX1_draw_17 : decode cX1_draw 17 = .ok (.getfield 18, 3) := by decide +kernel
theorem dX1_draw_20 : decode cX1_draw 20 = .ok (.lconst 0, 1) := by decide +kernel
theorem dX1_draw_21 : decode cX1_draw 21 = .ok (.invokestatic 36, 3) := by decide +kernel
theorem dX1_draw_24 : decode cX1_draw 24 = .ok (.aload_n 0, 1) := by decide +kernel
theorem dX1_draw_25 : decode cX1_draw 25 = .ok (.getfield 21, 3) := by decide +kernel
theorem dX1_draw_28 : decode cX1_draw 28 = .ok (.lconst 0, 1) := by decide +kernel
theorem dX1_draw_29 : decode cX1_draw 29 = .ok (.invokestatic 36, 3) := by decide +kernel
theorem dX1_draw_32 : decode cX1_draw 32 = .ok (.aload_n 0, 1) := by decide +kernel
theorem dX1_draw_33 : decode cX1_draw 33 = .ok (.aload_n 2, 1) := by decide +kernel
theorem dX1_draw_34 : decode cX1_draw 34 = .ok (.iload 5, 2) := by decide +kernel
theorem dX1_draw_36 : decode cX1_draw 36 = .ok (.invokevirtual 42, 3) := by decide +kernel
theorem dX1_draw_39 : decode cX1_draw 39 = .ok (.aload_n 0, 1) := by decide +kernel
theorem dX1_draw_40 : decode cX1_draw 40 = .ok (.aload_n 1, 1) := by decide +kernel
theorem dX1_draw_41 : decode cX1_draw 41 = .ok (.aload_n 3, 1) := by decide +kernel
theorem dX1_draw_42 : decode cX1_draw 42 = .ok (.aload 4, 2) := by decide +kernel
theorem dX1_draw_44 : decode cX1_draw 44 = .ok (.iload 5, 2) := by decide +kernel
theorem dX1_draw_46 : decode cX1_draw 46 = .ok (.invokevirtual 46, 3) := by decide +kernel
theorem dX1_draw_49 : decode cX1_draw 49 = .ok (.iconst 0, 1) := by decide +kernel
theorem dX1_draw_50 : decode cX1_draw 50 = .ok (.istore 6, 2) := by decide +kernel
theorem dX1_draw_52 : decode cX1_draw 52 = .ok (.iload 6, 2) := by decide +kernel
theorem dX1_draw_54 : decode cX1_draw 54 = .ok (.aload_n 1, 1) := by decide +kernel
theorem dX1_draw_55 : decode cX1_draw 55 = .ok (.getfield 50, 3) := by decide +kernel
theorem dX1_draw_58 : decode cX1_draw 58 = .ok (.if_icmp .ge 62, 3) := by decide +kernel
theorem dX1_draw_61 : decode cX1_draw 61 = .ok (.aload_n 0, 1) := by decide +kernel
theorem dX1_draw_62 : decode cX1_draw 62 = .ok (.getfield 18, 3) := by decide +kernel
theorem dX1_draw_65 : decode cX1_draw 65 = .ok (.iload 6, 2) := by decide +kernel
theorem dX1_draw_67 : decode cX1_draw 67 = .ok (.dup2, 1) := by decide +kernel
theorem dX1_draw_68 : decode cX1_draw 68 = .ok (.laload, 1) := by decide +kernel
theorem dX1_draw_69 : decode cX1_draw 69 = .ok (.aload 4, 2) := by decide +kernel
theorem dX1_draw_71 : decode cX1_draw 71 = .ok (.iconst 0, 1) := by decide +kernel
theorem dX1_draw_72 : decode cX1_draw 72 = .ok (.aload_n 0, 1) := by decide +kernel
theorem dX1_draw_73 : decode cX1_draw 73 = .ok (.getfield 21, 3) := by decide +kernel
theorem dX1_draw_76 : decode cX1_draw 76 = .ok (.iload 6, 2) := by decide +kernel
theorem dX1_draw_78 : decode cX1_draw 78 = .ok (.laload, 1) := by decide +kernel
theorem dX1_draw_79 : decode cX1_draw 79 = .ok (.invokevirtual 58, 3) := by decide +kernel
theorem dX1_draw_82 : decode cX1_draw 82 = .ok (.ladd, 1) := by decide +kernel
theorem dX1_draw_83 : decode cX1_draw 83 = .ok (.lastore, 1) := by decide +kernel
theorem dX1_draw_84 : decode cX1_draw 84 = .ok (.aload_n 0, 1) := by decide +kernel
theorem dX1_draw_85 : decode cX1_draw 85 = .ok (.getfield 24, 3) := by decide +kernel
theorem dX1_draw_88 : decode cX1_draw 88 = .ok (.iload 6, 2) := by decide +kernel
theorem dX1_draw_90 : decode cX1_draw 90 = .ok (.aload 4, 2) := by decide +kernel
theorem dX1_draw_92 : decode cX1_draw 92 = .ok (.iconst 1, 1) := by decide +kernel
theorem dX1_draw_93 : decode cX1_draw 93 = .ok (.aload_n 0, 1) := by decide +kernel
theorem dX1_draw_94 : decode cX1_draw 94 = .ok (.getfield 18, 3) := by decide +kernel
theorem dX1_draw_97 : decode cX1_draw 97 = .ok (.iload 6, 2) := by decide +kernel
theorem dX1_draw_99 : decode cX1_draw 99 = .ok (.laload, 1) := by decide +kernel
theorem dX1_draw_100 : decode cX1_draw 100 = .ok (.invokevirtual 58, 3) := by decide +kernel
theorem dX1_draw_103 : decode cX1_draw 103 = .ok (.aload_n 0, 1) := by decide +kernel
theorem dX1_draw_104 : decode cX1_draw 104 = .ok (.getfield 15, 3) := by decide +kernel
theorem dX1_draw_107 : decode cX1_draw 107 = .ok (.iload 6, 2) := by decide +kernel
theorem dX1_draw_109 : decode cX1_draw 109 = .ok (.laload, 1) := by decide +kernel
theorem dX1_draw_110 : decode cX1_draw 110 = .ok (.invokestatic 62, 3) := by decide +kernel
theorem dX1_draw_113 : decode cX1_draw 113 = .ok (.lastore, 1) := by decide +kernel
theorem dX1_draw_114 : decode cX1_draw 114 = .ok (.iinc 6 1, 3) := by decide +kernel
theorem dX1_draw_117 : decode cX1_draw 117 = .ok (.goto (-65), 3) := by decide +kernel
theorem dX1_draw_120 : decode cX1_draw 120 = .ok (.return_, 1) := by decide +kernel
theorem dX1_addCredits_0 : decode cX1_addCredits 0 = .ok (.iconst 0, 1) := by decide +kernel
theorem dX1_addCredits_1 : decode cX1_addCredits 1 = .ok (.istore_n 3, 1) := by decide +kernel
theorem dX1_addCredits_2 : decode cX1_addCredits 2 = .ok (.iload_n 3, 1) := by decide +kernel
theorem dX1_addCredits_3 : decode cX1_addCredits 3 = .ok (.aload_n 1, 1) := by decide +kernel
theorem dX1_addCredits_4 : decode cX1_addCredits 4 = .ok (.getfield 68, 3) := by decide +kernel
theorem dX1_addCredits_7 : decode cX1_addCredits 7 = .ok (.if_icmp .ge 40, 3) := by decide +kernel
theorem dX1_addCredits_10 : decode cX1_addCredits 10 = .ok (.aload_n 1, 1) := by decide +kernel
theorem dX1_addCredits_11 : decode cX1_addCredits 11 = .ok (.getfield 71, 3) := by decide +kernel
theorem dX1_addCredits_14 : decode cX1_addCredits 14 = .ok (.iload_n 3, 1) := by decide +kernel
theorem dX1_addCredits_15 : decode cX1_addCredits 15 = .ok (.iaload, 1) := by decide +kernel
theorem dX1_addCredits_16 : decode cX1_addCredits 16 = .ok (.iload_n 2, 1) := by decide +kernel
theorem dX1_addCredits_17 : decode cX1_addCredits 17 = .ok (.if_icmp .gt 24, 3) := by decide +kernel
theorem dX1_addCredits_20 : decode cX1_addCredits 20 = .ok (.aload_n 0, 1) := by decide +kernel
theorem dX1_addCredits_21 : decode cX1_addCredits 21 = .ok (.getfield 15, 3) := by decide +kernel
theorem dX1_addCredits_24 : decode cX1_addCredits 24 = .ok (.aload_n 1, 1) := by decide +kernel
theorem dX1_addCredits_25 : decode cX1_addCredits 25 = .ok (.getfield 75, 3) := by decide +kernel
theorem dX1_addCredits_28 : decode cX1_addCredits 28 = .ok (.iload_n 3, 1) := by decide +kernel
theorem dX1_addCredits_29 : decode cX1_addCredits 29 = .ok (.iaload, 1) := by decide +kernel
theorem dX1_addCredits_30 : decode cX1_addCredits 30 = .ok (.dup2, 1) := by decide +kernel
theorem dX1_addCredits_31 : decode cX1_addCredits 31 = .ok (.laload, 1) := by decide +kernel
theorem dX1_addCredits_32 : decode cX1_addCredits 32 = .ok (.aload_n 1, 1) := by decide +kernel
theorem dX1_addCredits_33 : decode cX1_addCredits 33 = .ok (.getfield 78, 3) := by decide +kernel
theorem dX1_addCredits_36 : decode cX1_addCredits 36 = .ok (.iload_n 3, 1) := by decide +kernel
theorem dX1_addCredits_37 : decode cX1_addCredits 37 = .ok (.iaload, 1) := by decide +kernel
theorem dX1_addCredits_38 : decode cX1_addCredits 38 = .ok (.i2l, 1) := by decide +kernel
theorem dX1_addCredits_39 : decode cX1_addCredits 39 = .ok (.ladd, 1) := by decide +kernel
theorem dX1_addCredits_40 : decode cX1_addCredits 40 = .ok (.lastore, 1) := by decide +kernel
theorem dX1_addCredits_41 : decode cX1_addCredits 41 = .ok (.iinc 3 1, 3) := by decide +kernel
theorem dX1_addCredits_44 : decode cX1_addCredits 44 = .ok (.goto (-42), 3) := by decide +kernel
theorem dX1_addCredits_47 : decode cX1_addCredits 47 = .ok (.return_, 1) := by decide +kernel
theorem dX1_addBaskets_0 : decode cX1_addBaskets 0 = .ok (.iconst 0, 1) := by decide +kernel
theorem dX1_addBaskets_1 : decode cX1_addBaskets 1 = .ok (.istore 5, 2) := by decide +kernel
theorem dX1_addBaskets_3 : decode cX1_addBaskets 3 = .ok (.iload 5, 2) := by decide +kernel
theorem dX1_addBaskets_5 : decode cX1_addBaskets 5 = .ok (.aload_n 2, 1) := by decide +kernel
theorem dX1_addBaskets_6 : decode cX1_addBaskets 6 = .ok (.getfield 81, 3) := by decide +kernel
theorem dX1_addBaskets_9 : decode cX1_addBaskets 9 = .ok (.if_icmp .ge 152, 3) := by decide +kernel
theorem dX1_addBaskets_12 : decode cX1_addBaskets 12 = .ok (.aload_n 2, 1) := by decide +kernel
theorem dX1_addBaskets_13 : decode cX1_addBaskets 13 = .ok (.getfield 84, 3) := by decide +kernel
theorem dX1_addBaskets_16 : decode cX1_addBaskets 16 = .ok (.iload 5, 2) := by decide +kernel
theorem dX1_addBaskets_18 : decode cX1_addBaskets 18 = .ok (.iaload, 1) := by decide +kernel
theorem dX1_addBaskets_19 : decode cX1_addBaskets 19 = .ok (.iload 4, 2) := by decide +kernel
theorem dX1_addBaskets_21 : decode cX1_addBaskets 21 = .ok (.if_icmp .le 6, 3) := by decide +kernel
theorem dX1_addBaskets_24 : decode cX1_addBaskets 24 = .ok (.goto 131, 3) := by decide +kernel
theorem dX1_addBaskets_27 : decode cX1_addBaskets 27 = .ok (.aload_n 2, 1) := by decide +kernel
theorem dX1_addBaskets_28 : decode cX1_addBaskets 28 = .ok (.getfield 85, 3) := by decide +kernel
theorem dX1_addBaskets_31 : decode cX1_addBaskets 31 = .ok (.iload 5, 2) := by decide +kernel
theorem dX1_addBaskets_33 : decode cX1_addBaskets 33 = .ok (.iaload, 1) := by decide +kernel
theorem dX1_addBaskets_34 : decode cX1_addBaskets 34 = .ok (.istore 6, 2) := by decide +kernel
theorem dX1_addBaskets_36 : decode cX1_addBaskets 36 = .ok (.aload_n 2, 1) := by decide +kernel
theorem dX1_addBaskets_37 : decode cX1_addBaskets 37 = .ok (.getfield 86, 3) := by decide +kernel
theorem dX1_addBaskets_40 : decode cX1_addBaskets 40 = .ok (.iload 5, 2) := by decide +kernel
theorem dX1_addBaskets_42 : decode cX1_addBaskets 42 = .ok (.iaload, 1) := by decide +kernel
theorem dX1_addBaskets_43 : decode cX1_addBaskets 43 = .ok (.i2l, 1) := by decide +kernel
theorem dX1_addBaskets_44 : decode cX1_addBaskets 44 = .ok (.lstore 7, 2) := by decide +kernel
theorem dX1_addBaskets_46 : decode cX1_addBaskets 46 = .ok (.lload 7, 2) := by decide +kernel
theorem dX1_addBaskets_48 : decode cX1_addBaskets 48 = .ok (.lstore 9, 2) := by decide +kernel
theorem dX1_addBaskets_50 : decode cX1_addBaskets 50 = .ok (.aload_n 3, 1) := by decide +kernel
theorem dX1_addBaskets_51 : decode cX1_addBaskets 51 = .ok (.getfield 88, 3) := by decide +kernel
theorem dX1_addBaskets_54 : decode cX1_addBaskets 54 = .ok (.iconst (-1), 1) := by decide +kernel
theorem dX1_addBaskets_55 : decode cX1_addBaskets 55 = .ok (.if_icmp .eq 40, 3) := by decide +kernel
theorem dX1_addBaskets_58 : decode cX1_addBaskets 58 = .ok (.aload_n 3, 1) := by decide +kernel
theorem dX1_addBaskets_59 : decode cX1_addBaskets 59 = .ok (.getfield 88, 3) := by decide +kernel
theorem dX1_addBaskets_62 : decode cX1_addBaskets 62 = .ok (.i2l, 1) := by decide +kernel
theorem dX1_addBaskets_63 : decode cX1_addBaskets 63 = .ok (.aload_n 1, 1) := by decide +kernel
theorem dX1_addBaskets_64 : decode cX1_addBaskets 64 = .ok (.getfield 91, 3) := by decide +kernel
theorem dX1_addBaskets_67 : decode cX1_addBaskets 67 = .ok (.iload 6, 2) := by decide +kernel
theorem dX1_addBaskets_69 : decode cX1_addBaskets 69 = .ok (.iaload, 1) := by decide +kernel
theorem dX1_addBaskets_70 : decode cX1_addBaskets 70 = .ok (.i2l, 1) := by decide +kernel
theorem dX1_addBaskets_71 : decode cX1_addBaskets 71 = .ok (.lmul, 1) := by decide +kernel
theorem dX1_addBaskets_72 : decode cX1_addBaskets 72 = .ok (.aload_n 0, 1) := by decide +kernel
theorem dX1_addBaskets_73 : decode cX1_addBaskets 73 = .ok (.getfield 9, 3) := by decide +kernel
theorem dX1_addBaskets_76 : decode cX1_addBaskets 76 = .ok (.iload 6, 2) := by decide +kernel
theorem dX1_addBaskets_78 : decode cX1_addBaskets 78 = .ok (.laload, 1) := by decide +kernel
theorem dX1_addBaskets_79 : decode cX1_addBaskets 79 = .ok (.lsub, 1) := by decide +kernel
theorem dX1_addBaskets_80 : decode cX1_addBaskets 80 = .ok (.lstore 11, 2) := by decide +kernel
theorem dX1_addBaskets_82 : decode cX1_addBaskets 82 = .ok (.lconst 0, 1) := by decide +kernel
theorem dX1_addBaskets_83 : decode cX1_addBaskets 83 = .ok (.lload 7, 2) := by decide +kernel
theorem dX1_addBaskets_85 : decode cX1_addBaskets 85 = .ok (.lload 11, 2) := by decide +kernel
theorem dX1_addBaskets_87 : decode cX1_addBaskets 87 = .ok (.invokestatic 62, 3) := by decide +kernel
theorem dX1_addBaskets_90 : decode cX1_addBaskets 90 = .ok (.invokestatic 94, 3) := by decide +kernel
theorem dX1_addBaskets_93 : decode cX1_addBaskets 93 = .ok (.lstore 9, 2) := by decide +kernel
theorem dX1_addBaskets_95 : decode cX1_addBaskets 95 = .ok (.aload_n 3, 1) := by decide +kernel
theorem dX1_addBaskets_96 : decode cX1_addBaskets 96 = .ok (.getfield 97, 3) := by decide +kernel
theorem dX1_addBaskets_99 : decode cX1_addBaskets 99 = .ok (.aload_n 2, 1) := by decide +kernel
theorem dX1_addBaskets_100 : decode cX1_addBaskets 100 = .ok (.getfield 100, 3) := by decide +kernel
theorem dX1_addBaskets_103 : decode cX1_addBaskets 103 = .ok (.iload 5, 2) := by decide +kernel
theorem dX1_addBaskets_105 : decode cX1_addBaskets 105 = .ok (.iaload, 1) := by decide +kernel
theorem dX1_addBaskets_106 : decode cX1_addBaskets 106 = .ok (.iaload, 1) := by decide +kernel
theorem dX1_addBaskets_107 : decode cX1_addBaskets 107 = .ok (.i2l, 1) := by decide +kernel
theorem dX1_addBaskets_108 : decode cX1_addBaskets 108 = .ok (.lstore 11, 2) := by decide +kernel
theorem dX1_addBaskets_110 : decode cX1_addBaskets 110 = .ok (.aload_n 0, 1) := by decide +kernel
theorem dX1_addBaskets_111 : decode cX1_addBaskets 111 = .ok (.getfield 18, 3) := by decide +kernel
theorem dX1_addBaskets_114 : decode cX1_addBaskets 114 = .ok (.iload 6, 2) := by decide +kernel
theorem dX1_addBaskets_116 : decode cX1_addBaskets 116 = .ok (.dup2, 1) := by decide +kernel
theorem dX1_addBaskets_117 : decode cX1_addBaskets 117 = .ok (.laload, 1) := by decide +kernel
theorem dX1_addBaskets_118 : decode cX1_addBaskets 118 = .ok (.lload 9, 2) := by decide +kernel
theorem dX1_addBaskets_120 : decode cX1_addBaskets 120 = .ok (.lload 11, 2) := by decide +kernel
theorem dX1_addBaskets_122 : decode cX1_addBaskets 122 = .ok (.lmul, 1) := by decide +kernel
theorem dX1_addBaskets_123 : decode cX1_addBaskets 123 = .ok (.ladd, 1) := by decide +kernel
theorem dX1_addBaskets_124 : decode cX1_addBaskets 124 = .ok (.lastore, 1) := by decide +kernel
theorem dX1_addBaskets_125 : decode cX1_addBaskets 125 = .ok (.aload_n 0, 1) := by decide +kernel
theorem dX1_addBaskets_126 : decode cX1_addBaskets 126 = .ok (.getfield 21, 3) := by decide +kernel
theorem dX1_addBaskets_129 : decode cX1_addBaskets 129 = .ok (.iload 6, 2) := by decide +kernel
theorem dX1_addBaskets_131 : decode cX1_addBaskets 131 = .ok (.dup2, 1) := by decide +kernel
theorem dX1_addBaskets_132 : decode cX1_addBaskets 132 = .ok (.laload, 1) := by decide +kernel
theorem dX1_addBaskets_133 : decode cX1_addBaskets 133 = .ok (.lload 7, 2) := by decide +kernel
theorem dX1_addBaskets_135 : decode cX1_addBaskets 135 = .ok (.lload 9, 2) := by decide +kernel
theorem dX1_addBaskets_137 : decode cX1_addBaskets 137 = .ok (.lsub, 1) := by decide +kernel
theorem dX1_addBaskets_138 : decode cX1_addBaskets 138 = .ok (.lload 11, 2) := by decide +kernel
theorem dX1_addBaskets_140 : decode cX1_addBaskets 140 = .ok (.lmul, 1) := by decide +kernel
theorem dX1_addBaskets_141 : decode cX1_addBaskets 141 = .ok (.ladd, 1) := by decide +kernel
theorem dX1_addBaskets_142 : decode cX1_addBaskets 142 = .ok (.lastore, 1) := by decide +kernel
theorem dX1_addBaskets_143 : decode cX1_addBaskets 143 = .ok (.aload_n 0, 1) := by decide +kernel
theorem dX1_addBaskets_144 : decode cX1_addBaskets 144 = .ok (.getfield 9, 3) := by decide +kernel
theorem dX1_addBaskets_147 : decode cX1_addBaskets 147 = .ok (.iload 6, 2) := by decide +kernel
theorem dX1_addBaskets_149 : decode cX1_addBaskets 149 = .ok (.dup2, 1) := by decide +kernel
theorem dX1_addBaskets_150 : decode cX1_addBaskets 150 = .ok (.laload, 1) := by decide +kernel
theorem dX1_addBaskets_151 : decode cX1_addBaskets 151 = .ok (.lload 7, 2) := by decide +kernel
theorem dX1_addBaskets_153 : decode cX1_addBaskets 153 = .ok (.ladd, 1) := by decide +kernel
theorem dX1_addBaskets_154 : decode cX1_addBaskets 154 = .ok (.lastore, 1) := by decide +kernel
theorem dX1_addBaskets_155 : decode cX1_addBaskets 155 = .ok (.iinc 5 1, 3) := by decide +kernel
theorem dX1_addBaskets_158 : decode cX1_addBaskets 158 = .ok (.goto (-155), 3) := by decide +kernel
theorem dX1_addBaskets_161 : decode cX1_addBaskets 161 = .ok (.return_, 1) := by decide +kernel
theorem dX1_pay_0 : decode cX1_pay 0 = .ok (.aload_n 0, 1) := by decide +kernel
theorem dX1_pay_1 : decode cX1_pay 1 = .ok (.getfield 18, 3) := by decide +kernel
theorem dX1_pay_4 : decode cX1_pay 4 = .ok (.iload_n 1, 1) := by decide +kernel
theorem dX1_pay_5 : decode cX1_pay 5 = .ok (.laload, 1) := by decide +kernel
theorem dX1_pay_6 : decode cX1_pay 6 = .ok (.aload_n 0, 1) := by decide +kernel
theorem dX1_pay_7 : decode cX1_pay 7 = .ok (.getfield 24, 3) := by decide +kernel
theorem dX1_pay_10 : decode cX1_pay 10 = .ok (.iload_n 1, 1) := by decide +kernel
theorem dX1_pay_11 : decode cX1_pay 11 = .ok (.laload, 1) := by decide +kernel
theorem dX1_pay_12 : decode cX1_pay 12 = .ok (.lsub, 1) := by decide +kernel
theorem dX1_pay_13 : decode cX1_pay 13 = .ok (.lreturn, 1) := by decide +kernel
theorem dX1_debt_0 : decode cX1_debt 0 = .ok (.aload_n 0, 1) := by decide +kernel
theorem dX1_debt_1 : decode cX1_debt 1 = .ok (.getfield 15, 3) := by decide +kernel
theorem dX1_debt_4 : decode cX1_debt 4 = .ok (.iload_n 1, 1) := by decide +kernel
theorem dX1_debt_5 : decode cX1_debt 5 = .ok (.laload, 1) := by decide +kernel
theorem dX1_debt_6 : decode cX1_debt 6 = .ok (.aload_n 0, 1) := by decide +kernel
theorem dX1_debt_7 : decode cX1_debt 7 = .ok (.getfield 24, 3) := by decide +kernel
theorem dX1_debt_10 : decode cX1_debt 10 = .ok (.iload_n 1, 1) := by decide +kernel
theorem dX1_debt_11 : decode cX1_debt 11 = .ok (.laload, 1) := by decide +kernel
theorem dX1_debt_12 : decode cX1_debt 12 = .ok (.lsub, 1) := by decide +kernel
theorem dX1_debt_13 : decode cX1_debt 13 = .ok (.lreturn, 1) := by decide +kernel
theorem dX1_stand_0 : decode cX1_stand 0 = .ok (.aload_n 0, 1) := by decide +kernel
theorem dX1_stand_1 : decode cX1_stand 1 = .ok (.getfield 27, 3) := by decide +kernel
theorem dX1_stand_4 : decode cX1_stand 4 = .ok (.lconst 0, 1) := by decide +kernel
theorem dX1_stand_5 : decode cX1_stand 5 = .ok (.invokestatic 36, 3) := by decide +kernel
theorem dX1_stand_8 : decode cX1_stand 8 = .ok (.aload_n 0, 1) := by decide +kernel
theorem dX1_stand_9 : decode cX1_stand 9 = .ok (.lconst 0, 1) := by decide +kernel
theorem dX1_stand_10 : decode cX1_stand 10 = .ok (.putfield 103, 3) := by decide +kernel
theorem dX1_stand_13 : decode cX1_stand 13 = .ok (.aload_n 0, 1) := by decide +kernel
theorem dX1_stand_14 : decode cX1_stand 14 = .ok (.lconst 0, 1) := by decide +kernel
theorem dX1_stand_15 : decode cX1_stand 15 = .ok (.putfield 107, 3) := by decide +kernel
theorem dX1_stand_18 : decode cX1_stand 18 = .ok (.iconst 0, 1) := by decide +kernel
theorem dX1_stand_19 : decode cX1_stand 19 = .ok (.istore 4, 2) := by decide +kernel
theorem dX1_stand_21 : decode cX1_stand 21 = .ok (.iload 4, 2) := by decide +kernel
theorem dX1_stand_23 : decode cX1_stand 23 = .ok (.aload_n 1, 1) := by decide +kernel
theorem dX1_stand_24 : decode cX1_stand 24 = .ok (.getfield 50, 3) := by decide +kernel
theorem dX1_stand_27 : decode cX1_stand 27 = .ok (.if_icmp .ge 69, 3) := by decide +kernel
theorem dX1_stand_30 : decode cX1_stand 30 = .ok (.aload_n 1, 1) := by decide +kernel
theorem dX1_stand_31 : decode cX1_stand 31 = .ok (.getfield 110, 3) := by decide +kernel
theorem dX1_stand_34 : decode cX1_stand 34 = .ok (.iload 4, 2) := by decide +kernel
theorem dX1_stand_36 : decode cX1_stand 36 = .ok (.iaload, 1) := by decide +kernel
theorem dX1_stand_37 : decode cX1_stand 37 = .ok (.iload_n 3, 1) := by decide +kernel
theorem dX1_stand_38 : decode cX1_stand 38 = .ok (.if_icmp .ne 52, 3) := by decide +kernel
theorem dX1_stand_41 : decode cX1_stand 41 = .ok (.aload_n 0, 1) := by decide +kernel
theorem dX1_stand_42 : decode cX1_stand 42 = .ok (.getfield 27, 3) := by decide +kernel
theorem dX1_stand_45 : decode cX1_stand 45 = .ok (.iload 4, 2) := by decide +kernel
theorem dX1_stand_47 : decode cX1_stand 47 = .ok (.aload_n 2, 1) := by decide +kernel
theorem dX1_stand_48 : decode cX1_stand 48 = .ok (.iconst 2, 1) := by decide +kernel
theorem dX1_stand_49 : decode cX1_stand 49 = .ok (.aload_n 0, 1) := by decide +kernel
theorem dX1_stand_50 : decode cX1_stand 50 = .ok (.iload 4, 2) := by decide +kernel
theorem dX1_stand_52 : decode cX1_stand 52 = .ok (.invokevirtual 113, 3) := by decide +kernel
theorem dX1_stand_55 : decode cX1_stand 55 = .ok (.invokevirtual 58, 3) := by decide +kernel
theorem dX1_stand_58 : decode cX1_stand 58 = .ok (.lastore, 1) := by decide +kernel
theorem dX1_stand_59 : decode cX1_stand 59 = .ok (.aload_n 0, 1) := by decide +kernel
theorem dX1_stand_60 : decode cX1_stand 60 = .ok (.dup, 1) := by decide +kernel
theorem dX1_stand_61 : decode cX1_stand 61 = .ok (.getfield 107, 3) := by decide +kernel
theorem dX1_stand_64 : decode cX1_stand 64 = .ok (.aload_n 0, 1) := by decide +kernel
theorem dX1_stand_65 : decode cX1_stand 65 = .ok (.getfield 27, 3) := by decide +kernel
theorem dX1_stand_68 : decode cX1_stand 68 = .ok (.iload 4, 2) := by decide +kernel
theorem dX1_stand_70 : decode cX1_stand 70 = .ok (.laload, 1) := by decide +kernel
theorem dX1_stand_71 : decode cX1_stand 71 = .ok (.ladd, 1) := by decide +kernel
theorem dX1_stand_72 : decode cX1_stand 72 = .ok (.putfield 107, 3) := by decide +kernel
theorem dX1_stand_75 : decode cX1_stand 75 = .ok (.aload_n 0, 1) := by decide +kernel
theorem dX1_stand_76 : decode cX1_stand 76 = .ok (.dup, 1) := by decide +kernel
theorem dX1_stand_77 : decode cX1_stand 77 = .ok (.getfield 103, 3) := by decide +kernel
theorem dX1_stand_80 : decode cX1_stand 80 = .ok (.aload_n 0, 1) := by decide +kernel
theorem dX1_stand_81 : decode cX1_stand 81 = .ok (.iload 4, 2) := by decide +kernel
theorem dX1_stand_83 : decode cX1_stand 83 = .ok (.invokevirtual 117, 3) := by decide +kernel
theorem dX1_stand_86 : decode cX1_stand 86 = .ok (.ladd, 1) := by decide +kernel
theorem dX1_stand_87 : decode cX1_stand 87 = .ok (.putfield 103, 3) := by decide +kernel
theorem dX1_stand_90 : decode cX1_stand 90 = .ok (.iinc 4 1, 3) := by decide +kernel
theorem dX1_stand_93 : decode cX1_stand 93 = .ok (.goto (-72), 3) := by decide +kernel
theorem dX1_stand_96 : decode cX1_stand 96 = .ok (.aload_n 0, 1) := by decide +kernel
theorem dX1_stand_97 : decode cX1_stand 97 = .ok (.aload_n 1, 1) := by decide +kernel
theorem dX1_stand_98 : decode cX1_stand 98 = .ok (.getfield 50, 3) := by decide +kernel
theorem dX1_stand_101 : decode cX1_stand 101 = .ok (.invokevirtual 120, 3) := by decide +kernel
theorem dX1_stand_104 : decode cX1_stand 104 = .ok (.aload_n 0, 1) := by decide +kernel
theorem dX1_stand_105 : decode cX1_stand 105 = .ok (.aload_n 1, 1) := by decide +kernel
theorem dX1_stand_106 : decode cX1_stand 106 = .ok (.iload_n 3, 1) := by decide +kernel
theorem dX1_stand_107 : decode cX1_stand 107 = .ok (.invokevirtual 124, 3) := by decide +kernel
theorem dX1_stand_110 : decode cX1_stand 110 = .ok (.return_, 1) := by decide +kernel
theorem dX1_giveEvenly_0 : decode cX1_giveEvenly 0 = .ok (.aload_n 0, 1) := by decide +kernel
theorem dX1_giveEvenly_1 : decode cX1_giveEvenly 1 = .ok (.getfield 107, 3) := by decide +kernel
theorem dX1_giveEvenly_4 : decode cX1_giveEvenly 4 = .ok (.aload_n 0, 1) := by decide +kernel
theorem dX1_giveEvenly_5 : decode cX1_giveEvenly 5 = .ok (.getfield 103, 3) := by decide +kernel
theorem dX1_giveEvenly_8 : decode cX1_giveEvenly 8 = .ok (.lcmp, 1) := by decide +kernel
theorem dX1_giveEvenly_9 : decode cX1_giveEvenly 9 = .ok (.ifCond .gt 26, 3) := by decide +kernel
theorem dX1_giveEvenly_12 : decode cX1_giveEvenly 12 = .ok (.aload_n 0, 1) := by decide +kernel
theorem dX1_giveEvenly_13 : decode cX1_giveEvenly 13 = .ok (.getfield 27, 3) := by decide +kernel
theorem dX1_giveEvenly_16 : decode cX1_giveEvenly 16 = .ok (.iconst 0, 1) := by decide +kernel
theorem dX1_giveEvenly_17 : decode cX1_giveEvenly 17 = .ok (.aload_n 0, 1) := by decide +kernel
theorem dX1_giveEvenly_18 : decode cX1_giveEvenly 18 = .ok (.getfield 30, 3) := by decide +kernel
theorem dX1_giveEvenly_21 : decode cX1_giveEvenly 21 = .ok (.iconst 0, 1) := by decide +kernel
theorem dX1_giveEvenly_22 : decode cX1_giveEvenly 22 = .ok (.iload_n 1, 1) := by decide +kernel
theorem dX1_giveEvenly_23 : decode cX1_giveEvenly 23 = .ok (.invokestatic 128, 3) := by decide +kernel
theorem dX1_giveEvenly_26 : decode cX1_giveEvenly 26 = .ok (.aload_n 0, 1) := by decide +kernel
theorem dX1_giveEvenly_27 : decode cX1_giveEvenly 27 = .ok (.aload_n 0, 1) := by decide +kernel
theorem dX1_giveEvenly_28 : decode cX1_giveEvenly 28 = .ok (.getfield 107, 3) := by decide +kernel
theorem dX1_giveEvenly_31 : decode cX1_giveEvenly 31 = .ok (.putfield 134, 3) := by decide +kernel
theorem dX1_giveEvenly_34 : decode cX1_giveEvenly 34 = .ok (.return_, 1) := by decide +kernel
theorem dX1_giveEvenly_35 : decode cX1_giveEvenly 35 = .ok (.aload_n 0, 1) := by decide +kernel
theorem dX1_giveEvenly_36 : decode cX1_giveEvenly 36 = .ok (.iload_n 1, 1) := by decide +kernel
theorem dX1_giveEvenly_37 : decode cX1_giveEvenly 37 = .ok (.invokevirtual 137, 3) := by decide +kernel
theorem dX1_giveEvenly_40 : decode cX1_giveEvenly 40 = .ok (.lstore_n 2, 1) := by decide +kernel
theorem dX1_giveEvenly_41 : decode cX1_giveEvenly 41 = .ok (.aload_n 0, 1) := by decide +kernel
theorem dX1_giveEvenly_42 : decode cX1_giveEvenly 42 = .ok (.getfield 103, 3) := by decide +kernel
theorem dX1_giveEvenly_45 : decode cX1_giveEvenly 45 = .ok (.aload_n 0, 1) := by decide +kernel
theorem dX1_giveEvenly_46 : decode cX1_giveEvenly 46 = .ok (.lload_n 2, 1) := by decide +kernel
theorem dX1_giveEvenly_47 : decode cX1_giveEvenly 47 = .ok (.iload_n 1, 1) := by decide +kernel
theorem dX1_giveEvenly_48 : decode cX1_giveEvenly 48 = .ok (.invokevirtual 140, 3) := by decide +kernel
theorem dX1_giveEvenly_51 : decode cX1_giveEvenly 51 = .ok (.lsub, 1) := by decide +kernel
theorem dX1_giveEvenly_52 : decode cX1_giveEvenly 52 = .ok (.lstore 4, 2) := by decide +kernel
theorem dX1_giveEvenly_54 : decode cX1_giveEvenly 54 = .ok (.iconst 0, 1) := by decide +kernel
theorem dX1_giveEvenly_55 : decode cX1_giveEvenly 55 = .ok (.istore 6, 2) := by decide +kernel
theorem dX1_giveEvenly_57 : decode cX1_giveEvenly 57 = .ok (.iload 6, 2) := by decide +kernel
theorem dX1_giveEvenly_59 : decode cX1_giveEvenly 59 = .ok (.iload_n 1, 1) := by decide +kernel
theorem dX1_giveEvenly_60 : decode cX1_giveEvenly 60 = .ok (.if_icmp .ge 63, 3) := by decide +kernel
theorem dX1_giveEvenly_63 : decode cX1_giveEvenly 63 = .ok (.aload_n 0, 1) := by decide +kernel
theorem dX1_giveEvenly_64 : decode cX1_giveEvenly 64 = .ok (.getfield 30, 3) := by decide +kernel
theorem dX1_giveEvenly_67 : decode cX1_giveEvenly 67 = .ok (.iload 6, 2) := by decide +kernel
theorem dX1_giveEvenly_69 : decode cX1_giveEvenly 69 = .ok (.lload_n 2, 1) := by decide +kernel
theorem dX1_giveEvenly_70 : decode cX1_giveEvenly 70 = .ok (.aload_n 0, 1) := by decide +kernel
theorem dX1_giveEvenly_71 : decode cX1_giveEvenly 71 = .ok (.getfield 27, 3) := by decide +kernel
theorem dX1_giveEvenly_74 : decode cX1_giveEvenly 74 = .ok (.iload 6, 2) := by decide +kernel
theorem dX1_giveEvenly_76 : decode cX1_giveEvenly 76 = .ok (.laload, 1) := by decide +kernel
theorem dX1_giveEvenly_77 : decode cX1_giveEvenly 77 = .ok (.invokestatic 62, 3) := by decide +kernel
theorem dX1_giveEvenly_80 : decode cX1_giveEvenly 80 = .ok (.lastore, 1) := by decide +kernel
theorem dX1_giveEvenly_81 : decode cX1_giveEvenly 81 = .ok (.lload 4, 2) := by decide +kernel
theorem dX1_giveEvenly_83 : decode cX1_giveEvenly 83 = .ok (.lconst 0, 1) := by decide +kernel
theorem dX1_giveEvenly_84 : decode cX1_giveEvenly 84 = .ok (.lcmp, 1) := by decide +kernel
theorem dX1_giveEvenly_85 : decode cX1_giveEvenly 85 = .ok (.ifCond .le 32, 3) := by decide +kernel
theorem dX1_giveEvenly_88 : decode cX1_giveEvenly 88 = .ok (.aload_n 0, 1) := by decide +kernel
theorem dX1_giveEvenly_89 : decode cX1_giveEvenly 89 = .ok (.getfield 27, 3) := by decide +kernel
theorem dX1_giveEvenly_92 : decode cX1_giveEvenly 92 = .ok (.iload 6, 2) := by decide +kernel
theorem dX1_giveEvenly_94 : decode cX1_giveEvenly 94 = .ok (.laload, 1) := by decide +kernel
theorem dX1_giveEvenly_95 : decode cX1_giveEvenly 95 = .ok (.lload_n 2, 1) := by decide +kernel
theorem dX1_giveEvenly_96 : decode cX1_giveEvenly 96 = .ok (.lcmp, 1) := by decide +kernel
theorem dX1_giveEvenly_97 : decode cX1_giveEvenly 97 = .ok (.ifCond .le 20, 3) := by decide +kernel
theorem dX1_giveEvenly_100 : decode cX1_giveEvenly 100 = .ok (.aload_n 0, 1) := by decide +kernel
theorem dX1_giveEvenly_101 : decode cX1_giveEvenly 101 = .ok (.getfield 30, 3) := by decide +kernel
theorem dX1_giveEvenly_104 : decode cX1_giveEvenly 104 = .ok (.iload 6, 2) := by decide +kernel
theorem dX1_giveEvenly_106 : decode cX1_giveEvenly 106 = .ok (.dup2, 1) := by decide +kernel
theorem dX1_giveEvenly_107 : decode cX1_giveEvenly 107 = .ok (.laload, 1) := by decide +kernel
theorem dX1_giveEvenly_108 : decode cX1_giveEvenly 108 = .ok (.lconst 1, 1) := by decide +kernel
theorem dX1_giveEvenly_109 : decode cX1_giveEvenly 109 = .ok (.ladd, 1) := by decide +kernel
theorem dX1_giveEvenly_110 : decode cX1_giveEvenly 110 = .ok (.lastore, 1) := by decide +kernel
theorem dX1_giveEvenly_111 : decode cX1_giveEvenly 111 = .ok (.lload 4, 2) := by decide +kernel
theorem dX1_giveEvenly_113 : decode cX1_giveEvenly 113 = .ok (.lconst 1, 1) := by decide +kernel
theorem dX1_giveEvenly_114 : decode cX1_giveEvenly 114 = .ok (.lsub, 1) := by decide +kernel
theorem dX1_giveEvenly_115 : decode cX1_giveEvenly 115 = .ok (.lstore 4, 2) := by decide +kernel
theorem dX1_giveEvenly_117 : decode cX1_giveEvenly 117 = .ok (.iinc 6 1, 3) := by decide +kernel
theorem dX1_giveEvenly_120 : decode cX1_giveEvenly 120 = .ok (.goto (-63), 3) := by decide +kernel
theorem dX1_giveEvenly_123 : decode cX1_giveEvenly 123 = .ok (.aload_n 0, 1) := by decide +kernel
theorem dX1_giveEvenly_124 : decode cX1_giveEvenly 124 = .ok (.aload_n 0, 1) := by decide +kernel
theorem dX1_giveEvenly_125 : decode cX1_giveEvenly 125 = .ok (.getfield 103, 3) := by decide +kernel
theorem dX1_giveEvenly_128 : decode cX1_giveEvenly 128 = .ok (.putfield 134, 3) := by decide +kernel
theorem dX1_giveEvenly_131 : decode cX1_giveEvenly 131 = .ok (.return_, 1) := by decide +kernel
theorem dX1_greatestLevel_0 : decode cX1_greatestLevel 0 = .ok (.lconst 0, 1) := by decide +kernel
theorem dX1_greatestLevel_1 : decode cX1_greatestLevel 1 = .ok (.lstore_n 2, 1) := by decide +kernel
theorem dX1_greatestLevel_2 : decode cX1_greatestLevel 2 = .ok (.ldc2_w 144, 3) := by decide +kernel
theorem dX1_greatestLevel_5 : decode cX1_greatestLevel 5 = .ok (.lstore 4, 2) := by decide +kernel
theorem dX1_greatestLevel_7 : decode cX1_greatestLevel 7 = .ok (.lload 4, 2) := by decide +kernel
theorem dX1_greatestLevel_9 : decode cX1_greatestLevel 9 = .ok (.lconst 0, 1) := by decide +kernel
theorem dX1_greatestLevel_10 : decode cX1_greatestLevel 10 = .ok (.lcmp, 1) := by decide +kernel
theorem dX1_greatestLevel_11 : decode cX1_greatestLevel 11 = .ok (.ifCond .le 34, 3) := by decide +kernel
theorem dX1_greatestLevel_14 : decode cX1_greatestLevel 14 = .ok (.aload_n 0, 1) := by decide +kernel
theorem dX1_greatestLevel_15 : decode cX1_greatestLevel 15 = .ok (.lload_n 2, 1) := by decide +kernel
theorem dX1_greatestLevel_16 : decode cX1_greatestLevel 16 = .ok (.lload 4, 2) := by decide +kernel
theorem dX1_greatestLevel_18 : decode cX1_greatestLevel 18 = .ok (.ladd, 1) := by decide +kernel
theorem dX1_greatestLevel_19 : decode cX1_greatestLevel 19 = .ok (.iload_n 1, 1) := by decide +kernel
theorem dX1_greatestLevel_20 : decode cX1_greatestLevel 20 = .ok (.invokevirtual 140, 3) := by decide +kernel
theorem dX1_greatestLevel_23 : decode cX1_greatestLevel 23 = .ok (.aload_n 0, 1) := by decide +kernel
theorem dX1_greatestLevel_24 : decode cX1_greatestLevel 24 = .ok (.getfield 103, 3) := by decide +kernel
theorem dX1_greatestLevel_27 : decode cX1_greatestLevel 27 = .ok (.lcmp, 1) := by decide +kernel
theorem dX1_greatestLevel_28 : decode cX1_greatestLevel 28 = .ok (.ifCond .gt 8, 3) := by decide +kernel
theorem dX1_greatestLevel_31 : decode cX1_greatestLevel 31 = .ok (.lload_n 2, 1) := by decide +kernel
theorem dX1_greatestLevel_32 : decode cX1_greatestLevel 32 = .ok (.lload 4, 2) := by decide +kernel
theorem dX1_greatestLevel_34 : decode cX1_greatestLevel 34 = .ok (.ladd, 1) := by decide +kernel
theorem dX1_greatestLevel_35 : decode cX1_greatestLevel 35 = .ok (.lstore_n 2, 1) := by decide +kernel
theorem dX1_greatestLevel_36 : decode cX1_greatestLevel 36 = .ok (.lload 4, 2) := by decide +kernel
theorem dX1_greatestLevel_38 : decode cX1_greatestLevel 38 = .ok (.iconst 1, 1) := by decide +kernel
theorem dX1_greatestLevel_39 : decode cX1_greatestLevel 39 = .ok (.lshr, 1) := by decide +kernel
theorem dX1_greatestLevel_40 : decode cX1_greatestLevel 40 = .ok (.lstore 4, 2) := by decide +kernel
theorem dX1_greatestLevel_42 : decode cX1_greatestLevel 42 = .ok (.goto (-35), 3) := by decide +kernel
theorem dX1_greatestLevel_45 : decode cX1_greatestLevel 45 = .ok (.lload_n 2, 1) := by decide +kernel
theorem dX1_greatestLevel_46 : decode cX1_greatestLevel 46 = .ok (.lreturn, 1) := by decide +kernel
theorem dX1_sumAtLevel_0 : decode cX1_sumAtLevel 0 = .ok (.lconst 0, 1) := by decide +kernel
theorem dX1_sumAtLevel_1 : decode cX1_sumAtLevel 1 = .ok (.lstore 4, 2) := by decide +kernel
theorem dX1_sumAtLevel_3 : decode cX1_sumAtLevel 3 = .ok (.iconst 0, 1) := by decide +kernel
theorem dX1_sumAtLevel_4 : decode cX1_sumAtLevel 4 = .ok (.istore 6, 2) := by decide +kernel
theorem dX1_sumAtLevel_6 : decode cX1_sumAtLevel 6 = .ok (.iload 6, 2) := by decide +kernel
theorem dX1_sumAtLevel_8 : decode cX1_sumAtLevel 8 = .ok (.iload_n 3, 1) := by decide +kernel
theorem dX1_sumAtLevel_9 : decode cX1_sumAtLevel 9 = .ok (.if_icmp .ge 25, 3) := by decide +kernel
theorem dX1_sumAtLevel_12 : decode cX1_sumAtLevel 12 = .ok (.lload 4, 2) := by decide +kernel
theorem dX1_sumAtLevel_14 : decode cX1_sumAtLevel 14 = .ok (.lload_n 1, 1) := by decide +kernel
theorem dX1_sumAtLevel_15 : decode cX1_sumAtLevel 15 = .ok (.aload_n 0, 1) := by decide +kernel
theorem dX1_sumAtLevel_16 : decode cX1_sumAtLevel 16 = .ok (.getfield 27, 3) := by decide +kernel
theorem dX1_sumAtLevel_19 : decode cX1_sumAtLevel 19 = .ok (.iload 6, 2) := by decide +kernel
theorem dX1_sumAtLevel_21 : decode cX1_sumAtLevel 21 = .ok (.laload, 1) := by decide +kernel
theorem dX1_sumAtLevel_22 : decode cX1_sumAtLevel 22 = .ok (.invokestatic 62, 3) := by decide +kernel
theorem dX1_sumAtLevel_25 : decode cX1_sumAtLevel 25 = .ok (.ladd, 1) := by decide +kernel
theorem dX1_sumAtLevel_26 : decode cX1_sumAtLevel 26 = .ok (.lstore 4, 2) := by decide +kernel
theorem dX1_sumAtLevel_28 : decode cX1_sumAtLevel 28 = .ok (.iinc 6 1, 3) := by decide +kernel
theorem dX1_sumAtLevel_31 : decode cX1_sumAtLevel 31 = .ok (.goto (-25), 3) := by decide +kernel
theorem dX1_sumAtLevel_34 : decode cX1_sumAtLevel 34 = .ok (.lload 4, 2) := by decide +kernel
theorem dX1_sumAtLevel_36 : decode cX1_sumAtLevel 36 = .ok (.lreturn, 1) := by decide +kernel
theorem dX1_payDebts_0 : decode cX1_payDebts 0 = .ok (.aload_n 0, 1) := by decide +kernel
theorem dX1_payDebts_1 : decode cX1_payDebts 1 = .ok (.getfield 134, 3) := by decide +kernel
theorem dX1_payDebts_4 : decode cX1_payDebts 4 = .ok (.lstore_n 3, 1) := by decide +kernel
theorem dX1_payDebts_5 : decode cX1_payDebts 5 = .ok (.iconst 0, 1) := by decide +kernel
theorem dX1_payDebts_6 : decode cX1_payDebts 6 = .ok (.istore 5, 2) := by decide +kernel
theorem dX1_payDebts_8 : decode cX1_payDebts 8 = .ok (.iload 5, 2) := by decide +kernel
theorem dX1_payDebts_10 : decode cX1_payDebts 10 = .ok (.aload_n 1, 1) := by decide +kernel
theorem dX1_payDebts_11 : decode cX1_payDebts 11 = .ok (.getfield 50, 3) := by decide +kernel
theorem dX1_payDebts_14 : decode cX1_payDebts 14 = .ok (.if_icmp .ge 47, 3) := by decide +kernel
theorem dX1_payDebts_17 : decode cX1_payDebts 17 = .ok (.aload_n 1, 1) := by decide +kernel
theorem dX1_payDebts_18 : decode cX1_payDebts 18 = .ok (.getfield 110, 3) := by decide +kernel
theorem dX1_payDebts_21 : decode cX1_payDebts 21 = .ok (.iload 5, 2) := by decide +kernel
theorem dX1_payDebts_23 : decode cX1_payDebts 23 = .ok (.iaload, 1) := by decide +kernel
theorem dX1_payDebts_24 : decode cX1_payDebts 24 = .ok (.iload_n 2, 1) := by decide +kernel
theorem dX1_payDebts_25 : decode cX1_payDebts 25 = .ok (.if_icmp .ne 30, 3) := by decide +kernel
theorem dX1_payDebts_28 : decode cX1_payDebts 28 = .ok (.aload_n 0, 1) := by decide +kernel
theorem dX1_payDebts_29 : decode cX1_payDebts 29 = .ok (.getfield 33, 3) := by decide +kernel
theorem dX1_payDebts_32 : decode cX1_payDebts 32 = .ok (.iload 5, 2) := by decide +kernel
theorem dX1_payDebts_34 : decode cX1_payDebts 34 = .ok (.lload_n 3, 1) := by decide +kernel
theorem dX1_payDebts_35 : decode cX1_payDebts 35 = .ok (.aload_n 0, 1) := by decide +kernel
theorem dX1_payDebts_36 : decode cX1_payDebts 36 = .ok (.iload 5, 2) := by decide +kernel
theorem dX1_payDebts_38 : decode cX1_payDebts 38 = .ok (.invokevirtual 117, 3) := by decide +kernel
theorem dX1_payDebts_41 : decode cX1_payDebts 41 = .ok (.invokestatic 62, 3) := by decide +kernel
theorem dX1_payDebts_44 : decode cX1_payDebts 44 = .ok (.lastore, 1) := by decide +kernel
theorem dX1_payDebts_45 : decode cX1_payDebts 45 = .ok (.lload_n 3, 1) := by decide +kernel
theorem dX1_payDebts_46 : decode cX1_payDebts 46 = .ok (.aload_n 0, 1) := by decide +kernel
theorem dX1_payDebts_47 : decode cX1_payDebts 47 = .ok (.getfield 33, 3) := by decide +kernel
theorem dX1_payDebts_50 : decode cX1_payDebts 50 = .ok (.iload 5, 2) := by decide +kernel
theorem dX1_payDebts_52 : decode cX1_payDebts 52 = .ok (.laload, 1) := by decide +kernel
theorem dX1_payDebts_53 : decode cX1_payDebts 53 = .ok (.lsub, 1) := by decide +kernel
theorem dX1_payDebts_54 : decode cX1_payDebts 54 = .ok (.lstore_n 3, 1) := by decide +kernel
theorem dX1_payDebts_55 : decode cX1_payDebts 55 = .ok (.iinc 5 1, 3) := by decide +kernel
theorem dX1_payDebts_58 : decode cX1_payDebts 58 = .ok (.goto (-50), 3) := by decide +kernel
theorem dX1_payDebts_61 : decode cX1_payDebts 61 = .ok (.return_, 1) := by decide +kernel
theorem dX2_read_0 : decode cX2_read 0 = .ok (.aload_n 0, 1) := by decide +kernel
theorem dX2_read_1 : decode cX2_read 1 = .ok (.aload_n 1, 1) := by decide +kernel
theorem dX2_read_2 : decode cX2_read 2 = .ok (.putfield 15, 3) := by decide +kernel
theorem dX2_read_5 : decode cX2_read 5 = .ok (.aload_n 0, 1) := by decide +kernel
theorem dX2_read_6 : decode cX2_read 6 = .ok (.getfield 15, 3) := by decide +kernel
theorem dX2_read_9 : decode cX2_read 9 = .ok (.invokevirtual 19, 3) := by decide +kernel
theorem dX2_read_12 : decode cX2_read 12 = .ok (.aload_n 0, 1) := by decide +kernel
theorem dX2_read_13 : decode cX2_read 13 = .ok (.iconst 0, 1) := by decide +kernel
theorem dX2_read_14 : decode cX2_read 14 = .ok (.putfield 24, 3) := by decide +kernel
theorem dX2_read_17 : decode cX2_read 17 = .ok (.aload_n 0, 1) := by decide +kernel
theorem dX2_read_18 : decode cX2_read 18 = .ok (.invokevirtual 28, 3) := by decide +kernel
theorem dX2_read_21 : decode cX2_read 21 = .ok (.aload_n 0, 1) := by decide +kernel
theorem dX2_read_22 : decode cX2_read 22 = .ok (.getfield 31, 3) := by decide +kernel
theorem dX2_read_25 : decode cX2_read 25 = .ok (.ifCond .ne 5, 3) := by decide +kernel
theorem dX2_read_28 : decode cX2_read 28 = .ok (.iconst (-1), 1) := by decide +kernel
theorem dX2_read_29 : decode cX2_read 29 = .ok (.ireturn, 1) := by decide +kernel
theorem dX2_read_30 : decode cX2_read 30 = .ok (.iconst 0, 1) := by decide +kernel
theorem dX2_read_31 : decode cX2_read 31 = .ok (.istore_n 2, 1) := by decide +kernel
theorem dX2_read_32 : decode cX2_read 32 = .ok (.iload_n 2, 1) := by decide +kernel
theorem dX2_read_33 : decode cX2_read 33 = .ok (.bipush 20, 2) := by decide +kernel
theorem dX2_read_35 : decode cX2_read 35 = .ok (.if_icmp .ge 59, 3) := by decide +kernel
theorem dX2_read_38 : decode cX2_read 38 = .ok (.aload_n 0, 1) := by decide +kernel
theorem dX2_read_39 : decode cX2_read 39 = .ok (.invokevirtual 34, 3) := by decide +kernel
theorem dX2_read_42 : decode cX2_read 42 = .ok (.ifCond .ne 8, 3) := by decide +kernel
theorem dX2_read_45 : decode cX2_read 45 = .ok (.aload_n 0, 1) := by decide +kernel
theorem dX2_read_46 : decode cX2_read 46 = .ok (.getfield 38, 3) := by decide +kernel
theorem dX2_read_49 : decode cX2_read 49 = .ok (.ireturn, 1) := by decide +kernel
theorem dX2_read_50 : decode cX2_read 50 = .ok (.aload_n 0, 1) := by decide +kernel
theorem dX2_read_51 : decode cX2_read 51 = .ok (.getfield 15, 3) := by decide +kernel
theorem dX2_read_54 : decode cX2_read 54 = .ok (.dup, 1) := by decide +kernel
theorem dX2_read_55 : decode cX2_read 55 = .ok (.getfield 41, 3) := by decide +kernel
theorem dX2_read_58 : decode cX2_read 58 = .ok (.iconst 1, 1) := by decide +kernel
theorem dX2_read_59 : decode cX2_read 59 = .ok (.iadd, 1) := by decide +kernel
theorem dX2_read_60 : decode cX2_read 60 = .ok (.putfield 41, 3) := by decide +kernel
theorem dX2_read_63 : decode cX2_read 63 = .ok (.aload_n 0, 1) := by decide +kernel
theorem dX2_read_64 : decode cX2_read 64 = .ok (.getfield 31, 3) := by decide +kernel
theorem dX2_read_67 : decode cX2_read 67 = .ok (.ifCond .ne 5, 3) := by decide +kernel
theorem dX2_read_70 : decode cX2_read 70 = .ok (.iconst (-1), 1) := by decide +kernel
theorem dX2_read_71 : decode cX2_read 71 = .ok (.ireturn, 1) := by decide +kernel
theorem dX2_read_72 : decode cX2_read 72 = .ok (.aload_n 0, 1) := by decide +kernel
theorem dX2_read_73 : decode cX2_read 73 = .ok (.invokevirtual 44, 3) := by decide +kernel
theorem dX2_read_76 : decode cX2_read 76 = .ok (.ifCond .ne 8, 3) := by decide +kernel
theorem dX2_read_79 : decode cX2_read 79 = .ok (.aload_n 0, 1) := by decide +kernel
theorem dX2_read_80 : decode cX2_read 80 = .ok (.getfield 38, 3) := by decide +kernel
theorem dX2_read_83 : decode cX2_read 83 = .ok (.ireturn, 1) := by decide +kernel
theorem dX2_read_84 : decode cX2_read 84 = .ok (.aload_n 0, 1) := by decide +kernel
theorem dX2_read_85 : decode cX2_read 85 = .ok (.invokevirtual 28, 3) := by decide +kernel
theorem dX2_read_88 : decode cX2_read 88 = .ok (.iinc 2 1, 3) := by decide +kernel
theorem dX2_read_91 : decode cX2_read 91 = .ok (.goto (-59), 3) := by decide +kernel
theorem dX2_read_94 : decode cX2_read 94 = .ok (.aload_n 0, 1) := by decide +kernel
theorem dX2_read_95 : decode cX2_read 95 = .ok (.getfield 38, 3) := by decide +kernel
theorem dX2_read_98 : decode cX2_read 98 = .ok (.ireturn, 1) := by decide +kernel
theorem dX2_readClause_0 : decode cX2_readClause 0 = .ok (.aload_n 0, 1) := by decide +kernel
theorem dX2_readClause_1 : decode cX2_readClause 1 = .ok (.ldc 47, 2) := by decide +kernel
theorem dX2_readClause_3 : decode cX2_readClause 3 = .ok (.invokevirtual 49, 3) := by decide +kernel
theorem dX2_readClause_6 : decode cX2_readClause 6 = .ok (.ifCond .eq 8, 3) := by decide +kernel
theorem dX2_readClause_9 : decode cX2_readClause 9 = .ok (.aload_n 0, 1) := by decide +kernel
theorem dX2_readClause_10 : decode cX2_readClause 10 = .ok (.invokevirtual 53, 3) := by decide +kernel
theorem dX2_readClause_13 : decode cX2_readClause 13 = .ok (.ireturn, 1) := by decide +kernel
theorem dX2_readClause_14 : decode cX2_readClause 14 = .ok (.aload_n 0, 1) := by decide +kernel
theorem dX2_readClause_15 : decode cX2_readClause 15 = .ok (.ldc 56, 2) := by decide +kernel
theorem dX2_readClause_17 : decode cX2_readClause 17 = .ok (.invokevirtual 49, 3) := by decide +kernel
theorem dX2_readClause_20 : decode cX2_readClause 20 = .ok (.ifCond .eq 8, 3) := by decide +kernel
theorem dX2_readClause_23 : decode cX2_readClause 23 = .ok (.aload_n 0, 1) := by decide +kernel
theorem dX2_readClause_24 : decode cX2_readClause 24 = .ok (.invokevirtual 58, 3) := by decide +kernel
theorem dX2_readClause_27 : decode cX2_readClause 27 = .ok (.ireturn, 1) := by decide +kernel
theorem dX2_readClause_28 : decode cX2_readClause 28 = .ok (.aload_n 0, 1) := by decide +kernel
theorem dX2_readClause_29 : decode cX2_readClause 29 = .ok (.ldc 61, 2) := by decide +kernel
theorem dX2_readClause_31 : decode cX2_readClause 31 = .ok (.invokevirtual 49, 3) := by decide +kernel
theorem dX2_readClause_34 : decode cX2_readClause 34 = .ok (.ifCond .eq 9, 3) := by decide +kernel
theorem dX2_readClause_37 : decode cX2_readClause 37 = .ok (.aload_n 0, 1) := by decide +kernel
theorem dX2_readClause_38 : decode cX2_readClause 38 = .ok (.iconst 0, 1) := by decide +kernel
theorem dX2_readClause_39 : decode cX2_readClause 39 = .ok (.invokevirtual 63, 3) := by decide +kernel
theorem dX2_readClause_42 : decode cX2_readClause 42 = .ok (.ireturn, 1) := by decide +kernel
theorem dX2_readClause_43 : decode cX2_readClause 43 = .ok (.aload_n 0, 1) := by decide +kernel
theorem dX2_readClause_44 : decode cX2_readClause 44 = .ok (.ldc 67, 2) := by decide +kernel
theorem dX2_readClause_46 : decode cX2_readClause 46 = .ok (.invokevirtual 49, 3) := by decide +kernel
theorem dX2_readClause_49 : decode cX2_readClause 49 = .ok (.ifCond .eq 9, 3) := by decide +kernel
theorem dX2_readClause_52 : decode cX2_readClause 52 = .ok (.aload_n 0, 1) := by decide +kernel
theorem dX2_readClause_53 : decode cX2_readClause 53 = .ok (.iconst 1, 1) := by decide +kernel
theorem dX2_readClause_54 : decode cX2_readClause 54 = .ok (.invokevirtual 63, 3) := by decide +kernel
theorem dX2_readClause_57 : decode cX2_readClause 57 = .ok (.ireturn, 1) := by decide +kernel
theorem dX2_readClause_58 : decode cX2_readClause 58 = .ok (.aload_n 0, 1) := by decide +kernel
theorem dX2_readClause_59 : decode cX2_readClause 59 = .ok (.ldc 69, 2) := by decide +kernel
theorem dX2_readClause_61 : decode cX2_readClause 61 = .ok (.invokevirtual 49, 3) := by decide +kernel
theorem dX2_readClause_64 : decode cX2_readClause 64 = .ok (.ifCond .eq 9, 3) := by decide +kernel
theorem dX2_readClause_67 : decode cX2_readClause 67 = .ok (.aload_n 0, 1) := by decide +kernel
theorem dX2_readClause_68 : decode cX2_readClause 68 = .ok (.iconst 2, 1) := by decide +kernel
theorem dX2_readClause_69 : decode cX2_readClause 69 = .ok (.invokevirtual 63, 3) := by decide +kernel
theorem dX2_readClause_72 : decode cX2_readClause 72 = .ok (.ireturn, 1) := by decide +kernel
theorem dX2_readClause_73 : decode cX2_readClause 73 = .ok (.aload_n 0, 1) := by decide +kernel
theorem dX2_readClause_74 : decode cX2_readClause 74 = .ok (.ldc 71, 2) := by decide +kernel
theorem dX2_readClause_76 : decode cX2_readClause 76 = .ok (.invokevirtual 49, 3) := by decide +kernel
theorem dX2_readClause_79 : decode cX2_readClause 79 = .ok (.ifCond .eq 9, 3) := by decide +kernel
theorem dX2_readClause_82 : decode cX2_readClause 82 = .ok (.aload_n 0, 1) := by decide +kernel
theorem dX2_readClause_83 : decode cX2_readClause 83 = .ok (.iconst 3, 1) := by decide +kernel
theorem dX2_readClause_84 : decode cX2_readClause 84 = .ok (.invokevirtual 63, 3) := by decide +kernel
theorem dX2_readClause_87 : decode cX2_readClause 87 = .ok (.ireturn, 1) := by decide +kernel
theorem dX2_readClause_88 : decode cX2_readClause 88 = .ok (.iconst 0, 1) := by decide +kernel
theorem dX2_readClause_89 : decode cX2_readClause 89 = .ok (.ireturn, 1) := by decide +kernel
theorem dX2_readPrice_0 : decode cX2_readPrice 0 = .ok (.aload_n 0, 1) := by decide +kernel
theorem dX2_readPrice_1 : decode cX2_readPrice 1 = .ok (.invokevirtual 28, 3) := by decide +kernel
theorem dX2_readPrice_4 : decode cX2_readPrice 4 = .ok (.aload_n 0, 1) := by decide +kernel
theorem dX2_readPrice_5 : decode cX2_readPrice 5 = .ok (.invokevirtual 73, 3) := by decide +kernel
theorem dX2_readPrice_8 : decode cX2_readPrice 8 = .ok (.istore_n 1, 1) := by decide +kernel
theorem dX2_readPrice_9 : decode cX2_readPrice 9 = .ok (.iload_n 1, 1) := by decide +kernel
theorem dX2_readPrice_10 : decode cX2_readPrice 10 = .ok (.iconst 0, 1) := by decide +kernel
theorem dX2_readPrice_11 : decode cX2_readPrice 11 = .ok (.iconst 4, 1) := by decide +kernel
theorem dX2_readPrice_12 : decode cX2_readPrice 12 = .ok (.invokestatic 77, 3) := by decide +kernel
theorem dX2_readPrice_15 : decode cX2_readPrice 15 = .ok (.ifCond .eq 5, 3) := by decide +kernel
theorem dX2_readPrice_18 : decode cX2_readPrice 18 = .ok (.iconst 0, 1) := by decide +kernel
theorem dX2_readPrice_19 : decode cX2_readPrice 19 = .ok (.ireturn, 1) := by decide +kernel
theorem dX2_readPrice_20 : decode cX2_readPrice 20 = .ok (.aload_n 0, 1) := by decide +kernel
theorem dX2_readPrice_21 : decode cX2_readPrice 21 = .ok (.invokevirtual 28, 3) := by decide +kernel
theorem dX2_readPrice_24 : decode cX2_readPrice 24 = .ok (.aload_n 0, 1) := by decide +kernel
theorem dX2_readPrice_25 : decode cX2_readPrice 25 = .ok (.invokevirtual 73, 3) := by decide +kernel
theorem dX2_readPrice_28 : decode cX2_readPrice 28 = .ok (.istore_n 2, 1) := by decide +kernel
theorem dX2_readPrice_29 : decode cX2_readPrice 29 = .ok (.iload_n 2, 1) := by decide +kernel
theorem dX2_readPrice_30 : decode cX2_readPrice 30 = .ok (.iconst 0, 1) := by decide +kernel
theorem dX2_readPrice_31 : decode cX2_readPrice 31 = .ok (.sipush 10000, 3) := by decide +kernel
theorem dX2_readPrice_34 : decode cX2_readPrice 34 = .ok (.invokestatic 77, 3) := by decide +kernel
theorem dX2_readPrice_37 : decode cX2_readPrice 37 = .ok (.ifCond .eq 5, 3) := by decide +kernel
theorem dX2_readPrice_40 : decode cX2_readPrice 40 = .ok (.iconst 0, 1) := by decide +kernel
theorem dX2_readPrice_41 : decode cX2_readPrice 41 = .ok (.ireturn, 1) := by decide +kernel
theorem dX2_readPrice_42 : decode cX2_readPrice 42 = .ok (.aload_n 0, 1) := by decide +kernel
theorem dX2_readPrice_43 : decode cX2_readPrice 43 = .ok (.getfield 15, 3) := by decide +kernel
theorem dX2_readPrice_46 : decode cX2_readPrice 46 = .ok (.getfield 81, 3) := by decide +kernel
theorem dX2_readPrice_49 : decode cX2_readPrice 49 = .ok (.iload_n 1, 1) := by decide +kernel
theorem dX2_readPrice_50 : decode cX2_readPrice 50 = .ok (.iload_n 2, 1) := by decide +kernel
theorem dX2_readPrice_51 : decode cX2_readPrice 51 = .ok (.iastore, 1) := by decide +kernel
theorem dX2_readPrice_52 : decode cX2_readPrice 52 = .ok (.aload_n 0, 1) := by decide +kernel
theorem dX2_readPrice_53 : decode cX2_readPrice 53 = .ok (.invokevirtual 28, 3) := by decide +kernel
theorem dX2_readPrice_56 : decode cX2_readPrice 56 = .ok (.iconst 1, 1) := by decide +kernel
theorem dX2_readPrice_57 : decode cX2_readPrice 57 = .ok (.ireturn, 1) := by decide +kernel
theorem dX2_readQuota_0 : decode cX2_readQuota 0 = .ok (.aload_n 0, 1) := by decide +kernel
theorem dX2_readQuota_1 : decode cX2_readQuota 1 = .ok (.invokevirtual 28, 3) := by decide +kernel
theorem dX2_readQuota_4 : decode cX2_readQuota 4 = .ok (.aload_n 0, 1) := by decide +kernel
theorem dX2_readQuota_5 : decode cX2_readQuota 5 = .ok (.invokevirtual 73, 3) := by decide +kernel
theorem dX2_readQuota_8 : decode cX2_readQuota 8 = .ok (.istore_n 1, 1) := by decide +kernel
theorem dX2_readQuota_9 : decode cX2_readQuota 9 = .ok (.iload_n 1, 1) := by decide +kernel
theorem dX2_readQuota_10 : decode cX2_readQuota 10 = .ok (.iconst 0, 1) := by decide +kernel
theorem dX2_readQuota_11 : decode cX2_readQuota 11 = .ok (.sipush 10000, 3) := by decide +kernel
theorem dX2_readQuota_14 : decode cX2_readQuota 14 = .ok (.invokestatic 77, 3) := by decide +kernel
theorem dX2_readQuota_17 : decode cX2_readQuota 17 = .ok (.ifCond .eq 5, 3) := by decide +kernel
theorem dX2_readQuota_20 : decode cX2_readQuota 20 = .ok (.iconst 0, 1) := by decide +kernel
theorem dX2_readQuota_21 : decode cX2_readQuota 21 = .ok (.ireturn, 1) := by decide +kernel
theorem dX2_readQuota_22 : decode cX2_readQuota 22 = .ok (.aload_n 0, 1) := by decide +kernel
theorem dX2_readQuota_23 : decode cX2_readQuota 23 = .ok (.getfield 15, 3) := by decide +kernel
theorem dX2_readQuota_26 : decode cX2_readQuota 26 = .ok (.iload_n 1, 1) := by decide +kernel
theorem dX2_readQuota_27 : decode cX2_readQuota 27 = .ok (.putfield 84, 3) := by decide +kernel
theorem dX2_readQuota_30 : decode cX2_readQuota 30 = .ok (.aload_n 0, 1) := by decide +kernel
theorem dX2_readQuota_31 : decode cX2_readQuota 31 = .ok (.invokevirtual 28, 3) := by decide +kernel
theorem dX2_readQuota_34 : decode cX2_readQuota 34 = .ok (.iconst 1, 1) := by decide +kernel
theorem dX2_readQuota_35 : decode cX2_readQuota 35 = .ok (.ireturn, 1) := by decide +kernel
theorem dX2_readShare_0 : decode cX2_readShare 0 = .ok (.aload_n 0, 1) := by decide +kernel
theorem dX2_readShare_1 : decode cX2_readShare 1 = .ok (.invokevirtual 28, 3) := by decide +kernel
theorem dX2_readShare_4 : decode cX2_readShare 4 = .ok (.aload_n 0, 1) := by decide +kernel
theorem dX2_readShare_5 : decode cX2_readShare 5 = .ok (.invokevirtual 73, 3) := by decide +kernel
theorem dX2_readShare_8 : decode cX2_readShare 8 = .ok (.istore_n 2, 1) := by decide +kernel
theorem dX2_readShare_9 : decode cX2_readShare 9 = .ok (.iload_n 2, 1) := by decide +kernel
theorem dX2_readShare_10 : decode cX2_readShare 10 = .ok (.iconst 0, 1) := by decide +kernel
theorem dX2_readShare_11 : decode cX2_readShare 11 = .ok (.sipush 10000, 3) := by decide +kernel
theorem dX2_readShare_14 : decode cX2_readShare 14 = .ok (.invokestatic 77, 3) := by decide +kernel
theorem dX2_readShare_17 : decode cX2_readShare 17 = .ok (.ifCond .eq 5, 3) := by decide +kernel
theorem dX2_readShare_20 : decode cX2_readShare 20 = .ok (.iconst 0, 1) := by decide +kernel
theorem dX2_readShare_21 : decode cX2_readShare 21 = .ok (.ireturn, 1) := by decide +kernel
theorem dX2_readShare_22 : decode cX2_readShare 22 = .ok (.aload_n 0, 1) := by decide +kernel
theorem dX2_readShare_23 : decode cX2_readShare 23 = .ok (.invokevirtual 28, 3) := by decide +kernel
theorem dX2_readShare_26 : decode cX2_readShare 26 = .ok (.aload_n 0, 1) := by decide +kernel
theorem dX2_readShare_27 : decode cX2_readShare 27 = .ok (.ldc 86, 2) := by decide +kernel
theorem dX2_readShare_29 : decode cX2_readShare 29 = .ok (.invokevirtual 49, 3) := by decide +kernel
theorem dX2_readShare_32 : decode cX2_readShare 32 = .ok (.ifCond .ne 5, 3) := by decide +kernel
theorem dX2_readShare_35 : decode cX2_readShare 35 = .ok (.iconst 0, 1) := by decide +kernel
theorem dX2_readShare_36 : decode cX2_readShare 36 = .ok (.ireturn, 1) := by decide +kernel
theorem dX2_readShare_37 : decode cX2_readShare 37 = .ok (.aload_n 0, 1) := by decide +kernel
theorem dX2_readShare_38 : decode cX2_readShare 38 = .ok (.invokevirtual 28, 3) := by decide +kernel
theorem dX2_readShare_41 : decode cX2_readShare 41 = .ok (.aload_n 0, 1) := by decide +kernel
theorem dX2_readShare_42 : decode cX2_readShare 42 = .ok (.invokevirtual 73, 3) := by decide +kernel
theorem dX2_readShare_45 : decode cX2_readShare 45 = .ok (.istore_n 3, 1) := by decide +kernel
theorem dX2_readShare_46 : decode cX2_readShare 46 = .ok (.iload_n 3, 1) := by decide +kernel
theorem dX2_readShare_47 : decode cX2_readShare 47 = .ok (.iconst 1, 1) := by decide +kernel
theorem dX2_readShare_48 : decode cX2_readShare 48 = .ok (.iload_n 2, 1) := by decide +kernel
theorem dX2_readShare_49 : decode cX2_readShare 49 = .ok (.invokestatic 88, 3) := by decide +kernel
theorem dX2_readShare_52 : decode cX2_readShare 52 = .ok (.sipush 10000, 3) := by decide +kernel
theorem dX2_readShare_55 : decode cX2_readShare 55 = .ok (.invokestatic 77, 3) := by decide +kernel
theorem dX2_readShare_58 : decode cX2_readShare 58 = .ok (.ifCond .eq 5, 3) := by decide +kernel
theorem dX2_readShare_61 : decode cX2_readShare 61 = .ok (.iconst 0, 1) := by decide +kernel
theorem dX2_readShare_62 : decode cX2_readShare 62 = .ok (.ireturn, 1) := by decide +kernel
theorem dX2_readShare_63 : decode cX2_readShare 63 = .ok (.aload_n 0, 1) := by decide +kernel
theorem dX2_readShare_64 : decode cX2_readShare 64 = .ok (.getfield 15, 3) := by decide +kernel
theorem dX2_readShare_67 : decode cX2_readShare 67 = .ok (.iload_n 1, 1) := by decide +kernel
theorem dX2_readShare_68 : decode cX2_readShare 68 = .ok (.iload_n 2, 1) := by decide +kernel
theorem dX2_readShare_69 : decode cX2_readShare 69 = .ok (.iload_n 3, 1) := by decide +kernel
theorem dX2_readShare_70 : decode cX2_readShare 70 = .ok (.invokevirtual 94, 3) := by decide +kernel
theorem dX2_readShare_73 : decode cX2_readShare 73 = .ok (.aload_n 0, 1) := by decide +kernel
theorem dX2_readShare_74 : decode cX2_readShare 74 = .ok (.invokevirtual 28, 3) := by decide +kernel
theorem dX2_readShare_77 : decode cX2_readShare 77 = .ok (.iconst 1, 1) := by decide +kernel
theorem dX2_readShare_78 : decode cX2_readShare 78 = .ok (.ireturn, 1) := by decide +kernel
theorem dX2_next_0 : decode cX2_next 0 = .ok (.aload_n 0, 1) := by decide +kernel
theorem dX2_next_1 : decode cX2_next 1 = .ok (.aload_n 0, 1) := by decide +kernel
theorem dX2_next_2 : decode cX2_next 2 = .ok (.getfield 24, 3) := by decide +kernel
theorem dX2_next_5 : decode cX2_next 5 = .ok (.putfield 38, 3) := by decide +kernel
theorem dX2_next_8 : decode cX2_next 8 = .ok (.aload_n 0, 1) := by decide +kernel
theorem dX2_next_9 : decode cX2_next 9 = .ok (.getfield 38, 3) := by decide +kernel
theorem dX2_next_12 : decode cX2_next 12 = .ok (.aload_n 0, 1) := by decide +kernel
theorem dX2_next_13 : decode cX2_next 13 = .ok (.getfield 9, 3) := by decide +kernel
theorem dX2_next_16 : decode cX2_next 16 = .ok (.getfield 98, 3) := by decide +kernel
theorem dX2_next_19 : decode cX2_next 19 = .ok (.if_icmp .ge 33, 3) := by decide +kernel
theorem dX2_next_22 : decode cX2_next 22 = .ok (.aload_n 0, 1) := by decide +kernel
theorem dX2_next_23 : decode cX2_next 23 = .ok (.getfield 9, 3) := by decide +kernel
theorem dX2_next_26 : decode cX2_next 26 = .ok (.getfield 103, 3) := by decide +kernel
theorem dX2_next_29 : decode cX2_next 29 = .ok (.aload_n 0, 1) := by decide +kernel
theorem dX2_next_30 : decode cX2_next 30 = .ok (.getfield 38, 3) := by decide +kernel
theorem dX2_next_33 : decode cX2_next 33 = .ok (.iaload, 1) := by decide +kernel
theorem dX2_next_34 : decode cX2_next 34 = .ok (.bipush 32, 2) := by decide +kernel
theorem dX2_next_36 : decode cX2_next 36 = .ok (.if_icmp .ne 16, 3) := by decide +kernel
theorem dX2_next_39 : decode cX2_next 39 = .ok (.aload_n 0, 1) := by decide +kernel
theorem dX2_next_40 : decode cX2_next 40 = .ok (.dup, 1) := by decide +kernel
theorem dX2_next_41 : decode cX2_next 41 = .ok (.getfield 38, 3) := by decide +kernel
theorem dX2_next_44 : decode cX2_next 44 = .ok (.iconst 1, 1) := by decide +kernel
theorem dX2_next_45 : decode cX2_next 45 = .ok (.iadd, 1) := by decide +kernel
theorem dX2_next_46 : decode cX2_next 46 = .ok (.putfield 38, 3) := by decide +kernel
theorem dX2_next_49 : decode cX2_next 49 = .ok (.goto (-41), 3) := by decide +kernel
theorem dX2_next_52 : decode cX2_next 52 = .ok (.aload_n 0, 1) := by decide +kernel
theorem dX2_next_53 : decode cX2_next 53 = .ok (.aload_n 0, 1) := by decide +kernel
theorem dX2_next_54 : decode cX2_next 54 = .ok (.aload_n 0, 1) := by decide +kernel
theorem dX2_next_55 : decode cX2_next 55 = .ok (.getfield 38, 3) := by decide +kernel
theorem dX2_next_58 : decode cX2_next 58 = .ok (.invokevirtual 106, 3) := by decide +kernel
theorem dX2_next_61 : decode cX2_next 61 = .ok (.putfield 31, 3) := by decide +kernel
theorem dX2_next_64 : decode cX2_next 64 = .ok (.aload_n 0, 1) := by decide +kernel
theorem dX2_next_65 : decode cX2_next 65 = .ok (.aload_n 0, 1) := by decide +kernel
theorem dX2_next_66 : decode cX2_next 66 = .ok (.getfield 38, 3) := by decide +kernel
theorem dX2_next_69 : decode cX2_next 69 = .ok (.putfield 24, 3) := by decide +kernel
theorem dX2_next_72 : decode cX2_next 72 = .ok (.aload_n 0, 1) := by decide +kernel
theorem dX2_next_73 : decode cX2_next 73 = .ok (.getfield 31, 3) := by decide +kernel
theorem dX2_next_76 : decode cX2_next 76 = .ok (.iconst 3, 1) := by decide +kernel
theorem dX2_next_77 : decode cX2_next 77 = .ok (.if_icmp .ne 13, 3) := by decide +kernel
theorem dX2_next_80 : decode cX2_next 80 = .ok (.aload_n 0, 1) := by decide +kernel
theorem dX2_next_81 : decode cX2_next 81 = .ok (.dup, 1) := by decide +kernel
theorem dX2_next_82 : decode cX2_next 82 = .ok (.getfield 24, 3) := by decide +kernel
theorem dX2_next_85 : decode cX2_next 85 = .ok (.iconst 1, 1) := by decide +kernel
theorem dX2_next_86 : decode cX2_next 86 = .ok (.iadd, 1) := by decide +kernel
theorem dX2_next_87 : decode cX2_next 87 = .ok (.putfield 24, 3) := by decide +kernel
theorem dX2_next_90 : decode cX2_next 90 = .ok (.aload_n 0, 1) := by decide +kernel
theorem dX2_next_91 : decode cX2_next 91 = .ok (.getfield 31, 3) := by decide +kernel
theorem dX2_next_94 : decode cX2_next 94 = .ok (.iconst 1, 1) := by decide +kernel
theorem dX2_next_95 : decode cX2_next 95 = .ok (.if_icmp .eq 11, 3) := by decide +kernel
theorem dX2_next_98 : decode cX2_next 98 = .ok (.aload_n 0, 1) := by decide +kernel
theorem dX2_next_99 : decode cX2_next 99 = .ok (.getfield 31, 3) := by decide +kernel
theorem dX2_next_102 : decode cX2_next 102 = .ok (.iconst 2, 1) := by decide +kernel
theorem dX2_next_103 : decode cX2_next 103 = .ok (.if_icmp .ne 45, 3) := by decide +kernel
theorem dX2_next_106 : decode cX2_next 106 = .ok (.aload_n 0, 1) := by decide +kernel
theorem dX2_next_107 : decode cX2_next 107 = .ok (.getfield 24, 3) := by decide +kernel
theorem dX2_next_110 : decode cX2_next 110 = .ok (.aload_n 0, 1) := by decide +kernel
theorem dX2_next_111 : decode cX2_next 111 = .ok (.getfield 9, 3) := by decide +kernel
theorem dX2_next_114 : decode cX2_next 114 = .ok (.getfield 98, 3) := by decide +kernel
theorem dX2_next_117 : decode cX2_next 117 = .ok (.if_icmp .ge 31, 3) := by decide +kernel
theorem dX2_next_120 : decode cX2_next 120 = .ok (.aload_n 0, 1) := by decide +kernel
theorem dX2_next_121 : decode cX2_next 121 = .ok (.aload_n 0, 1) := by decide +kernel
theorem dX2_next_122 : decode cX2_next 122 = .ok (.getfield 24, 3) := by decide +kernel
theorem dX2_next_125 : decode cX2_next 125 = .ok (.invokevirtual 106, 3) := by decide +kernel
theorem dX2_next_128 : decode cX2_next 128 = .ok (.aload_n 0, 1) := by decide +kernel
theorem dX2_next_129 : decode cX2_next 129 = .ok (.getfield 31, 3) := by decide +kernel
theorem dX2_next_132 : decode cX2_next 132 = .ok (.if_icmp .ne 16, 3) := by decide +kernel
theorem dX2_next_135 : decode cX2_next 135 = .ok (.aload_n 0, 1) := by decide +kernel
theorem dX2_next_136 : decode cX2_next 136 = .ok (.dup, 1) := by decide +kernel
theorem dX2_next_137 : decode cX2_next 137 = .ok (.getfield 24, 3) := by decide +kernel
theorem dX2_next_140 : decode cX2_next 140 = .ok (.iconst 1, 1) := by decide +kernel
theorem dX2_next_141 : decode cX2_next 141 = .ok (.iadd, 1) := by decide +kernel
theorem dX2_next_142 : decode cX2_next 142 = .ok (.putfield 24, 3) := by decide +kernel
theorem dX2_next_145 : decode cX2_next 145 = .ok (.goto (-39), 3) := by decide +kernel
theorem dX2_next_148 : decode cX2_next 148 = .ok (.return_, 1) := by decide +kernel
theorem dX2_kindAt_0 : decode cX2_kindAt 0 = .ok (.iload_n 1, 1) := by decide +kernel
theorem dX2_kindAt_1 : decode cX2_kindAt 1 = .ok (.aload_n 0, 1) := by decide +kernel
theorem dX2_kindAt_2 : decode cX2_kindAt 2 = .ok (.getfield 9, 3) := by decide +kernel
theorem dX2_kindAt_5 : decode cX2_kindAt 5 = .ok (.getfield 98, 3) := by decide +kernel
theorem dX2_kindAt_8 : decode cX2_kindAt 8 = .ok (.if_icmp .lt 5, 3) := by decide +kernel
theorem dX2_kindAt_11 : decode cX2_kindAt 11 = .ok (.iconst 0, 1) := by decide +kernel
theorem dX2_kindAt_12 : decode cX2_kindAt 12 = .ok (.ireturn, 1) := by decide +kernel
theorem dX2_kindAt_13 : decode cX2_kindAt 13 = .ok (.aload_n 0, 1) := by decide +kernel
theorem dX2_kindAt_14 : decode cX2_kindAt 14 = .ok (.getfield 9, 3) := by decide +kernel
theorem dX2_kindAt_17 : decode cX2_kindAt 17 = .ok (.getfield 103, 3) := by decide +kernel
theorem dX2_kindAt_20 : decode cX2_kindAt 20 = .ok (.iload_n 1, 1) := by decide +kernel
theorem dX2_kindAt_21 : decode cX2_kindAt 21 = .ok (.iaload, 1) := by decide +kernel
theorem dX2_kindAt_22 : decode cX2_kindAt 22 = .ok (.istore_n 2, 1) := by decide +kernel
theorem dX2_kindAt_23 : decode cX2_kindAt 23 = .ok (.iload_n 2, 1) := by decide +kernel
theorem dX2_kindAt_24 : decode cX2_kindAt 24 = .ok (.bipush 97, 2) := by decide +kernel
theorem dX2_kindAt_26 : decode cX2_kindAt 26 = .ok (.if_icmp .lt 11, 3) := by decide +kernel
theorem dX2_kindAt_29 : decode cX2_kindAt 29 = .ok (.iload_n 2, 1) := by decide +kernel
theorem dX2_kindAt_30 : decode cX2_kindAt 30 = .ok (.bipush 122, 2) := by decide +kernel
theorem dX2_kindAt_32 : decode cX2_kindAt 32 = .ok (.if_icmp .gt 5, 3) := by decide +kernel
theorem dX2_kindAt_35 : decode cX2_kindAt 35 = .ok (.iconst 1, 1) := by decide +kernel
theorem dX2_kindAt_36 : decode cX2_kindAt 36 = .ok (.ireturn, 1) := by decide +kernel
theorem dX2_kindAt_37 : decode cX2_kindAt 37 = .ok (.iload_n 2, 1) := by decide +kernel
theorem dX2_kindAt_38 : decode cX2_kindAt 38 = .ok (.bipush 48, 2) := by decide +kernel
theorem dX2_kindAt_40 : decode cX2_kindAt 40 = .ok (.if_icmp .lt 13, 3) := by decide +kernel
theorem dX2_kindAt_43 : decode cX2_kindAt 43 = .ok (.iload_n 2, 1) := by decide +kernel
theorem dX2_kindAt_44 : decode cX2_kindAt 44 = .ok (.bipush 57, 2) := by decide +kernel
theorem dX2_kindAt_46 : decode cX2_kindAt 46 = .ok (.if_icmp .gt 7, 3) := by decide +kernel
theorem dX2_kindAt_49 : decode cX2_kindAt 49 = .ok (.iconst 2, 1) := by decide +kernel
theorem dX2_kindAt_50 : decode cX2_kindAt 50 = .ok (.goto 4, 3) := by decide +kernel
theorem dX2_kindAt_53 : decode cX2_kindAt 53 = .ok (.iconst 3, 1) := by decide +kernel
theorem dX2_kindAt_54 : decode cX2_kindAt 54 = .ok (.ireturn, 1) := by decide +kernel
theorem dX2_isSemicolon_0 : decode cX2_isSemicolon 0 = .ok (.aload_n 0, 1) := by decide +kernel
theorem dX2_isSemicolon_1 : decode cX2_isSemicolon 1 = .ok (.getfield 31, 3) := by decide +kernel
theorem dX2_isSemicolon_4 : decode cX2_isSemicolon 4 = .ok (.iconst 3, 1) := by decide +kernel
theorem dX2_isSemicolon_5 : decode cX2_isSemicolon 5 = .ok (.if_icmp .ne 24, 3) := by decide +kernel
theorem dX2_isSemicolon_8 : decode cX2_isSemicolon 8 = .ok (.aload_n 0, 1) := by decide +kernel
theorem dX2_isSemicolon_9 : decode cX2_isSemicolon 9 = .ok (.getfield 9, 3) := by decide +kernel
theorem dX2_isSemicolon_12 : decode cX2_isSemicolon 12 = .ok (.getfield 103, 3) := by decide +kernel
theorem dX2_isSemicolon_15 : decode cX2_isSemicolon 15 = .ok (.aload_n 0, 1) := by decide +kernel
theorem dX2_isSemicolon_16 : decode cX2_isSemicolon 16 = .ok (.getfield 38, 3) := by decide +kernel
theorem dX2_isSemicolon_19 : decode cX2_isSemicolon 19 = .ok (.iaload, 1) := by decide +kernel
theorem dX2_isSemicolon_20 : decode cX2_isSemicolon 20 = .ok (.bipush 59, 2) := by decide +kernel
theorem dX2_isSemicolon_22 : decode cX2_isSemicolon 22 = .ok (.if_icmp .ne 7, 3) := by decide +kernel
theorem dX2_isSemicolon_25 : decode cX2_isSemicolon 25 = .ok (.iconst 1, 1) := by decide +kernel
theorem dX2_isSemicolon_26 : decode cX2_isSemicolon 26 = .ok (.goto 4, 3) := by decide +kernel
theorem dX2_isSemicolon_29 : decode cX2_isSemicolon 29 = .ok (.iconst 0, 1) := by decide +kernel
theorem dX2_isSemicolon_30 : decode cX2_isSemicolon 30 = .ok (.ireturn, 1) := by decide +kernel
theorem dX2_isWord_0 : decode cX2_isWord 0 = .ok (.aload_n 0, 1) := by decide +kernel
theorem dX2_isWord_1 : decode cX2_isWord 1 = .ok (.getfield 31, 3) := by decide +kernel
theorem dX2_isWord_4 : decode cX2_isWord 4 = .ok (.iconst 1, 1) := by decide +kernel
theorem dX2_isWord_5 : decode cX2_isWord 5 = .ok (.if_icmp .ne 19, 3) := by decide +kernel
theorem dX2_isWord_8 : decode cX2_isWord 8 = .ok (.aload_n 0, 1) := by decide +kernel
theorem dX2_isWord_9 : decode cX2_isWord 9 = .ok (.getfield 24, 3) := by decide +kernel
theorem dX2_isWord_12 : decode cX2_isWord 12 = .ok (.aload_n 0, 1) := by decide +kernel
theorem dX2_isWord_13 : decode cX2_isWord 13 = .ok (.getfield 38, 3) := by decide +kernel
theorem dX2_isWord_16 : decode cX2_isWord 16 = .ok (.isub, 1) := by decide +kernel
theorem dX2_isWord_17 : decode cX2_isWord 17 = .ok (.aload_n 1, 1) := by decide +kernel
theorem dX2_isWord_18 : decode cX2_isWord 18 = .ok (.invokevirtual 110, 3) := by decide +kernel
theorem dX2_isWord_21 : decode cX2_isWord 21 = .ok (.if_icmp .eq 5, 3) := by decide +kernel
theorem dX2_isWord_24 : decode cX2_isWord 24 = .ok (.iconst 0, 1) := by decide +kernel
theorem dX2_isWord_25 : decode cX2_isWord 25 = .ok (.ireturn, 1) := by decide +kernel
theorem dX2_isWord_26 : decode cX2_isWord 26 = .ok (.iconst 0, 1) := by decide +kernel
theorem dX2_isWord_27 : decode cX2_isWord 27 = .ok (.istore_n 2, 1) := by decide +kernel
theorem dX2_isWord_28 : decode cX2_isWord 28 = .ok (.iload_n 2, 1) := by decide +kernel
theorem dX2_isWord_29 : decode cX2_isWord 29 = .ok (.aload_n 1, 1) := by decide +kernel
theorem dX2_isWord_30 : decode cX2_isWord 30 = .ok (.invokevirtual 110, 3) := by decide +kernel
theorem dX2_isWord_33 : decode cX2_isWord 33 = .ok (.if_icmp .ge 33, 3) := by decide +kernel
theorem dX2_isWord_36 : decode cX2_isWord 36 = .ok (.aload_n 0, 1) := by decide +kernel
theorem dX2_isWord_37 : decode cX2_isWord 37 = .ok (.getfield 9, 3) := by decide +kernel
theorem dX2_isWord_40 : decode cX2_isWord 40 = .ok (.getfield 103, 3) := by decide +kernel
theorem dX2_isWord_43 : decode cX2_isWord 43 = .ok (.aload_n 0, 1) := by decide +kernel
theorem dX2_isWord_44 : decode cX2_isWord 44 = .ok (.getfield 38, 3) := by decide +kernel
theorem dX2_isWord_47 : decode cX2_isWord 47 = .ok (.iload_n 2, 1) := by decide +kernel
theorem dX2_isWord_48 : decode cX2_isWord 48 = .ok (.iadd, 1) := by decide +kernel
theorem dX2_isWord_49 : decode cX2_isWord 49 = .ok (.iaload, 1) := by decide +kernel
theorem dX2_isWord_50 : decode cX2_isWord 50 = .ok (.aload_n 1, 1) := by decide +kernel
theorem dX2_isWord_51 : decode cX2_isWord 51 = .ok (.iload_n 2, 1) := by decide +kernel
theorem dX2_isWord_52 : decode cX2_isWord 52 = .ok (.invokevirtual 114, 3) := by decide +kernel
theorem dX2_isWord_55 : decode cX2_isWord 55 = .ok (.if_icmp .eq 5, 3) := by decide +kernel
theorem dX2_isWord_58 : decode cX2_isWord 58 = .ok (.iconst 0, 1) := by decide +kernel
theorem dX2_isWord_59 : decode cX2_isWord 59 = .ok (.ireturn, 1) := by decide +kernel
theorem dX2_isWord_60 : decode cX2_isWord 60 = .ok (.iinc 2 1, 3) := by decide +kernel
theorem dX2_isWord_63 : decode cX2_isWord 63 = .ok (.goto (-35), 3) := by decide +kernel
theorem dX2_isWord_66 : decode cX2_isWord 66 = .ok (.iconst 1, 1) := by decide +kernel
theorem dX2_isWord_67 : decode cX2_isWord 67 = .ok (.ireturn, 1) := by decide +kernel
theorem dX2_number_0 : decode cX2_number 0 = .ok (.aload_n 0, 1) := by decide +kernel
theorem dX2_number_1 : decode cX2_number 1 = .ok (.getfield 31, 3) := by decide +kernel
theorem dX2_number_4 : decode cX2_number 4 = .ok (.iconst 2, 1) := by decide +kernel
theorem dX2_number_5 : decode cX2_number 5 = .ok (.if_icmp .eq 5, 3) := by decide +kernel
theorem dX2_number_8 : decode cX2_number 8 = .ok (.iconst (-1), 1) := by decide +kernel
theorem dX2_number_9 : decode cX2_number 9 = .ok (.ireturn, 1) := by decide +kernel
theorem dX2_number_10 : decode cX2_number 10 = .ok (.iconst 0, 1) := by decide +kernel
theorem dX2_number_11 : decode cX2_number 11 = .ok (.istore_n 1, 1) := by decide +kernel
theorem dX2_number_12 : decode cX2_number 12 = .ok (.aload_n 0, 1) := by decide +kernel
theorem dX2_number_13 : decode cX2_number 13 = .ok (.getfield 38, 3) := by decide +kernel
theorem dX2_number_16 : decode cX2_number 16 = .ok (.istore_n 2, 1) := by decide +kernel
theorem dX2_number_17 : decode cX2_number 17 = .ok (.iload_n 2, 1) := by decide +kernel
theorem dX2_number_18 : decode cX2_number 18 = .ok (.aload_n 0, 1) := by decide +kernel
theorem dX2_number_19 : decode cX2_number 19 = .ok (.getfield 24, 3) := by decide +kernel
theorem dX2_number_22 : decode cX2_number 22 = .ok (.if_icmp .ge 33, 3) := by decide +kernel
theorem dX2_number_25 : decode cX2_number 25 = .ok (.iload_n 1, 1) := by decide +kernel
theorem dX2_number_26 : decode cX2_number 26 = .ok (.bipush 10, 2) := by decide +kernel
theorem dX2_number_28 : decode cX2_number 28 = .ok (.imul, 1) := by decide +kernel
theorem dX2_number_29 : decode cX2_number 29 = .ok (.aload_n 0, 1) := by decide +kernel
theorem dX2_number_30 : decode cX2_number 30 = .ok (.getfield 9, 3) := by decide +kernel
theorem dX2_number_33 : decode cX2_number 33 = .ok (.getfield 103, 3) := by decide +kernel
theorem dX2_number_36 : decode cX2_number 36 = .ok (.iload_n 2, 1) := by decide +kernel
theorem dX2_number_37 : decode cX2_number 37 = .ok (.iaload, 1) := by decide +kernel
theorem dX2_number_38 : decode cX2_number 38 = .ok (.iadd, 1) := by decide +kernel
theorem dX2_number_39 : decode cX2_number 39 = .ok (.bipush 48, 2) := by decide +kernel
theorem dX2_number_41 : decode cX2_number 41 = .ok (.isub, 1) := by decide +kernel
theorem dX2_number_42 : decode cX2_number 42 = .ok (.sipush 10001, 3) := by decide +kernel
theorem dX2_number_45 : decode cX2_number 45 = .ok (.invokestatic 118, 3) := by decide +kernel
theorem dX2_number_48 : decode cX2_number 48 = .ok (.istore_n 1, 1) := by decide +kernel
theorem dX2_number_49 : decode cX2_number 49 = .ok (.iinc 2 1, 3) := by decide +kernel
theorem dX2_number_52 : decode cX2_number 52 = .ok (.goto (-35), 3) := by decide +kernel
theorem dX2_number_55 : decode cX2_number 55 = .ok (.iload_n 1, 1) := by decide +kernel
theorem dX2_number_56 : decode cX2_number 56 = .ok (.ireturn, 1) := by decide +kernel
theorem dX3_add_0 : decode cX3_add 0 = .ok (.aload_n 0, 1) := by decide +kernel
theorem dX3_add_1 : decode cX3_add 1 = .ok (.getfield 21, 3) := by decide +kernel
theorem dX3_add_4 : decode cX3_add 4 = .ok (.sipush 200, 3) := by decide +kernel
theorem dX3_add_7 : decode cX3_add 7 = .ok (.if_icmp .lt 4, 3) := by decide +kernel
theorem dX3_add_10 : decode cX3_add 10 = .ok (.return_, 1) := by decide +kernel
theorem dX3_add_11 : decode cX3_add 11 = .ok (.aload_n 0, 1) := by decide +kernel
theorem dX3_add_12 : decode cX3_add 12 = .ok (.getfield 9, 3) := by decide +kernel
theorem dX3_add_15 : decode cX3_add 15 = .ok (.aload_n 0, 1) := by decide +kernel
theorem dX3_add_16 : decode cX3_add 16 = .ok (.getfield 21, 3) := by decide +kernel
theorem dX3_add_19 : decode cX3_add 19 = .ok (.iload_n 1, 1) := by decide +kernel
theorem dX3_add_20 : decode cX3_add 20 = .ok (.iastore, 1) := by decide +kernel
theorem dX3_add_21 : decode cX3_add 21 = .ok (.aload_n 0, 1) := by decide +kernel
theorem dX3_add_22 : decode cX3_add 22 = .ok (.getfield 15, 3) := by decide +kernel
theorem dX3_add_25 : decode cX3_add 25 = .ok (.aload_n 0, 1) := by decide +kernel
theorem dX3_add_26 : decode cX3_add 26 = .ok (.getfield 21, 3) := by decide +kernel
theorem dX3_add_29 : decode cX3_add 29 = .ok (.iload_n 2, 1) := by decide +kernel
theorem dX3_add_30 : decode cX3_add 30 = .ok (.iastore, 1) := by decide +kernel
theorem dX3_add_31 : decode cX3_add 31 = .ok (.aload_n 0, 1) := by decide +kernel
theorem dX3_add_32 : decode cX3_add 32 = .ok (.getfield 18, 3) := by decide +kernel
theorem dX3_add_35 : decode cX3_add 35 = .ok (.aload_n 0, 1) := by decide +kernel
theorem dX3_add_36 : decode cX3_add 36 = .ok (.getfield 21, 3) := by decide +kernel
theorem dX3_add_39 : decode cX3_add 39 = .ok (.iload_n 3, 1) := by decide +kernel
theorem dX3_add_40 : decode cX3_add 40 = .ok (.iastore, 1) := by decide +kernel
theorem dX3_add_41 : decode cX3_add 41 = .ok (.aload_n 0, 1) := by decide +kernel
theorem dX3_add_42 : decode cX3_add 42 = .ok (.dup, 1) := by decide +kernel
theorem dX3_add_43 : decode cX3_add 43 = .ok (.getfield 21, 3) := by decide +kernel
theorem dX3_add_46 : decode cX3_add 46 = .ok (.iconst 1, 1) := by decide +kernel
theorem dX3_add_47 : decode cX3_add 47 = .ok (.iadd, 1) := by decide +kernel
theorem dX3_add_48 : decode cX3_add 48 = .ok (.putfield 21, 3) := by decide +kernel
theorem dX3_add_51 : decode cX3_add 51 = .ok (.return_, 1) := by decide +kernel
theorem dX4_add_0 : decode cX4_add 0 = .ok (.aload_n 0, 1) := by decide +kernel
theorem dX4_add_1 : decode cX4_add 1 = .ok (.getfield 21, 3) := by decide +kernel
theorem dX4_add_4 : decode cX4_add 4 = .ok (.bipush 40, 2) := by decide +kernel
theorem dX4_add_6 : decode cX4_add 6 = .ok (.if_icmp .lt 4, 3) := by decide +kernel
theorem dX4_add_9 : decode cX4_add 9 = .ok (.return_, 1) := by decide +kernel
theorem dX4_add_10 : decode cX4_add 10 = .ok (.aload_n 0, 1) := by decide +kernel
theorem dX4_add_11 : decode cX4_add 11 = .ok (.getfield 9, 3) := by decide +kernel
theorem dX4_add_14 : decode cX4_add 14 = .ok (.aload_n 0, 1) := by decide +kernel
theorem dX4_add_15 : decode cX4_add 15 = .ok (.getfield 21, 3) := by decide +kernel
theorem dX4_add_18 : decode cX4_add 18 = .ok (.iload_n 1, 1) := by decide +kernel
theorem dX4_add_19 : decode cX4_add 19 = .ok (.iastore, 1) := by decide +kernel
theorem dX4_add_20 : decode cX4_add 20 = .ok (.aload_n 0, 1) := by decide +kernel
theorem dX4_add_21 : decode cX4_add 21 = .ok (.getfield 15, 3) := by decide +kernel
theorem dX4_add_24 : decode cX4_add 24 = .ok (.aload_n 0, 1) := by decide +kernel
theorem dX4_add_25 : decode cX4_add 25 = .ok (.getfield 21, 3) := by decide +kernel
theorem dX4_add_28 : decode cX4_add 28 = .ok (.iload_n 2, 1) := by decide +kernel
theorem dX4_add_29 : decode cX4_add 29 = .ok (.iastore, 1) := by decide +kernel
theorem dX4_add_30 : decode cX4_add 30 = .ok (.aload_n 0, 1) := by decide +kernel
theorem dX4_add_31 : decode cX4_add 31 = .ok (.getfield 18, 3) := by decide +kernel
theorem dX4_add_34 : decode cX4_add 34 = .ok (.aload_n 0, 1) := by decide +kernel
theorem dX4_add_35 : decode cX4_add 35 = .ok (.getfield 21, 3) := by decide +kernel
theorem dX4_add_38 : decode cX4_add 38 = .ok (.iload_n 3, 1) := by decide +kernel
theorem dX4_add_39 : decode cX4_add 39 = .ok (.iastore, 1) := by decide +kernel
theorem dX4_add_40 : decode cX4_add 40 = .ok (.aload_n 0, 1) := by decide +kernel
theorem dX4_add_41 : decode cX4_add 41 = .ok (.dup, 1) := by decide +kernel
theorem dX4_add_42 : decode cX4_add 42 = .ok (.getfield 21, 3) := by decide +kernel
theorem dX4_add_45 : decode cX4_add 45 = .ok (.iconst 1, 1) := by decide +kernel
theorem dX4_add_46 : decode cX4_add 46 = .ok (.iadd, 1) := by decide +kernel
theorem dX4_add_47 : decode cX4_add 47 = .ok (.putfield 21, 3) := by decide +kernel
theorem dX4_add_50 : decode cX4_add 50 = .ok (.return_, 1) := by decide +kernel
theorem dX4_howManyIn_0 : decode cX4_howManyIn 0 = .ok (.iconst 0, 1) := by decide +kernel
theorem dX4_howManyIn_1 : decode cX4_howManyIn 1 = .ok (.istore_n 2, 1) := by decide +kernel
theorem dX4_howManyIn_2 : decode cX4_howManyIn 2 = .ok (.iconst 0, 1) := by decide +kernel
theorem dX4_howManyIn_3 : decode cX4_howManyIn 3 = .ok (.istore_n 3, 1) := by decide +kernel
theorem dX4_howManyIn_4 : decode cX4_howManyIn 4 = .ok (.iload_n 3, 1) := by decide +kernel
theorem dX4_howManyIn_5 : decode cX4_howManyIn 5 = .ok (.aload_n 0, 1) := by decide +kernel
theorem dX4_howManyIn_6 : decode cX4_howManyIn 6 = .ok (.getfield 21, 3) := by decide +kernel
theorem dX4_howManyIn_9 : decode cX4_howManyIn 9 = .ok (.if_icmp .ge 22, 3) := by decide +kernel
theorem dX4_howManyIn_12 : decode cX4_howManyIn 12 = .ok (.aload_n 0, 1) := by decide +kernel
theorem dX4_howManyIn_13 : decode cX4_howManyIn 13 = .ok (.getfield 9, 3) := by decide +kernel
theorem dX4_howManyIn_16 : decode cX4_howManyIn 16 = .ok (.iload_n 3, 1) := by decide +kernel
theorem dX4_howManyIn_17 : decode cX4_howManyIn 17 = .ok (.iaload, 1) := by decide +kernel
theorem dX4_howManyIn_18 : decode cX4_howManyIn 18 = .ok (.iload_n 1, 1) := by decide +kernel
theorem dX4_howManyIn_19 : decode cX4_howManyIn 19 = .ok (.if_icmp .ne 6, 3) := by decide +kernel
theorem dX4_howManyIn_22 : decode cX4_howManyIn 22 = .ok (.iinc 2 1, 3) := by decide +kernel
theorem dX4_howManyIn_25 : decode cX4_howManyIn 25 = .ok (.iinc 3 1, 3) := by decide +kernel
theorem dX4_howManyIn_28 : decode cX4_howManyIn 28 = .ok (.goto (-24), 3) := by decide +kernel
theorem dX4_howManyIn_31 : decode cX4_howManyIn 31 = .ok (.iload_n 2, 1) := by decide +kernel
theorem dX4_howManyIn_32 : decode cX4_howManyIn 32 = .ok (.ireturn, 1) := by decide +kernel
theorem dX5_add_0 : decode cX5_add 0 = .ok (.aload_n 0, 1) := by decide +kernel
theorem dX5_add_1 : decode cX5_add 1 = .ok (.getfield 21, 3) := by decide +kernel
theorem dX5_add_4 : decode cX5_add 4 = .ok (.bipush 60, 2) := by decide +kernel
theorem dX5_add_6 : decode cX5_add 6 = .ok (.if_icmp .lt 4, 3) := by decide +kernel
theorem dX5_add_9 : decode cX5_add 9 = .ok (.return_, 1) := by decide +kernel
theorem dX5_add_10 : decode cX5_add 10 = .ok (.aload_n 0, 1) := by decide +kernel
theorem dX5_add_11 : decode cX5_add 11 = .ok (.getfield 9, 3) := by decide +kernel
theorem dX5_add_14 : decode cX5_add 14 = .ok (.aload_n 0, 1) := by decide +kernel
theorem dX5_add_15 : decode cX5_add 15 = .ok (.getfield 21, 3) := by decide +kernel
theorem dX5_add_18 : decode cX5_add 18 = .ok (.iload_n 1, 1) := by decide +kernel
theorem dX5_add_19 : decode cX5_add 19 = .ok (.iastore, 1) := by decide +kernel
theorem dX5_add_20 : decode cX5_add 20 = .ok (.aload_n 0, 1) := by decide +kernel
theorem dX5_add_21 : decode cX5_add 21 = .ok (.getfield 15, 3) := by decide +kernel
theorem dX5_add_24 : decode cX5_add 24 = .ok (.aload_n 0, 1) := by decide +kernel
theorem dX5_add_25 : decode cX5_add 25 = .ok (.getfield 21, 3) := by decide +kernel
theorem dX5_add_28 : decode cX5_add 28 = .ok (.iload_n 2, 1) := by decide +kernel
theorem dX5_add_29 : decode cX5_add 29 = .ok (.iastore, 1) := by decide +kernel
theorem dX5_add_30 : decode cX5_add 30 = .ok (.aload_n 0, 1) := by decide +kernel
theorem dX5_add_31 : decode cX5_add 31 = .ok (.getfield 18, 3) := by decide +kernel
theorem dX5_add_34 : decode cX5_add 34 = .ok (.aload_n 0, 1) := by decide +kernel
theorem dX5_add_35 : decode cX5_add 35 = .ok (.getfield 21, 3) := by decide +kernel
theorem dX5_add_38 : decode cX5_add 38 = .ok (.iload_n 3, 1) := by decide +kernel
theorem dX5_add_39 : decode cX5_add 39 = .ok (.iastore, 1) := by decide +kernel
theorem dX5_add_40 : decode cX5_add 40 = .ok (.aload_n 0, 1) := by decide +kernel
theorem dX5_add_41 : decode cX5_add 41 = .ok (.dup, 1) := by decide +kernel
theorem dX5_add_42 : decode cX5_add 42 = .ok (.getfield 21, 3) := by decide +kernel
theorem dX5_add_45 : decode cX5_add 45 = .ok (.iconst 1, 1) := by decide +kernel
theorem dX5_add_46 : decode cX5_add 46 = .ok (.iadd, 1) := by decide +kernel
theorem dX5_add_47 : decode cX5_add 47 = .ok (.putfield 21, 3) := by decide +kernel
theorem dX5_add_50 : decode cX5_add 50 = .ok (.return_, 1) := by decide +kernel
theorem dX5_lostAt_0 : decode cX5_lostAt 0 = .ok (.aload_n 0, 1) := by decide +kernel
theorem dX5_lostAt_1 : decode cX5_lostAt 1 = .ok (.getfield 21, 3) := by decide +kernel
theorem dX5_lostAt_4 : decode cX5_lostAt 4 = .ok (.iconst 1, 1) := by decide +kernel
theorem dX5_lostAt_5 : decode cX5_lostAt 5 = .ok (.isub, 1) := by decide +kernel
theorem dX5_lostAt_6 : decode cX5_lostAt 6 = .ok (.istore_n 2, 1) := by decide +kernel
theorem dX5_lostAt_7 : decode cX5_lostAt 7 = .ok (.iload_n 2, 1) := by decide +kernel
theorem dX5_lostAt_8 : decode cX5_lostAt 8 = .ok (.ifCond .lt 36, 3) := by decide +kernel
theorem dX5_lostAt_11 : decode cX5_lostAt 11 = .ok (.aload_n 0, 1) := by decide +kernel
theorem dX5_lostAt_12 : decode cX5_lostAt 12 = .ok (.getfield 9, 3) := by decide +kernel
theorem dX5_lostAt_15 : decode cX5_lostAt 15 = .ok (.iload_n 2, 1) := by decide +kernel
theorem dX5_lostAt_16 : decode cX5_lostAt 16 = .ok (.iaload, 1) := by decide +kernel
theorem dX5_lostAt_17 : decode cX5_lostAt 17 = .ok (.iload_n 1, 1) := by decide +kernel
theorem dX5_lostAt_18 : decode cX5_lostAt 18 = .ok (.if_icmp .gt 20, 3) := by decide +kernel
theorem dX5_lostAt_21 : decode cX5_lostAt 21 = .ok (.iload_n 1, 1) := by decide +kernel
theorem dX5_lostAt_22 : decode cX5_lostAt 22 = .ok (.aload_n 0, 1) := by decide +kernel
theorem dX5_lostAt_23 : decode cX5_lostAt 23 = .ok (.getfield 15, 3) := by decide +kernel
theorem dX5_lostAt_26 : decode cX5_lostAt 26 = .ok (.iload_n 2, 1) := by decide +kernel
theorem dX5_lostAt_27 : decode cX5_lostAt 27 = .ok (.iaload, 1) := by decide +kernel
theorem dX5_lostAt_28 : decode cX5_lostAt 28 = .ok (.if_icmp .gt 10, 3) := by decide +kernel
theorem dX5_lostAt_31 : decode cX5_lostAt 31 = .ok (.aload_n 0, 1) := by decide +kernel
theorem dX5_lostAt_32 : decode cX5_lostAt 32 = .ok (.getfield 18, 3) := by decide +kernel
theorem dX5_lostAt_35 : decode cX5_lostAt 35 = .ok (.iload_n 2, 1) := by decide +kernel
theorem dX5_lostAt_36 : decode cX5_lostAt 36 = .ok (.iaload, 1) := by decide +kernel
theorem dX5_lostAt_37 : decode cX5_lostAt 37 = .ok (.ireturn, 1) := by decide +kernel
theorem dX5_lostAt_38 : decode cX5_lostAt 38 = .ok (.iinc 2 (-1), 3) := by decide +kernel
theorem dX5_lostAt_41 : decode cX5_lostAt 41 = .ok (.goto (-34), 3) := by decide +kernel
theorem dX5_lostAt_44 : decode cX5_lostAt 44 = .ok (.iconst 0, 1) := by decide +kernel
theorem dX5_lostAt_45 : decode cX5_lostAt 45 = .ok (.ireturn, 1) := by decide +kernel
theorem dX5_foretold_0 : decode cX5_foretold 0 = .ok (.iload_n 1, 1) := by decide +kernel
theorem dX5_foretold_1 : decode cX5_foretold 1 = .ok (.i2l, 1) := by decide +kernel
theorem dX5_foretold_2 : decode cX5_foretold 2 = .ok (.aload_n 0, 1) := by decide +kernel
theorem dX5_foretold_3 : decode cX5_foretold 3 = .ok (.getfield 25, 3) := by decide +kernel
theorem dX5_foretold_6 : decode cX5_foretold 6 = .ok (.i2l, 1) := by decide +kernel
theorem dX5_foretold_7 : decode cX5_foretold 7 = .ok (.lmul, 1) := by decide +kernel
theorem dX5_foretold_8 : decode cX5_foretold 8 = .ok (.bipush 100, 2) := by decide +kernel
theorem dX5_foretold_10 : decode cX5_foretold 10 = .ok (.aload_n 0, 1) := by decide +kernel
theorem dX5_foretold_11 : decode cX5_foretold 11 = .ok (.iload_n 2, 1) := by decide +kernel
theorem dX5_foretold_12 : decode cX5_foretold 12 = .ok (.invokevirtual 28, 3) := by decide +kernel
theorem dX5_foretold_15 : decode cX5_foretold 15 = .ok (.isub, 1) := by decide +kernel
theorem dX5_foretold_16 : decode cX5_foretold 16 = .ok (.i2l, 1) := by decide +kernel
theorem dX5_foretold_17 : decode cX5_foretold 17 = .ok (.lmul, 1) := by decide +kernel
theorem dX5_foretold_18 : decode cX5_foretold 18 = .ok (.ldc2_w 32, 3) := by decide +kernel
theorem dX5_foretold_21 : decode cX5_foretold 21 = .ok (.ldiv, 1) := by decide +kernel
theorem dX5_foretold_22 : decode cX5_foretold 22 = .ok (.lreturn, 1) := by decide +kernel
theorem dX6_add_0 : decode cX6_add 0 = .ok (.aload_n 0, 1) := by decide +kernel
theorem dX6_add_1 : decode cX6_add 1 = .ok (.getfield 24, 3) := by decide +kernel
theorem dX6_add_4 : decode cX6_add 4 = .ok (.bipush 16, 2) := by decide +kernel
theorem dX6_add_6 : decode cX6_add 6 = .ok (.if_icmp .lt 4, 3) := by decide +kernel
theorem dX6_add_9 : decode cX6_add 9 = .ok (.return_, 1) := by decide +kernel
theorem dX6_add_10 : decode cX6_add 10 = .ok (.aload_n 0, 1) := by decide +kernel
theorem dX6_add_11 : decode cX6_add 11 = .ok (.getfield 24, 3) := by decide +kernel
theorem dX6_add_14 : decode cX6_add 14 = .ok (.istore_n 3, 1) := by decide +kernel
theorem dX6_add_15 : decode cX6_add 15 = .ok (.iload_n 3, 1) := by decide +kernel
theorem dX6_add_16 : decode cX6_add 16 = .ok (.ifCond .le 49, 3) := by decide +kernel
theorem dX6_add_19 : decode cX6_add 19 = .ok (.aload_n 0, 1) := by decide +kernel
theorem dX6_add_20 : decode cX6_add 20 = .ok (.getfield 9, 3) := by decide +kernel
theorem dX6_add_23 : decode cX6_add 23 = .ok (.iload_n 3, 1) := by decide +kernel
theorem dX6_add_24 : decode cX6_add 24 = .ok (.iconst 1, 1) := by decide +kernel
theorem dX6_add_25 : decode cX6_add 25 = .ok (.isub, 1) := by decide +kernel
theorem dX6_add_26 : decode cX6_add 26 = .ok (.iaload, 1) := by decide +kernel
theorem dX6_add_27 : decode cX6_add 27 = .ok (.iload_n 1, 1) := by decide +kernel
theorem dX6_add_28 : decode cX6_add 28 = .ok (.if_icmp .le 37, 3) := by decide +kernel
theorem dX6_add_31 : decode cX6_add 31 = .ok (.aload_n 0, 1) := by decide +kernel
theorem dX6_add_32 : decode cX6_add 32 = .ok (.getfield 9, 3) := by decide +kernel
theorem dX6_add_35 : decode cX6_add 35 = .ok (.iload_n 3, 1) := by decide +kernel
theorem dX6_add_36 : decode cX6_add 36 = .ok (.aload_n 0, 1) := by decide +kernel
theorem dX6_add_37 : decode cX6_add 37 = .ok (.getfield 9, 3) := by decide +kernel
theorem dX6_add_40 : decode cX6_add 40 = .ok (.iload_n 3, 1) := by decide +kernel
theorem dX6_add_41 : decode cX6_add 41 = .ok (.iconst 1, 1) := by decide +kernel
theorem dX6_add_42 : decode cX6_add 42 = .ok (.isub, 1) := by decide +kernel
theorem dX6_add_43 : decode cX6_add 43 = .ok (.iaload, 1) := by decide +kernel
theorem dX6_add_44 : decode cX6_add 44 = .ok (.iastore, 1) := by decide +kernel
theorem dX6_add_45 : decode cX6_add 45 = .ok (.aload_n 0, 1) := by decide +kernel
theorem dX6_add_46 : decode cX6_add 46 = .ok (.getfield 15, 3) := by decide +kernel
theorem dX6_add_49 : decode cX6_add 49 = .ok (.iload_n 3, 1) := by decide +kernel
theorem dX6_add_50 : decode cX6_add 50 = .ok (.aload_n 0, 1) := by decide +kernel
theorem dX6_add_51 : decode cX6_add 51 = .ok (.getfield 15, 3) := by decide +kernel
theorem dX6_add_54 : decode cX6_add 54 = .ok (.iload_n 3, 1) := by decide +kernel
theorem dX6_add_55 : decode cX6_add 55 = .ok (.iconst 1, 1) := by decide +kernel
theorem dX6_add_56 : decode cX6_add 56 = .ok (.isub, 1) := by decide +kernel
theorem dX6_add_57 : decode cX6_add 57 = .ok (.iaload, 1) := by decide +kernel
theorem dX6_add_58 : decode cX6_add 58 = .ok (.iastore, 1) := by decide +kernel
theorem dX6_add_59 : decode cX6_add 59 = .ok (.iinc 3 (-1), 3) := by decide +kernel
theorem dX6_add_62 : decode cX6_add 62 = .ok (.goto (-47), 3) := by decide +kernel
theorem dX6_add_65 : decode cX6_add 65 = .ok (.aload_n 0, 1) := by decide +kernel
theorem dX6_add_66 : decode cX6_add 66 = .ok (.getfield 9, 3) := by decide +kernel
theorem dX6_add_69 : decode cX6_add 69 = .ok (.iload_n 3, 1) := by decide +kernel
theorem dX6_add_70 : decode cX6_add 70 = .ok (.iload_n 1, 1) := by decide +kernel
theorem dX6_add_71 : decode cX6_add 71 = .ok (.iastore, 1) := by decide +kernel
theorem dX6_add_72 : decode cX6_add 72 = .ok (.aload_n 0, 1) := by decide +kernel
theorem dX6_add_73 : decode cX6_add 73 = .ok (.getfield 15, 3) := by decide +kernel
theorem dX6_add_76 : decode cX6_add 76 = .ok (.iload_n 3, 1) := by decide +kernel
theorem dX6_add_77 : decode cX6_add 77 = .ok (.iload_n 2, 1) := by decide +kernel
theorem dX6_add_78 : decode cX6_add 78 = .ok (.iastore, 1) := by decide +kernel
theorem dX6_add_79 : decode cX6_add 79 = .ok (.aload_n 0, 1) := by decide +kernel
theorem dX6_add_80 : decode cX6_add 80 = .ok (.dup, 1) := by decide +kernel
theorem dX6_add_81 : decode cX6_add 81 = .ok (.getfield 24, 3) := by decide +kernel
theorem dX6_add_84 : decode cX6_add 84 = .ok (.iconst 1, 1) := by decide +kernel
theorem dX6_add_85 : decode cX6_add 85 = .ok (.iadd, 1) := by decide +kernel
theorem dX6_add_86 : decode cX6_add 86 = .ok (.putfield 24, 3) := by decide +kernel
theorem dX6_add_89 : decode cX6_add 89 = .ok (.return_, 1) := by decide +kernel
theorem dX6_walk_0 : decode cX6_walk 0 = .ok (.aload_n 0, 1) := by decide +kernel
theorem dX6_walk_1 : decode cX6_walk 1 = .ok (.iload_n 1, 1) := by decide +kernel
theorem dX6_walk_2 : decode cX6_walk 2 = .ok (.putfield 28, 3) := by decide +kernel
theorem dX6_walk_5 : decode cX6_walk 5 = .ok (.aload_n 0, 1) := by decide +kernel
theorem dX6_walk_6 : decode cX6_walk 6 = .ok (.iconst 0, 1) := by decide +kernel
theorem dX6_walk_7 : decode cX6_walk 7 = .ok (.putfield 31, 3) := by decide +kernel
theorem dX6_walk_10 : decode cX6_walk 10 = .ok (.aload_n 0, 1) := by decide +kernel
theorem dX6_walk_11 : decode cX6_walk 11 = .ok (.getfield 31, 3) := by decide +kernel
theorem dX6_walk_14 : decode cX6_walk 14 = .ok (.aload_n 0, 1) := by decide +kernel
theorem dX6_walk_15 : decode cX6_walk 15 = .ok (.getfield 24, 3) := by decide +kernel
theorem dX6_walk_18 : decode cX6_walk 18 = .ok (.if_icmp .ge 32, 3) := by decide +kernel
theorem dX6_walk_21 : decode cX6_walk 21 = .ok (.aload_n 0, 1) := by decide +kernel
theorem dX6_walk_22 : decode cX6_walk 22 = .ok (.getfield 9, 3) := by decide +kernel
theorem dX6_walk_25 : decode cX6_walk 25 = .ok (.aload_n 0, 1) := by decide +kernel
theorem dX6_walk_26 : decode cX6_walk 26 = .ok (.getfield 31, 3) := by decide +kernel
theorem dX6_walk_29 : decode cX6_walk 29 = .ok (.iaload, 1) := by decide +kernel
theorem dX6_walk_30 : decode cX6_walk 30 = .ok (.aload_n 0, 1) := by decide +kernel
theorem dX6_walk_31 : decode cX6_walk 31 = .ok (.getfield 28, 3) := by decide +kernel
theorem dX6_walk_34 : decode cX6_walk 34 = .ok (.if_icmp .ge 16, 3) := by decide +kernel
theorem dX6_walk_37 : decode cX6_walk 37 = .ok (.aload_n 0, 1) := by decide +kernel
theorem dX6_walk_38 : decode cX6_walk 38 = .ok (.dup, 1) := by decide +kernel
theorem dX6_walk_39 : decode cX6_walk 39 = .ok (.getfield 31, 3) := by decide +kernel
theorem dX6_walk_42 : decode cX6_walk 42 = .ok (.iconst 1, 1) := by decide +kernel
theorem dX6_walk_43 : decode cX6_walk 43 = .ok (.iadd, 1) := by decide +kernel
theorem dX6_walk_44 : decode cX6_walk 44 = .ok (.putfield 31, 3) := by decide +kernel
theorem dX6_walk_47 : decode cX6_walk 47 = .ok (.goto (-37), 3) := by decide +kernel
theorem dX6_walk_50 : decode cX6_walk 50 = .ok (.aload_n 0, 1) := by decide +kernel
theorem dX6_walk_51 : decode cX6_walk 51 = .ok (.aload_n 0, 1) := by decide +kernel
theorem dX6_walk_52 : decode cX6_walk 52 = .ok (.getfield 24, 3) := by decide +kernel
theorem dX6_walk_55 : decode cX6_walk 55 = .ok (.aload_n 0, 1) := by decide +kernel
theorem dX6_walk_56 : decode cX6_walk 56 = .ok (.getfield 31, 3) := by decide +kernel
theorem dX6_walk_59 : decode cX6_walk 59 = .ok (.isub, 1) := by decide +kernel
theorem dX6_walk_60 : decode cX6_walk 60 = .ok (.putfield 34, 3) := by decide +kernel
theorem dX6_walk_63 : decode cX6_walk 63 = .ok (.aload_n 0, 1) := by decide +kernel
theorem dX6_walk_64 : decode cX6_walk 64 = .ok (.getfield 18, 3) := by decide +kernel
theorem dX6_walk_67 : decode cX6_walk 67 = .ok (.ldc 37, 2) := by decide +kernel
theorem dX6_walk_69 : decode cX6_walk 69 = .ok (.invokestatic 38, 3) := by decide +kernel
theorem dX6_walk_72 : decode cX6_walk 72 = .ok (.aload_n 0, 1) := by decide +kernel
theorem dX6_walk_73 : decode cX6_walk 73 = .ok (.getfield 21, 3) := by decide +kernel
theorem dX6_walk_76 : decode cX6_walk 76 = .ok (.ldc 37, 2) := by decide +kernel
theorem dX6_walk_78 : decode cX6_walk 78 = .ok (.invokestatic 38, 3) := by decide +kernel
theorem dX6_walk_81 : decode cX6_walk 81 = .ok (.aload_n 0, 1) := by decide +kernel
theorem dX6_walk_82 : decode cX6_walk 82 = .ok (.getfield 18, 3) := by decide +kernel
theorem dX6_walk_85 : decode cX6_walk 85 = .ok (.aload_n 0, 1) := by decide +kernel
theorem dX6_walk_86 : decode cX6_walk 86 = .ok (.iconst 0, 1) := by decide +kernel
theorem dX6_walk_87 : decode cX6_walk 87 = .ok (.iconst 0, 1) := by decide +kernel
theorem dX6_walk_88 : decode cX6_walk 88 = .ok (.iconst 0, 1) := by decide +kernel
theorem dX6_walk_89 : decode cX6_walk 89 = .ok (.iconst 0, 1) := by decide +kernel
theorem dX6_walk_90 : decode cX6_walk 90 = .ok (.invokevirtual 44, 3) := by decide +kernel
theorem dX6_walk_93 : decode cX6_walk 93 = .ok (.iconst 0, 1) := by decide +kernel
theorem dX6_walk_94 : decode cX6_walk 94 = .ok (.iastore, 1) := by decide +kernel
theorem dX6_walk_95 : decode cX6_walk 95 = .ok (.iconst 0, 1) := by decide +kernel
theorem dX6_walk_96 : decode cX6_walk 96 = .ok (.istore_n 2, 1) := by decide +kernel
theorem dX6_walk_97 : decode cX6_walk 97 = .ok (.iload_n 2, 1) := by decide +kernel
theorem dX6_walk_98 : decode cX6_walk 98 = .ok (.aload_n 0, 1) := by decide +kernel
theorem dX6_walk_99 : decode cX6_walk 99 = .ok (.getfield 31, 3) := by decide +kernel
theorem dX6_walk_102 : decode cX6_walk 102 = .ok (.if_icmp .gt 39, 3) := by decide +kernel
theorem dX6_walk_105 : decode cX6_walk 105 = .ok (.iconst 0, 1) := by decide +kernel
theorem dX6_walk_106 : decode cX6_walk 106 = .ok (.istore_n 3, 1) := by decide +kernel
theorem dX6_walk_107 : decode cX6_walk 107 = .ok (.iload_n 3, 1) := by decide +kernel
theorem dX6_walk_108 : decode cX6_walk 108 = .ok (.aload_n 0, 1) := by decide +kernel
theorem dX6_walk_109 : decode cX6_walk 109 = .ok (.getfield 34, 3) := by decide +kernel
theorem dX6_walk_112 : decode cX6_walk 112 = .ok (.if_icmp .gt 23, 3) := by decide +kernel
theorem dX6_walk_115 : decode cX6_walk 115 = .ok (.aload_n 0, 1) := by decide +kernel
theorem dX6_walk_116 : decode cX6_walk 116 = .ok (.iload_n 2, 1) := by decide +kernel
theorem dX6_walk_117 : decode cX6_walk 117 = .ok (.iload_n 3, 1) := by decide +kernel
theorem dX6_walk_118 : decode cX6_walk 118 = .ok (.iconst 0, 1) := by decide +kernel
theorem dX6_walk_119 : decode cX6_walk 119 = .ok (.invokevirtual 48, 3) := by decide +kernel
theorem dX6_walk_122 : decode cX6_walk 122 = .ok (.aload_n 0, 1) := by decide +kernel
theorem dX6_walk_123 : decode cX6_walk 123 = .ok (.iload_n 2, 1) := by decide +kernel
theorem dX6_walk_124 : decode cX6_walk 124 = .ok (.iload_n 3, 1) := by decide +kernel
theorem dX6_walk_125 : decode cX6_walk 125 = .ok (.iconst 1, 1) := by decide +kernel
theorem dX6_walk_126 : decode cX6_walk 126 = .ok (.invokevirtual 48, 3) := by decide +kernel
theorem dX6_walk_129 : decode cX6_walk 129 = .ok (.iinc 3 1, 3) := by decide +kernel
theorem dX6_walk_132 : decode cX6_walk 132 = .ok (.goto (-25), 3) := by decide +kernel
theorem dX6_walk_135 : decode cX6_walk 135 = .ok (.iinc 2 1, 3) := by decide +kernel
theorem dX6_walk_138 : decode cX6_walk 138 = .ok (.goto (-41), 3) := by decide +kernel
theorem dX6_walk_141 : decode cX6_walk 141 = .ok (.return_, 1) := by decide +kernel
theorem dX6_goOnFrom_0 : decode cX6_goOnFrom 0 = .ok (.aload_n 0, 1) := by decide +kernel
theorem dX6_goOnFrom_1 : decode cX6_goOnFrom 1 = .ok (.iload_n 1, 1) := by decide +kernel
theorem dX6_goOnFrom_2 : decode cX6_goOnFrom 2 = .ok (.iload_n 2, 1) := by decide +kernel
theorem dX6_goOnFrom_3 : decode cX6_goOnFrom 3 = .ok (.iload_n 3, 1) := by decide +kernel
theorem dX6_goOnFrom_4 : decode cX6_goOnFrom 4 = .ok (.invokevirtual 52, 3) := by decide +kernel
theorem dX6_goOnFrom_7 : decode cX6_goOnFrom 7 = .ok (.istore 4, 2) := by decide +kernel
theorem dX6_goOnFrom_9 : decode cX6_goOnFrom 9 = .ok (.iconst 0, 1) := by decide +kernel
theorem dX6_goOnFrom_10 : decode cX6_goOnFrom 10 = .ok (.istore 5, 2) := by decide +kernel
theorem dX6_goOnFrom_12 : decode cX6_goOnFrom 12 = .ok (.iload 5, 2) := by decide +kernel
theorem dX6_goOnFrom_14 : decode cX6_goOnFrom 14 = .ok (.iload_n 1, 1) := by decide +kernel
theorem dX6_goOnFrom_15 : decode cX6_goOnFrom 15 = .ok (.iload_n 2, 1) := by decide +kernel
theorem dX6_goOnFrom_16 : decode cX6_goOnFrom 16 = .ok (.iadd, 1) := by decide +kernel
theorem dX6_goOnFrom_17 : decode cX6_goOnFrom 17 = .ok (.if_icmp .gt 166, 3) := by decide +kernel
theorem dX6_goOnFrom_20 : decode cX6_goOnFrom 20 = .ok (.aload_n 0, 1) := by decide +kernel
theorem dX6_goOnFrom_21 : decode cX6_goOnFrom 21 = .ok (.getfield 18, 3) := by decide +kernel
theorem dX6_goOnFrom_24 : decode cX6_goOnFrom 24 = .ok (.aload_n 0, 1) := by decide +kernel
end
section
theorem dX6_goOnFrom_25 : decode cX6_goOnFrom 25 = .ok (.iload_n 1, 1) := by decide +kernel
theorem dX6_goOnFrom_26 : decode cX6_goOnFrom 26 = .ok (.iload_n 2, 1) := by decide +kernel
theorem dX6_goOnFrom_27 : decode cX6_goOnFrom 27 = .ok (.iload_n 3, 1) := by decide +kernel
theorem dX6_goOnFrom_28 : decode cX6_goOnFrom 28 = .ok (.iload 5, 2) := by decide +kernel
theorem dX6_goOnFrom_30 : decode cX6_goOnFrom 30 = .ok (.invokevirtual 44, 3) := by decide +kernel
theorem dX6_goOnFrom_33 : decode cX6_goOnFrom 33 = .ok (.iaload, 1) := by decide +kernel
theorem dX6_goOnFrom_34 : decode cX6_goOnFrom 34 = .ok (.istore 6, 2) := by decide +kernel
theorem dX6_goOnFrom_36 : decode cX6_goOnFrom 36 = .ok (.iload 6, 2) := by decide +kernel
theorem dX6_goOnFrom_38 : decode cX6_goOnFrom 38 = .ok (.ldc 37, 2) := by decide +kernel
theorem dX6_goOnFrom_40 : decode cX6_goOnFrom 40 = .ok (.if_icmp .ne 6, 3) := by decide +kernel
theorem dX6_goOnFrom_43 : decode cX6_goOnFrom 43 = .ok (.goto 134, 3) := by decide +kernel
theorem dX6_goOnFrom_46 : decode cX6_goOnFrom 46 = .ok (.aload_n 0, 1) := by decide +kernel
theorem dX6_goOnFrom_47 : decode cX6_goOnFrom 47 = .ok (.getfield 21, 3) := by decide +kernel
theorem dX6_goOnFrom_50 : decode cX6_goOnFrom 50 = .ok (.iload 5, 2) := by decide +kernel
theorem dX6_goOnFrom_52 : decode cX6_goOnFrom 52 = .ok (.aload_n 0, 1) := by decide +kernel
theorem dX6_goOnFrom_53 : decode cX6_goOnFrom 53 = .ok (.getfield 21, 3) := by decide +kernel
theorem dX6_goOnFrom_56 : decode cX6_goOnFrom 56 = .ok (.iload 5, 2) := by decide +kernel
theorem dX6_goOnFrom_58 : decode cX6_goOnFrom 58 = .ok (.iaload, 1) := by decide +kernel
theorem dX6_goOnFrom_59 : decode cX6_goOnFrom 59 = .ok (.iload 6, 2) := by decide +kernel
theorem dX6_goOnFrom_61 : decode cX6_goOnFrom 61 = .ok (.invokestatic 56, 3) := by decide +kernel
theorem dX6_goOnFrom_64 : decode cX6_goOnFrom 64 = .ok (.iastore, 1) := by decide +kernel
theorem dX6_goOnFrom_65 : decode cX6_goOnFrom 65 = .ok (.iload_n 1, 1) := by decide +kernel
theorem dX6_goOnFrom_66 : decode cX6_goOnFrom 66 = .ok (.aload_n 0, 1) := by decide +kernel
theorem dX6_goOnFrom_67 : decode cX6_goOnFrom 67 = .ok (.getfield 31, 3) := by decide +kernel
theorem dX6_goOnFrom_70 : decode cX6_goOnFrom 70 = .ok (.if_icmp .ge 52, 3) := by decide +kernel
theorem dX6_goOnFrom_73 : decode cX6_goOnFrom 73 = .ok (.aload_n 0, 1) := by decide +kernel
theorem dX6_goOnFrom_74 : decode cX6_goOnFrom 74 = .ok (.getfield 31, 3) := by decide +kernel
theorem dX6_goOnFrom_77 : decode cX6_goOnFrom 77 = .ok (.iload_n 1, 1) := by decide +kernel
theorem dX6_goOnFrom_78 : decode cX6_goOnFrom 78 = .ok (.isub, 1) := by decide +kernel
theorem dX6_goOnFrom_79 : decode cX6_goOnFrom 79 = .ok (.iconst 1, 1) := by decide +kernel
theorem dX6_goOnFrom_80 : decode cX6_goOnFrom 80 = .ok (.isub, 1) := by decide +kernel
theorem dX6_goOnFrom_81 : decode cX6_goOnFrom 81 = .ok (.istore 7, 2) := by decide +kernel
theorem dX6_goOnFrom_83 : decode cX6_goOnFrom 83 = .ok (.iload 6, 2) := by decide +kernel
theorem dX6_goOnFrom_85 : decode cX6_goOnFrom 85 = .ok (.iload 4, 2) := by decide +kernel
theorem dX6_goOnFrom_87 : decode cX6_goOnFrom 87 = .ok (.iadd, 1) := by decide +kernel
theorem dX6_goOnFrom_88 : decode cX6_goOnFrom 88 = .ok (.aload_n 0, 1) := by decide +kernel
theorem dX6_goOnFrom_89 : decode cX6_goOnFrom 89 = .ok (.getfield 9, 3) := by decide +kernel
theorem dX6_goOnFrom_92 : decode cX6_goOnFrom 92 = .ok (.iload 7, 2) := by decide +kernel
theorem dX6_goOnFrom_94 : decode cX6_goOnFrom 94 = .ok (.iaload, 1) := by decide +kernel
theorem dX6_goOnFrom_95 : decode cX6_goOnFrom 95 = .ok (.isub, 1) := by decide +kernel
theorem dX6_goOnFrom_96 : decode cX6_goOnFrom 96 = .ok (.istore 8, 2) := by decide +kernel
theorem dX6_goOnFrom_98 : decode cX6_goOnFrom 98 = .ok (.aload_n 0, 1) := by decide +kernel
theorem dX6_goOnFrom_99 : decode cX6_goOnFrom 99 = .ok (.aload_n 0, 1) := by decide +kernel
theorem dX6_goOnFrom_100 : decode cX6_goOnFrom 100 = .ok (.iload_n 1, 1) := by decide +kernel
theorem dX6_goOnFrom_101 : decode cX6_goOnFrom 101 = .ok (.iconst 1, 1) := by decide +kernel
theorem dX6_goOnFrom_102 : decode cX6_goOnFrom 102 = .ok (.iadd, 1) := by decide +kernel
theorem dX6_goOnFrom_103 : decode cX6_goOnFrom 103 = .ok (.iload_n 2, 1) := by decide +kernel
theorem dX6_goOnFrom_104 : decode cX6_goOnFrom 104 = .ok (.iconst 0, 1) := by decide +kernel
theorem dX6_goOnFrom_105 : decode cX6_goOnFrom 105 = .ok (.iload 5, 2) := by decide +kernel
theorem dX6_goOnFrom_107 : decode cX6_goOnFrom 107 = .ok (.invokevirtual 44, 3) := by decide +kernel
theorem dX6_goOnFrom_110 : decode cX6_goOnFrom 110 = .ok (.iload 8, 2) := by decide +kernel
theorem dX6_goOnFrom_112 : decode cX6_goOnFrom 112 = .ok (.aload_n 0, 1) := by decide +kernel
theorem dX6_goOnFrom_113 : decode cX6_goOnFrom 113 = .ok (.getfield 15, 3) := by decide +kernel
theorem dX6_goOnFrom_116 : decode cX6_goOnFrom 116 = .ok (.iload 7, 2) := by decide +kernel
theorem dX6_goOnFrom_118 : decode cX6_goOnFrom 118 = .ok (.iaload, 1) := by decide +kernel
theorem dX6_goOnFrom_119 : decode cX6_goOnFrom 119 = .ok (.invokevirtual 62, 3) := by decide +kernel
theorem dX6_goOnFrom_122 : decode cX6_goOnFrom 122 = .ok (.iload_n 2, 1) := by decide +kernel
theorem dX6_goOnFrom_123 : decode cX6_goOnFrom 123 = .ok (.aload_n 0, 1) := by decide +kernel
theorem dX6_goOnFrom_124 : decode cX6_goOnFrom 124 = .ok (.getfield 34, 3) := by decide +kernel
theorem dX6_goOnFrom_127 : decode cX6_goOnFrom 127 = .ok (.if_icmp .ge 50, 3) := by decide +kernel
theorem dX6_goOnFrom_130 : decode cX6_goOnFrom 130 = .ok (.aload_n 0, 1) := by decide +kernel
theorem dX6_goOnFrom_131 : decode cX6_goOnFrom 131 = .ok (.getfield 31, 3) := by decide +kernel
theorem dX6_goOnFrom_134 : decode cX6_goOnFrom 134 = .ok (.iload_n 2, 1) := by decide +kernel
theorem dX6_goOnFrom_135 : decode cX6_goOnFrom 135 = .ok (.iadd, 1) := by decide +kernel
theorem dX6_goOnFrom_136 : decode cX6_goOnFrom 136 = .ok (.istore 7, 2) := by decide +kernel
theorem dX6_goOnFrom_138 : decode cX6_goOnFrom 138 = .ok (.iload 6, 2) := by decide +kernel
theorem dX6_goOnFrom_140 : decode cX6_goOnFrom 140 = .ok (.aload_n 0, 1) := by decide +kernel
theorem dX6_goOnFrom_141 : decode cX6_goOnFrom 141 = .ok (.getfield 9, 3) := by decide +kernel
theorem dX6_goOnFrom_144 : decode cX6_goOnFrom 144 = .ok (.iload 7, 2) := by decide +kernel
theorem dX6_goOnFrom_146 : decode cX6_goOnFrom 146 = .ok (.iaload, 1) := by decide +kernel
theorem dX6_goOnFrom_147 : decode cX6_goOnFrom 147 = .ok (.iadd, 1) := by decide +kernel
theorem dX6_goOnFrom_148 : decode cX6_goOnFrom 148 = .ok (.iload 4, 2) := by decide +kernel
theorem dX6_goOnFrom_150 : decode cX6_goOnFrom 150 = .ok (.isub, 1) := by decide +kernel
theorem dX6_goOnFrom_151 : decode cX6_goOnFrom 151 = .ok (.istore 8, 2) := by decide +kernel
theorem dX6_goOnFrom_153 : decode cX6_goOnFrom 153 = .ok (.aload_n 0, 1) := by decide +kernel
theorem dX6_goOnFrom_154 : decode cX6_goOnFrom 154 = .ok (.aload_n 0, 1) := by decide +kernel
theorem dX6_goOnFrom_155 : decode cX6_goOnFrom 155 = .ok (.iload_n 1, 1) := by decide +kernel
theorem dX6_goOnFrom_156 : decode cX6_goOnFrom 156 = .ok (.iload_n 2, 1) := by decide +kernel
theorem dX6_goOnFrom_157 : decode cX6_goOnFrom 157 = .ok (.iconst 1, 1) := by decide +kernel
theorem dX6_goOnFrom_158 : decode cX6_goOnFrom 158 = .ok (.iadd, 1) := by decide +kernel
theorem dX6_goOnFrom_159 : decode cX6_goOnFrom 159 = .ok (.iconst 1, 1) := by decide +kernel
theorem dX6_goOnFrom_160 : decode cX6_goOnFrom 160 = .ok (.iload 5, 2) := by decide +kernel
theorem dX6_goOnFrom_162 : decode cX6_goOnFrom 162 = .ok (.invokevirtual 44, 3) := by decide +kernel
theorem dX6_goOnFrom_165 : decode cX6_goOnFrom 165 = .ok (.iload 8, 2) := by decide +kernel
theorem dX6_goOnFrom_167 : decode cX6_goOnFrom 167 = .ok (.aload_n 0, 1) := by decide +kernel
theorem dX6_goOnFrom_168 : decode cX6_goOnFrom 168 = .ok (.getfield 15, 3) := by decide +kernel
theorem dX6_goOnFrom_171 : decode cX6_goOnFrom 171 = .ok (.iload 7, 2) := by decide +kernel
theorem dX6_goOnFrom_173 : decode cX6_goOnFrom 173 = .ok (.iaload, 1) := by decide +kernel
theorem dX6_goOnFrom_174 : decode cX6_goOnFrom 174 = .ok (.invokevirtual 62, 3) := by decide +kernel
theorem dX6_goOnFrom_177 : decode cX6_goOnFrom 177 = .ok (.iinc 5 1, 3) := by decide +kernel
theorem dX6_goOnFrom_180 : decode cX6_goOnFrom 180 = .ok (.goto (-168), 3) := by decide +kernel
theorem dX6_goOnFrom_183 : decode cX6_goOnFrom 183 = .ok (.return_, 1) := by decide +kernel
theorem dX6_arrive_0 : decode cX6_arrive 0 = .ok (.iload_n 2, 1) := by decide +kernel
theorem dX6_arrive_1 : decode cX6_arrive 1 = .ok (.iload_n 3, 1) := by decide +kernel
theorem dX6_arrive_2 : decode cX6_arrive 2 = .ok (.if_icmp .gt 9, 3) := by decide +kernel
theorem dX6_arrive_5 : decode cX6_arrive 5 = .ok (.iload_n 1, 1) := by decide +kernel
theorem dX6_arrive_6 : decode cX6_arrive 6 = .ok (.iconst 1, 1) := by decide +kernel
theorem dX6_arrive_7 : decode cX6_arrive 7 = .ok (.iadd, 1) := by decide +kernel
theorem dX6_arrive_8 : decode cX6_arrive 8 = .ok (.goto 4, 3) := by decide +kernel
theorem dX6_arrive_11 : decode cX6_arrive 11 = .ok (.iload_n 1, 1) := by decide +kernel
theorem dX6_arrive_12 : decode cX6_arrive 12 = .ok (.istore 4, 2) := by decide +kernel
theorem dX6_arrive_14 : decode cX6_arrive 14 = .ok (.aload_n 0, 1) := by decide +kernel
theorem dX6_arrive_15 : decode cX6_arrive 15 = .ok (.getfield 18, 3) := by decide +kernel
theorem dX6_arrive_18 : decode cX6_arrive 18 = .ok (.iload 4, 2) := by decide +kernel
theorem dX6_arrive_20 : decode cX6_arrive 20 = .ok (.aload_n 0, 1) := by decide +kernel
theorem dX6_arrive_21 : decode cX6_arrive 21 = .ok (.getfield 18, 3) := by decide +kernel
theorem dX6_arrive_24 : decode cX6_arrive 24 = .ok (.iload 4, 2) := by decide +kernel
theorem dX6_arrive_26 : decode cX6_arrive 26 = .ok (.iaload, 1) := by decide +kernel
theorem dX6_arrive_27 : decode cX6_arrive 27 = .ok (.iload_n 2, 1) := by decide +kernel
theorem dX6_arrive_28 : decode cX6_arrive 28 = .ok (.invokestatic 56, 3) := by decide +kernel
theorem dX6_arrive_31 : decode cX6_arrive 31 = .ok (.iastore, 1) := by decide +kernel
theorem dX6_arrive_32 : decode cX6_arrive 32 = .ok (.return_, 1) := by decide +kernel
theorem dX6_placeAtEnd_0 : decode cX6_placeAtEnd 0 = .ok (.iload_n 3, 1) := by decide +kernel
theorem dX6_placeAtEnd_1 : decode cX6_placeAtEnd 1 = .ok (.ifCond .ne 26, 3) := by decide +kernel
theorem dX6_placeAtEnd_4 : decode cX6_placeAtEnd 4 = .ok (.iload_n 1, 1) := by decide +kernel
theorem dX6_placeAtEnd_5 : decode cX6_placeAtEnd 5 = .ok (.ifCond .ne 10, 3) := by decide +kernel
theorem dX6_placeAtEnd_8 : decode cX6_placeAtEnd 8 = .ok (.aload_n 0, 1) := by decide +kernel
theorem dX6_placeAtEnd_9 : decode cX6_placeAtEnd 9 = .ok (.getfield 28, 3) := by decide +kernel
theorem dX6_placeAtEnd_12 : decode cX6_placeAtEnd 12 = .ok (.goto 14, 3) := by decide +kernel
theorem dX6_placeAtEnd_15 : decode cX6_placeAtEnd 15 = .ok (.aload_n 0, 1) := by decide +kernel
theorem dX6_placeAtEnd_16 : decode cX6_placeAtEnd 16 = .ok (.getfield 9, 3) := by decide +kernel
theorem dX6_placeAtEnd_19 : decode cX6_placeAtEnd 19 = .ok (.aload_n 0, 1) := by decide +kernel
theorem dX6_placeAtEnd_20 : decode cX6_placeAtEnd 20 = .ok (.getfield 31, 3) := by decide +kernel
theorem dX6_placeAtEnd_23 : decode cX6_placeAtEnd 23 = .ok (.iload_n 1, 1) := by decide +kernel
theorem dX6_placeAtEnd_24 : decode cX6_placeAtEnd 24 = .ok (.isub, 1) := by decide +kernel
theorem dX6_placeAtEnd_25 : decode cX6_placeAtEnd 25 = .ok (.iaload, 1) := by decide +kernel
theorem dX6_placeAtEnd_26 : decode cX6_placeAtEnd 26 = .ok (.ireturn, 1) := by decide +kernel
theorem dX6_placeAtEnd_27 : decode cX6_placeAtEnd 27 = .ok (.iload_n 2, 1) := by decide +kernel
theorem dX6_placeAtEnd_28 : decode cX6_placeAtEnd 28 = .ok (.ifCond .ne 10, 3) := by decide +kernel
theorem dX6_placeAtEnd_31 : decode cX6_placeAtEnd 31 = .ok (.aload_n 0, 1) := by decide +kernel
theorem dX6_placeAtEnd_32 : decode cX6_placeAtEnd 32 = .ok (.getfield 28, 3) := by decide +kernel
theorem dX6_placeAtEnd_35 : decode cX6_placeAtEnd 35 = .ok (.goto 16, 3) := by decide +kernel
theorem dX6_placeAtEnd_38 : decode cX6_placeAtEnd 38 = .ok (.aload_n 0, 1) := by decide +kernel
theorem dX6_placeAtEnd_39 : decode cX6_placeAtEnd 39 = .ok (.getfield 9, 3) := by decide +kernel
theorem dX6_placeAtEnd_42 : decode cX6_placeAtEnd 42 = .ok (.aload_n 0, 1) := by decide +kernel
theorem dX6_placeAtEnd_43 : decode cX6_placeAtEnd 43 = .ok (.getfield 31, 3) := by decide +kernel
theorem dX6_placeAtEnd_46 : decode cX6_placeAtEnd 46 = .ok (.iload_n 2, 1) := by decide +kernel
theorem dX6_placeAtEnd_47 : decode cX6_placeAtEnd 47 = .ok (.iadd, 1) := by decide +kernel
theorem dX6_placeAtEnd_48 : decode cX6_placeAtEnd 48 = .ok (.iconst 1, 1) := by decide +kernel
theorem dX6_placeAtEnd_49 : decode cX6_placeAtEnd 49 = .ok (.isub, 1) := by decide +kernel
theorem dX6_placeAtEnd_50 : decode cX6_placeAtEnd 50 = .ok (.iaload, 1) := by decide +kernel
theorem dX6_placeAtEnd_51 : decode cX6_placeAtEnd 51 = .ok (.ireturn, 1) := by decide +kernel
theorem dX6_cellOf_0 : decode cX6_cellOf 0 = .ok (.iload_n 1, 1) := by decide +kernel
theorem dX6_cellOf_1 : decode cX6_cellOf 1 = .ok (.aload_n 0, 1) := by decide +kernel
theorem dX6_cellOf_2 : decode cX6_cellOf 2 = .ok (.getfield 34, 3) := by decide +kernel
theorem dX6_cellOf_5 : decode cX6_cellOf 5 = .ok (.iconst 1, 1) := by decide +kernel
theorem dX6_cellOf_6 : decode cX6_cellOf 6 = .ok (.iadd, 1) := by decide +kernel
theorem dX6_cellOf_7 : decode cX6_cellOf 7 = .ok (.imul, 1) := by decide +kernel
theorem dX6_cellOf_8 : decode cX6_cellOf 8 = .ok (.iload_n 2, 1) := by decide +kernel
theorem dX6_cellOf_9 : decode cX6_cellOf 9 = .ok (.iadd, 1) := by decide +kernel
theorem dX6_cellOf_10 : decode cX6_cellOf 10 = .ok (.iconst 2, 1) := by decide +kernel
theorem dX6_cellOf_11 : decode cX6_cellOf 11 = .ok (.imul, 1) := by decide +kernel
theorem dX6_cellOf_12 : decode cX6_cellOf 12 = .ok (.iload_n 3, 1) := by decide +kernel
theorem dX6_cellOf_13 : decode cX6_cellOf 13 = .ok (.iadd, 1) := by decide +kernel
theorem dX6_cellOf_14 : decode cX6_cellOf 14 = .ok (.bipush 17, 2) := by decide +kernel
theorem dX6_cellOf_16 : decode cX6_cellOf 16 = .ok (.imul, 1) := by decide +kernel
theorem dX6_cellOf_17 : decode cX6_cellOf 17 = .ok (.iload 4, 2) := by decide +kernel
theorem dX6_cellOf_19 : decode cX6_cellOf 19 = .ok (.iadd, 1) := by decide +kernel
theorem dX6_cellOf_20 : decode cX6_cellOf 20 = .ok (.ireturn, 1) := by decide +kernel
theorem dX6_mostMet_0 : decode cX6_mostMet 0 = .ok (.iconst 0, 1) := by decide +kernel
theorem dX6_mostMet_1 : decode cX6_mostMet 1 = .ok (.istore_n 1, 1) := by decide +kernel
theorem dX6_mostMet_2 : decode cX6_mostMet 2 = .ok (.iconst 1, 1) := by decide +kernel
theorem dX6_mostMet_3 : decode cX6_mostMet 3 = .ok (.istore_n 2, 1) := by decide +kernel
theorem dX6_mostMet_4 : decode cX6_mostMet 4 = .ok (.iload_n 2, 1) := by decide +kernel
theorem dX6_mostMet_5 : decode cX6_mostMet 5 = .ok (.aload_n 0, 1) := by decide +kernel
theorem dX6_mostMet_6 : decode cX6_mostMet 6 = .ok (.getfield 24, 3) := by decide +kernel
theorem dX6_mostMet_9 : decode cX6_mostMet 9 = .ok (.if_icmp .gt 22, 3) := by decide +kernel
theorem dX6_mostMet_12 : decode cX6_mostMet 12 = .ok (.aload_n 0, 1) := by decide +kernel
theorem dX6_mostMet_13 : decode cX6_mostMet 13 = .ok (.getfield 21, 3) := by decide +kernel
theorem dX6_mostMet_16 : decode cX6_mostMet 16 = .ok (.iload_n 2, 1) := by decide +kernel
theorem dX6_mostMet_17 : decode cX6_mostMet 17 = .ok (.iaload, 1) := by decide +kernel
theorem dX6_mostMet_18 : decode cX6_mostMet 18 = .ok (.ldc 37, 2) := by decide +kernel
theorem dX6_mostMet_20 : decode cX6_mostMet 20 = .ok (.if_icmp .eq 5, 3) := by decide +kernel
theorem dX6_mostMet_23 : decode cX6_mostMet 23 = .ok (.iload_n 2, 1) := by decide +kernel
theorem dX6_mostMet_24 : decode cX6_mostMet 24 = .ok (.istore_n 1, 1) := by decide +kernel
theorem dX6_mostMet_25 : decode cX6_mostMet 25 = .ok (.iinc 2 1, 3) := by decide +kernel
theorem dX6_mostMet_28 : decode cX6_mostMet 28 = .ok (.goto (-24), 3) := by decide +kernel
theorem dX6_mostMet_31 : decode cX6_mostMet 31 = .ok (.iload_n 1, 1) := by decide +kernel
theorem dX6_mostMet_32 : decode cX6_mostMet 32 = .ok (.ireturn, 1) := by decide +kernel
theorem dX6_firstHourWith_0 : decode cX6_firstHourWith 0 = .ok (.ldc 37, 2) := by decide +kernel
theorem dX6_firstHourWith_2 : decode cX6_firstHourWith 2 = .ok (.istore_n 2, 1) := by decide +kernel
theorem dX6_firstHourWith_3 : decode cX6_firstHourWith 3 = .ok (.iload_n 1, 1) := by decide +kernel
theorem dX6_firstHourWith_4 : decode cX6_firstHourWith 4 = .ok (.istore_n 3, 1) := by decide +kernel
theorem dX6_firstHourWith_5 : decode cX6_firstHourWith 5 = .ok (.iload_n 3, 1) := by decide +kernel
theorem dX6_firstHourWith_6 : decode cX6_firstHourWith 6 = .ok (.aload_n 0, 1) := by decide +kernel
theorem dX6_firstHourWith_7 : decode cX6_firstHourWith 7 = .ok (.getfield 24, 3) := by decide +kernel
theorem dX6_firstHourWith_10 : decode cX6_firstHourWith 10 = .ok (.if_icmp .gt 20, 3) := by decide +kernel
theorem dX6_firstHourWith_13 : decode cX6_firstHourWith 13 = .ok (.iload_n 2, 1) := by decide +kernel
theorem dX6_firstHourWith_14 : decode cX6_firstHourWith 14 = .ok (.aload_n 0, 1) := by decide +kernel
theorem dX6_firstHourWith_15 : decode cX6_firstHourWith 15 = .ok (.getfield 21, 3) := by decide +kernel
theorem dX6_firstHourWith_18 : decode cX6_firstHourWith 18 = .ok (.iload_n 3, 1) := by decide +kernel
theorem dX6_firstHourWith_19 : decode cX6_firstHourWith 19 = .ok (.iaload, 1) := by decide +kernel
theorem dX6_firstHourWith_20 : decode cX6_firstHourWith 20 = .ok (.invokestatic 56, 3) := by decide +kernel
theorem dX6_firstHourWith_23 : decode cX6_firstHourWith 23 = .ok (.istore_n 2, 1) := by decide +kernel
theorem dX6_firstHourWith_24 : decode cX6_firstHourWith 24 = .ok (.iinc 3 1, 3) := by decide +kernel
theorem dX6_firstHourWith_27 : decode cX6_firstHourWith 27 = .ok (.goto (-22), 3) := by decide +kernel
theorem dX6_firstHourWith_30 : decode cX6_firstHourWith 30 = .ok (.iload_n 2, 1) := by decide +kernel
theorem dX6_firstHourWith_31 : decode cX6_firstHourWith 31 = .ok (.ireturn, 1) := by decide +kernel
theorem dX7_append_0 : decode cX7_append 0 = .ok (.bipush 24, 2) := by decide +kernel
theorem dX7_append_2 : decode cX7_append 2 = .ok (.istore_n 2, 1) := by decide +kernel
theorem dX7_append_3 : decode cX7_append 3 = .ok (.iload_n 2, 1) := by decide +kernel
theorem dX7_append_4 : decode cX7_append 4 = .ok (.ifCond .lt 45, 3) := by decide +kernel
theorem dX7_append_7 : decode cX7_append 7 = .ok (.aload_n 0, 1) := by decide +kernel
theorem dX7_append_8 : decode cX7_append 8 = .ok (.getfield 15, 3) := by decide +kernel
theorem dX7_append_11 : decode cX7_append 11 = .ok (.sipush 200, 3) := by decide +kernel
theorem dX7_append_14 : decode cX7_append 14 = .ok (.if_icmp .ge 35, 3) := by decide +kernel
theorem dX7_append_17 : decode cX7_append 17 = .ok (.aload_n 0, 1) := by decide +kernel
theorem dX7_append_18 : decode cX7_append 18 = .ok (.getfield 9, 3) := by decide +kernel
theorem dX7_append_21 : decode cX7_append 21 = .ok (.aload_n 0, 1) := by decide +kernel
theorem dX7_append_22 : decode cX7_append 22 = .ok (.getfield 15, 3) := by decide +kernel
theorem dX7_append_25 : decode cX7_append 25 = .ok (.iload_n 1, 1) := by decide +kernel
theorem dX7_append_26 : decode cX7_append 26 = .ok (.iload_n 2, 1) := by decide +kernel
theorem dX7_append_27 : decode cX7_append 27 = .ok (.iushr, 1) := by decide +kernel
theorem dX7_append_28 : decode cX7_append 28 = .ok (.sipush 255, 3) := by decide +kernel
theorem dX7_append_31 : decode cX7_append 31 = .ok (.iand, 1) := by decide +kernel
theorem dX7_append_32 : decode cX7_append 32 = .ok (.iastore, 1) := by decide +kernel
theorem dX7_append_33 : decode cX7_append 33 = .ok (.aload_n 0, 1) := by decide +kernel
theorem dX7_append_34 : decode cX7_append 34 = .ok (.dup, 1) := by decide +kernel
theorem dX7_append_35 : decode cX7_append 35 = .ok (.getfield 15, 3) := by decide +kernel
theorem dX7_append_38 : decode cX7_append 38 = .ok (.iconst 1, 1) := by decide +kernel
theorem dX7_append_39 : decode cX7_append 39 = .ok (.iadd, 1) := by decide +kernel
theorem dX7_append_40 : decode cX7_append 40 = .ok (.putfield 15, 3) := by decide +kernel
theorem dX7_append_43 : decode cX7_append 43 = .ok (.iinc 2 (-8), 3) := by decide +kernel
theorem dX7_append_46 : decode cX7_append 46 = .ok (.goto (-43), 3) := by decide +kernel
theorem dX7_append_49 : decode cX7_append 49 = .ok (.return_, 1) := by decide +kernel
theorem dX8_reset_0 : decode cX8_reset 0 = .ok (.aload_n 0, 1) := by decide +kernel
theorem dX8_reset_1 : decode cX8_reset 1 = .ok (.getfield 9, 3) := by decide +kernel
theorem dX8_reset_4 : decode cX8_reset 4 = .ok (.iconst 0, 1) := by decide +kernel
theorem dX8_reset_5 : decode cX8_reset 5 = .ok (.invokestatic 24, 3) := by decide +kernel
theorem dX8_reset_8 : decode cX8_reset 8 = .ok (.aload_n 0, 1) := by decide +kernel
theorem dX8_reset_9 : decode cX8_reset 9 = .ok (.iconst 0, 1) := by decide +kernel
theorem dX8_reset_10 : decode cX8_reset 10 = .ok (.iconst 1, 1) := by decide +kernel
theorem dX8_reset_11 : decode cX8_reset 11 = .ok (.iconst 1, 1) := by decide +kernel
theorem dX8_reset_12 : decode cX8_reset 12 = .ok (.invokevirtual 30, 3) := by decide +kernel
theorem dX8_reset_15 : decode cX8_reset 15 = .ok (.aload_n 0, 1) := by decide +kernel
theorem dX8_reset_16 : decode cX8_reset 16 = .ok (.iconst 1, 1) := by decide +kernel
theorem dX8_reset_17 : decode cX8_reset 17 = .ok (.iconst 1, 1) := by decide +kernel
theorem dX8_reset_18 : decode cX8_reset 18 = .ok (.iconst 1, 1) := by decide +kernel
theorem dX8_reset_19 : decode cX8_reset 19 = .ok (.invokevirtual 30, 3) := by decide +kernel
theorem dX8_reset_22 : decode cX8_reset 22 = .ok (.aload_n 0, 1) := by decide +kernel
theorem dX8_reset_23 : decode cX8_reset 23 = .ok (.iconst 2, 1) := by decide +kernel
theorem dX8_reset_24 : decode cX8_reset 24 = .ok (.iconst 0, 1) := by decide +kernel
theorem dX8_reset_25 : decode cX8_reset 25 = .ok (.iconst 1, 1) := by decide +kernel
theorem dX8_reset_26 : decode cX8_reset 26 = .ok (.invokevirtual 30, 3) := by decide +kernel
theorem dX8_reset_29 : decode cX8_reset 29 = .ok (.aload_n 0, 1) := by decide +kernel
theorem dX8_reset_30 : decode cX8_reset 30 = .ok (.iconst 3, 1) := by decide +kernel
theorem dX8_reset_31 : decode cX8_reset 31 = .ok (.iconst 0, 1) := by decide +kernel
theorem dX8_reset_32 : decode cX8_reset 32 = .ok (.iconst 1, 1) := by decide +kernel
theorem dX8_reset_33 : decode cX8_reset 33 = .ok (.invokevirtual 30, 3) := by decide +kernel
theorem dX8_reset_36 : decode cX8_reset 36 = .ok (.aload_n 0, 1) := by decide +kernel
theorem dX8_reset_37 : decode cX8_reset 37 = .ok (.iconst (-1), 1) := by decide +kernel
theorem dX8_reset_38 : decode cX8_reset 38 = .ok (.putfield 34, 3) := by decide +kernel
theorem dX8_reset_41 : decode cX8_reset 41 = .ok (.aload_n 0, 1) := by decide +kernel
theorem dX8_reset_42 : decode cX8_reset 42 = .ok (.iconst 0, 1) := by decide +kernel
theorem dX8_reset_43 : decode cX8_reset 43 = .ok (.putfield 38, 3) := by decide +kernel
theorem dX8_reset_46 : decode cX8_reset 46 = .ok (.return_, 1) := by decide +kernel
theorem dX8_setShare_0 : decode cX8_setShare 0 = .ok (.iload_n 1, 1) := by decide +kernel
theorem dX8_setShare_1 : decode cX8_setShare 1 = .ok (.ifCond .lt 8, 3) := by decide +kernel
theorem dX8_setShare_4 : decode cX8_setShare 4 = .ok (.iload_n 1, 1) := by decide +kernel
theorem dX8_setShare_5 : decode cX8_setShare 5 = .ok (.iconst 4, 1) := by decide +kernel
theorem dX8_setShare_6 : decode cX8_setShare 6 = .ok (.if_icmp .lt 4, 3) := by decide +kernel
theorem dX8_setShare_9 : decode cX8_setShare 9 = .ok (.return_, 1) := by decide +kernel
theorem dX8_setShare_10 : decode cX8_setShare 10 = .ok (.aload_n 0, 1) := by decide +kernel
theorem dX8_setShare_11 : decode cX8_setShare 11 = .ok (.getfield 15, 3) := by decide +kernel
theorem dX8_setShare_14 : decode cX8_setShare 14 = .ok (.iload_n 1, 1) := by decide +kernel
theorem dX8_setShare_15 : decode cX8_setShare 15 = .ok (.iload_n 2, 1) := by decide +kernel
theorem dX8_setShare_16 : decode cX8_setShare 16 = .ok (.iastore, 1) := by decide +kernel
theorem dX8_setShare_17 : decode cX8_setShare 17 = .ok (.aload_n 0, 1) := by decide +kernel
theorem dX8_setShare_18 : decode cX8_setShare 18 = .ok (.getfield 18, 3) := by decide +kernel
theorem dX8_setShare_21 : decode cX8_setShare 21 = .ok (.iload_n 1, 1) := by decide +kernel
theorem dX8_setShare_22 : decode cX8_setShare 22 = .ok (.iload_n 3, 1) := by decide +kernel
theorem dX8_setShare_23 : decode cX8_setShare 23 = .ok (.iastore, 1) := by decide +kernel
theorem dX8_setShare_24 : decode cX8_setShare 24 = .ok (.return_, 1) := by decide +kernel
theorem dX8_shareOf_0 : decode cX8_shareOf 0 = .ok (.iload_n 1, 1) := by decide +kernel
theorem dX8_shareOf_1 : decode cX8_shareOf 1 = .ok (.ifCond .lt 18, 3) := by decide +kernel
theorem dX8_shareOf_4 : decode cX8_shareOf 4 = .ok (.iload_n 1, 1) := by decide +kernel
theorem dX8_shareOf_5 : decode cX8_shareOf 5 = .ok (.iconst 4, 1) := by decide +kernel
theorem dX8_shareOf_6 : decode cX8_shareOf 6 = .ok (.if_icmp .ge 13, 3) := by decide +kernel
theorem dX8_shareOf_9 : decode cX8_shareOf 9 = .ok (.aload_n 0, 1) := by decide +kernel
theorem dX8_shareOf_10 : decode cX8_shareOf 10 = .ok (.getfield 18, 3) := by decide +kernel
theorem dX8_shareOf_13 : decode cX8_shareOf 13 = .ok (.iload_n 1, 1) := by decide +kernel
theorem dX8_shareOf_14 : decode cX8_shareOf 14 = .ok (.iaload, 1) := by decide +kernel
theorem dX8_shareOf_15 : decode cX8_shareOf 15 = .ok (.iconst 1, 1) := by decide +kernel
theorem dX8_shareOf_16 : decode cX8_shareOf 16 = .ok (.if_icmp .ge 5, 3) := by decide +kernel
theorem dX8_shareOf_19 : decode cX8_shareOf 19 = .ok (.lconst 0, 1) := by decide +kernel
theorem dX8_shareOf_20 : decode cX8_shareOf 20 = .ok (.lreturn, 1) := by decide +kernel
theorem dX8_shareOf_21 : decode cX8_shareOf 21 = .ok (.lload_n 2, 1) := by decide +kernel
theorem dX8_shareOf_22 : decode cX8_shareOf 22 = .ok (.aload_n 0, 1) := by decide +kernel
theorem dX8_shareOf_23 : decode cX8_shareOf 23 = .ok (.getfield 15, 3) := by decide +kernel
theorem dX8_shareOf_26 : decode cX8_shareOf 26 = .ok (.iload_n 1, 1) := by decide +kernel
theorem dX8_shareOf_27 : decode cX8_shareOf 27 = .ok (.iaload, 1) := by decide +kernel
theorem dX8_shareOf_28 : decode cX8_shareOf 28 = .ok (.i2l, 1) := by decide +kernel
theorem dX8_shareOf_29 : decode cX8_shareOf 29 = .ok (.lmul, 1) := by decide +kernel
theorem dX8_shareOf_30 : decode cX8_shareOf 30 = .ok (.aload_n 0, 1) := by decide +kernel
theorem dX8_shareOf_31 : decode cX8_shareOf 31 = .ok (.getfield 18, 3) := by decide +kernel
theorem dX8_shareOf_34 : decode cX8_shareOf 34 = .ok (.iload_n 1, 1) := by decide +kernel
theorem dX8_shareOf_35 : decode cX8_shareOf 35 = .ok (.iaload, 1) := by decide +kernel
theorem dX8_shareOf_36 : decode cX8_shareOf 36 = .ok (.i2l, 1) := by decide +kernel
theorem dX8_shareOf_37 : decode cX8_shareOf 37 = .ok (.ldiv, 1) := by decide +kernel
theorem dX8_shareOf_38 : decode cX8_shareOf 38 = .ok (.lreturn, 1) := by decide +kernel
theorem dX9_farmer_0 : decode cX9_farmer 0 = .ok (.iload_n 1, 1) := by decide +kernel
theorem dX9_farmer_1 : decode cX9_farmer 1 = .ok (.iconst 0, 1) := by decide +kernel
theorem dX9_farmer_2 : decode cX9_farmer 2 = .ok (.bipush 9, 2) := by decide +kernel
theorem dX9_farmer_4 : decode cX9_farmer 4 = .ok (.invokestatic 84, 3) := by decide +kernel
theorem dX9_farmer_7 : decode cX9_farmer 7 = .ok (.ifCond .ne 24, 3) := by decide +kernel
theorem dX9_farmer_10 : decode cX9_farmer 10 = .ok (.iload_n 2, 1) := by decide +kernel
theorem dX9_farmer_11 : decode cX9_farmer 11 = .ok (.iconst 0, 1) := by decide +kernel
theorem dX9_farmer_12 : decode cX9_farmer 12 = .ok (.sipush 1000, 3) := by decide +kernel
theorem dX9_farmer_15 : decode cX9_farmer 15 = .ok (.invokestatic 84, 3) := by decide +kernel
theorem dX9_farmer_18 : decode cX9_farmer 18 = .ok (.ifCond .ne 13, 3) := by decide +kernel
theorem dX9_farmer_21 : decode cX9_farmer 21 = .ok (.iload_n 3, 1) := by decide +kernel
theorem dX9_farmer_22 : decode cX9_farmer 22 = .ok (.iconst 1, 1) := by decide +kernel
theorem dX9_farmer_23 : decode cX9_farmer 23 = .ok (.bipush 50, 2) := by decide +kernel
theorem dX9_farmer_25 : decode cX9_farmer 25 = .ok (.invokestatic 84, 3) := by decide +kernel
theorem dX9_farmer_28 : decode cX9_farmer 28 = .ok (.ifCond .eq 9, 3) := by decide +kernel
theorem dX9_farmer_31 : decode cX9_farmer 31 = .ok (.aload_n 0, 1) := by decide +kernel
theorem dX9_farmer_32 : decode cX9_farmer 32 = .ok (.iconst (-1), 1) := by decide +kernel
theorem dX9_farmer_33 : decode cX9_farmer 33 = .ok (.invokevirtual 88, 3) := by decide +kernel
theorem dX9_farmer_36 : decode cX9_farmer 36 = .ok (.ireturn, 1) := by decide +kernel
theorem dX9_farmer_37 : decode cX9_farmer 37 = .ok (.aload_n 0, 1) := by decide +kernel
theorem dX9_farmer_38 : decode cX9_farmer 38 = .ok (.getfield 10, 3) := by decide +kernel
theorem dX9_farmer_41 : decode cX9_farmer 41 = .ok (.getfield 92, 3) := by decide +kernel
theorem dX9_farmer_44 : decode cX9_farmer 44 = .ok (.bipush 40, 2) := by decide +kernel
theorem dX9_farmer_46 : decode cX9_farmer 46 = .ok (.if_icmp .lt 10, 3) := by decide +kernel
theorem dX9_farmer_49 : decode cX9_farmer 49 = .ok (.aload_n 0, 1) := by decide +kernel
theorem dX9_farmer_50 : decode cX9_farmer 50 = .ok (.bipush (-5), 2) := by decide +kernel
theorem dX9_farmer_52 : decode cX9_farmer 52 = .ok (.invokevirtual 88, 3) := by decide +kernel
theorem dX9_farmer_55 : decode cX9_farmer 55 = .ok (.ireturn, 1) := by decide +kernel
theorem dX9_farmer_56 : decode cX9_farmer 56 = .ok (.aload_n 0, 1) := by decide +kernel
theorem dX9_farmer_57 : decode cX9_farmer 57 = .ok (.getfield 10, 3) := by decide +kernel
theorem dX9_farmer_60 : decode cX9_farmer 60 = .ok (.iload_n 1, 1) := by decide +kernel
theorem dX9_farmer_61 : decode cX9_farmer 61 = .ok (.iload_n 2, 1) := by decide +kernel
theorem dX9_farmer_62 : decode cX9_farmer 62 = .ok (.iload_n 3, 1) := by decide +kernel
theorem dX9_farmer_63 : decode cX9_farmer 63 = .ok (.invokevirtual 95, 3) := by decide +kernel
theorem dX9_farmer_66 : decode cX9_farmer 66 = .ok (.aload_n 0, 1) := by decide +kernel
theorem dX9_farmer_67 : decode cX9_farmer 67 = .ok (.aload_n 0, 1) := by decide +kernel
theorem dX9_farmer_68 : decode cX9_farmer 68 = .ok (.getfield 10, 3) := by decide +kernel
theorem dX9_farmer_71 : decode cX9_farmer 71 = .ok (.getfield 92, 3) := by decide +kernel
theorem dX9_farmer_74 : decode cX9_farmer 74 = .ok (.iconst 1, 1) := by decide +kernel
theorem dX9_farmer_75 : decode cX9_farmer 75 = .ok (.isub, 1) := by decide +kernel
theorem dX9_farmer_76 : decode cX9_farmer 76 = .ok (.invokevirtual 99, 3) := by decide +kernel
theorem dX9_farmer_79 : decode cX9_farmer 79 = .ok (.ireturn, 1) := by decide +kernel
theorem dX9_credit_0 : decode cX9_credit 0 = .ok (.iload_n 2, 1) := by decide +kernel
theorem dX9_credit_1 : decode cX9_credit 1 = .ok (.iconst 1, 1) := by decide +kernel
theorem dX9_credit_2 : decode cX9_credit 2 = .ok (.ldc 102, 2) := by decide +kernel
theorem dX9_credit_4 : decode cX9_credit 4 = .ok (.invokestatic 84, 3) := by decide +kernel
theorem dX9_credit_7 : decode cX9_credit 7 = .ok (.ifCond .ne 14, 3) := by decide +kernel
theorem dX9_credit_10 : decode cX9_credit 10 = .ok (.iload_n 3, 1) := by decide +kernel
theorem dX9_credit_11 : decode cX9_credit 11 = .ok (.iconst 0, 1) := by decide +kernel
theorem dX9_credit_12 : decode cX9_credit 12 = .ok (.sipush 400, 3) := by decide +kernel
theorem dX9_credit_15 : decode cX9_credit 15 = .ok (.invokestatic 84, 3) := by decide +kernel
theorem dX9_credit_18 : decode cX9_credit 18 = .ok (.ifCond .eq 9, 3) := by decide +kernel
theorem dX9_credit_21 : decode cX9_credit 21 = .ok (.aload_n 0, 1) := by decide +kernel
theorem dX9_credit_22 : decode cX9_credit 22 = .ok (.iconst (-1), 1) := by decide +kernel
theorem dX9_credit_23 : decode cX9_credit 23 = .ok (.invokevirtual 88, 3) := by decide +kernel
theorem dX9_credit_26 : decode cX9_credit 26 = .ok (.ireturn, 1) := by decide +kernel
theorem dX9_credit_27 : decode cX9_credit 27 = .ok (.aload_n 0, 1) := by decide +kernel
theorem dX9_credit_28 : decode cX9_credit 28 = .ok (.iload_n 1, 1) := by decide +kernel
theorem dX9_credit_29 : decode cX9_credit 29 = .ok (.invokevirtual 103, 3) := by decide +kernel
theorem dX9_credit_32 : decode cX9_credit 32 = .ok (.ifCond .eq 10, 3) := by decide +kernel
theorem dX9_credit_35 : decode cX9_credit 35 = .ok (.aload_n 0, 1) := by decide +kernel
theorem dX9_credit_36 : decode cX9_credit 36 = .ok (.bipush (-2), 2) := by decide +kernel
theorem dX9_credit_38 : decode cX9_credit 38 = .ok (.invokevirtual 88, 3) := by decide +kernel
theorem dX9_credit_41 : decode cX9_credit 41 = .ok (.ireturn, 1) := by decide +kernel
theorem dX9_credit_42 : decode cX9_credit 42 = .ok (.aload_n 0, 1) := by decide +kernel
theorem dX9_credit_43 : decode cX9_credit 43 = .ok (.getfield 19, 3) := by decide +kernel
theorem dX9_credit_46 : decode cX9_credit 46 = .ok (.getfield 107, 3) := by decide +kernel
theorem dX9_credit_49 : decode cX9_credit 49 = .ok (.sipush 200, 3) := by decide +kernel
theorem dX9_credit_52 : decode cX9_credit 52 = .ok (.if_icmp .lt 10, 3) := by decide +kernel
theorem dX9_credit_55 : decode cX9_credit 55 = .ok (.aload_n 0, 1) := by decide +kernel
theorem dX9_credit_56 : decode cX9_credit 56 = .ok (.bipush (-5), 2) := by decide +kernel
theorem dX9_credit_58 : decode cX9_credit 58 = .ok (.invokevirtual 88, 3) := by decide +kernel
theorem dX9_credit_61 : decode cX9_credit 61 = .ok (.ireturn, 1) := by decide +kernel
theorem dX9_credit_62 : decode cX9_credit 62 = .ok (.aload_n 0, 1) := by decide +kernel
theorem dX9_credit_63 : decode cX9_credit 63 = .ok (.getfield 19, 3) := by decide +kernel
theorem dX9_credit_66 : decode cX9_credit 66 = .ok (.iload_n 1, 1) := by decide +kernel
theorem dX9_credit_67 : decode cX9_credit 67 = .ok (.iload_n 2, 1) := by decide +kernel
theorem dX9_credit_68 : decode cX9_credit 68 = .ok (.iload_n 3, 1) := by decide +kernel
theorem dX9_credit_69 : decode cX9_credit 69 = .ok (.invokevirtual 108, 3) := by decide +kernel
theorem dX9_credit_72 : decode cX9_credit 72 = .ok (.aload_n 0, 1) := by decide +kernel
theorem dX9_credit_73 : decode cX9_credit 73 = .ok (.aload_n 0, 1) := by decide +kernel
theorem dX9_credit_74 : decode cX9_credit 74 = .ok (.getfield 19, 3) := by decide +kernel
theorem dX9_credit_77 : decode cX9_credit 77 = .ok (.getfield 107, 3) := by decide +kernel
theorem dX9_credit_80 : decode cX9_credit 80 = .ok (.invokevirtual 99, 3) := by decide +kernel
theorem dX9_credit_83 : decode cX9_credit 83 = .ok (.ireturn, 1) := by decide +kernel
theorem dX9_basket_0 : decode cX9_basket 0 = .ok (.iload_n 2, 1) := by decide +kernel
theorem dX9_basket_1 : decode cX9_basket 1 = .ok (.iconst 1, 1) := by decide +kernel
theorem dX9_basket_2 : decode cX9_basket 2 = .ok (.sipush 1000, 3) := by decide +kernel
theorem dX9_basket_5 : decode cX9_basket 5 = .ok (.invokestatic 84, 3) := by decide +kernel
theorem dX9_basket_8 : decode cX9_basket 8 = .ok (.ifCond .ne 24, 3) := by decide +kernel
theorem dX9_basket_11 : decode cX9_basket 11 = .ok (.iload_n 3, 1) := by decide +kernel
theorem dX9_basket_12 : decode cX9_basket 12 = .ok (.iconst 0, 1) := by decide +kernel
theorem dX9_basket_13 : decode cX9_basket 13 = .ok (.iconst 4, 1) := by decide +kernel
theorem dX9_basket_14 : decode cX9_basket 14 = .ok (.invokestatic 84, 3) := by decide +kernel
theorem dX9_basket_17 : decode cX9_basket 17 = .ok (.ifCond .ne 15, 3) := by decide +kernel
theorem dX9_basket_20 : decode cX9_basket 20 = .ok (.iload 4, 2) := by decide +kernel
theorem dX9_basket_22 : decode cX9_basket 22 = .ok (.iconst 0, 1) := by decide +kernel
theorem dX9_basket_23 : decode cX9_basket 23 = .ok (.sipush 400, 3) := by decide +kernel
theorem dX9_basket_26 : decode cX9_basket 26 = .ok (.invokestatic 84, 3) := by decide +kernel
theorem dX9_basket_29 : decode cX9_basket 29 = .ok (.ifCond .eq 9, 3) := by decide +kernel
theorem dX9_basket_32 : decode cX9_basket 32 = .ok (.aload_n 0, 1) := by decide +kernel
theorem dX9_basket_33 : decode cX9_basket 33 = .ok (.iconst (-1), 1) := by decide +kernel
theorem dX9_basket_34 : decode cX9_basket 34 = .ok (.invokevirtual 88, 3) := by decide +kernel
theorem dX9_basket_37 : decode cX9_basket 37 = .ok (.ireturn, 1) := by decide +kernel
theorem dX9_basket_38 : decode cX9_basket 38 = .ok (.aload_n 0, 1) := by decide +kernel
theorem dX9_basket_39 : decode cX9_basket 39 = .ok (.iload_n 1, 1) := by decide +kernel
theorem dX9_basket_40 : decode cX9_basket 40 = .ok (.invokevirtual 103, 3) := by decide +kernel
theorem dX9_basket_43 : decode cX9_basket 43 = .ok (.ifCond .eq 10, 3) := by decide +kernel
theorem dX9_basket_46 : decode cX9_basket 46 = .ok (.aload_n 0, 1) := by decide +kernel
theorem dX9_basket_47 : decode cX9_basket 47 = .ok (.bipush (-2), 2) := by decide +kernel
theorem dX9_basket_49 : decode cX9_basket 49 = .ok (.invokevirtual 88, 3) := by decide +kernel
theorem dX9_basket_52 : decode cX9_basket 52 = .ok (.ireturn, 1) := by decide +kernel
theorem dX9_basket_53 : decode cX9_basket 53 = .ok (.aload_n 0, 1) := by decide +kernel
theorem dX9_basket_54 : decode cX9_basket 54 = .ok (.getfield 26, 3) := by decide +kernel
theorem dX9_basket_57 : decode cX9_basket 57 = .ok (.getfield 109, 3) := by decide +kernel
theorem dX9_basket_60 : decode cX9_basket 60 = .ok (.sipush 300, 3) := by decide +kernel
theorem dX9_basket_63 : decode cX9_basket 63 = .ok (.if_icmp .lt 10, 3) := by decide +kernel
theorem dX9_basket_66 : decode cX9_basket 66 = .ok (.aload_n 0, 1) := by decide +kernel
theorem dX9_basket_67 : decode cX9_basket 67 = .ok (.bipush (-5), 2) := by decide +kernel
theorem dX9_basket_69 : decode cX9_basket 69 = .ok (.invokevirtual 88, 3) := by decide +kernel
theorem dX9_basket_72 : decode cX9_basket 72 = .ok (.ireturn, 1) := by decide +kernel
theorem dX9_basket_73 : decode cX9_basket 73 = .ok (.aload_n 0, 1) := by decide +kernel
theorem dX9_basket_74 : decode cX9_basket 74 = .ok (.getfield 26, 3) := by decide +kernel
theorem dX9_basket_77 : decode cX9_basket 77 = .ok (.iload_n 1, 1) := by decide +kernel
theorem dX9_basket_78 : decode cX9_basket 78 = .ok (.iload_n 2, 1) := by decide +kernel
theorem dX9_basket_79 : decode cX9_basket 79 = .ok (.iload_n 3, 1) := by decide +kernel
theorem dX9_basket_80 : decode cX9_basket 80 = .ok (.iload 4, 2) := by decide +kernel
theorem dX9_basket_82 : decode cX9_basket 82 = .ok (.invokevirtual 110, 3) := by decide +kernel
theorem dX9_basket_85 : decode cX9_basket 85 = .ok (.aload_n 0, 1) := by decide +kernel
theorem dX9_basket_86 : decode cX9_basket 86 = .ok (.aload_n 0, 1) := by decide +kernel
theorem dX9_basket_87 : decode cX9_basket 87 = .ok (.getfield 26, 3) := by decide +kernel
theorem dX9_basket_90 : decode cX9_basket 90 = .ok (.getfield 109, 3) := by decide +kernel
theorem dX9_basket_93 : decode cX9_basket 93 = .ok (.invokevirtual 99, 3) := by decide +kernel
theorem dX9_basket_96 : decode cX9_basket 96 = .ok (.ireturn, 1) := by decide +kernel
theorem dX9_feed_0 : decode cX9_feed 0 = .ok (.aload_n 0, 1) := by decide +kernel
theorem dX9_feed_1 : decode cX9_feed 1 = .ok (.getfield 33, 3) := by decide +kernel
theorem dX9_feed_4 : decode cX9_feed 4 = .ok (.getfield 113, 3) := by decide +kernel
theorem dX9_feed_7 : decode cX9_feed 7 = .ok (.sipush 180, 3) := by decide +kernel
theorem dX9_feed_10 : decode cX9_feed 10 = .ok (.if_icmp .le 5, 3) := by decide +kernel
theorem dX9_feed_13 : decode cX9_feed 13 = .ok (.iconst (-1), 1) := by decide +kernel
theorem dX9_feed_14 : decode cX9_feed 14 = .ok (.ireturn, 1) := by decide +kernel
theorem dX9_feed_15 : decode cX9_feed 15 = .ok (.aload_n 0, 1) := by decide +kernel
theorem dX9_feed_16 : decode cX9_feed 16 = .ok (.getfield 33, 3) := by decide +kernel
theorem dX9_feed_19 : decode cX9_feed 19 = .ok (.iload_n 1, 1) := by decide +kernel
theorem dX9_feed_20 : decode cX9_feed 20 = .ok (.invokevirtual 116, 3) := by decide +kernel
theorem dX9_feed_23 : decode cX9_feed 23 = .ok (.aload_n 0, 1) := by decide +kernel
theorem dX9_feed_24 : decode cX9_feed 24 = .ok (.getfield 33, 3) := by decide +kernel
theorem dX9_feed_27 : decode cX9_feed 27 = .ok (.iload_n 2, 1) := by decide +kernel
theorem dX9_feed_28 : decode cX9_feed 28 = .ok (.invokevirtual 116, 3) := by decide +kernel
theorem dX9_feed_31 : decode cX9_feed 31 = .ok (.aload_n 0, 1) := by decide +kernel
theorem dX9_feed_32 : decode cX9_feed 32 = .ok (.getfield 33, 3) := by decide +kernel
theorem dX9_feed_35 : decode cX9_feed 35 = .ok (.iload_n 3, 1) := by decide +kernel
theorem dX9_feed_36 : decode cX9_feed 36 = .ok (.invokevirtual 116, 3) := by decide +kernel
theorem dX9_feed_39 : decode cX9_feed 39 = .ok (.aload_n 0, 1) := by decide +kernel
theorem dX9_feed_40 : decode cX9_feed 40 = .ok (.getfield 33, 3) := by decide +kernel
theorem dX9_feed_43 : decode cX9_feed 43 = .ok (.iload 4, 2) := by decide +kernel
theorem dX9_feed_45 : decode cX9_feed 45 = .ok (.invokevirtual 116, 3) := by decide +kernel
theorem dX9_feed_48 : decode cX9_feed 48 = .ok (.aload_n 0, 1) := by decide +kernel
theorem dX9_feed_49 : decode cX9_feed 49 = .ok (.getfield 33, 3) := by decide +kernel
theorem dX9_feed_52 : decode cX9_feed 52 = .ok (.iload 5, 2) := by decide +kernel
theorem dX9_feed_54 : decode cX9_feed 54 = .ok (.invokevirtual 116, 3) := by decide +kernel
theorem dX9_feed_57 : decode cX9_feed 57 = .ok (.aload_n 0, 1) := by decide +kernel
theorem dX9_feed_58 : decode cX9_feed 58 = .ok (.getfield 33, 3) := by decide +kernel
theorem dX9_feed_61 : decode cX9_feed 61 = .ok (.getfield 113, 3) := by decide +kernel
theorem dX9_feed_64 : decode cX9_feed 64 = .ok (.ireturn, 1) := by decide +kernel
theorem dX9_end_0 : decode cX9_end 0 = .ok (.iload_n 1, 1) := by decide +kernel
theorem dX9_end_1 : decode cX9_end 1 = .ok (.iconst 0, 1) := by decide +kernel
theorem dX9_end_2 : decode cX9_end 2 = .ok (.aload_n 0, 1) := by decide +kernel
theorem dX9_end_3 : decode cX9_end 3 = .ok (.getfield 33, 3) := by decide +kernel
theorem dX9_end_6 : decode cX9_end 6 = .ok (.getfield 113, 3) := by decide +kernel
theorem dX9_end_9 : decode cX9_end 9 = .ok (.invokestatic 84, 3) := by decide +kernel
theorem dX9_end_12 : decode cX9_end 12 = .ok (.ifCond .eq 5, 3) := by decide +kernel
theorem dX9_end_15 : decode cX9_end 15 = .ok (.iconst (-1), 1) := by decide +kernel
theorem dX9_end_16 : decode cX9_end 16 = .ok (.ireturn, 1) := by decide +kernel
theorem dX9_end_17 : decode cX9_end 17 = .ok (.aload_n 0, 1) := by decide +kernel
theorem dX9_end_18 : decode cX9_end 18 = .ok (.getfield 33, 3) := by decide +kernel
theorem dX9_end_21 : decode cX9_end 21 = .ok (.iload_n 1, 1) := by decide +kernel
theorem dX9_end_22 : decode cX9_end 22 = .ok (.putfield 113, 3) := by decide +kernel
theorem dX9_end_25 : decode cX9_end 25 = .ok (.iload_n 1, 1) := by decide +kernel
theorem dX9_end_26 : decode cX9_end 26 = .ok (.ireturn, 1) := by decide +kernel
theorem dX9_contract_0 : decode cX9_contract 0 = .ok (.aload_n 0, 1) := by decide +kernel
theorem dX9_contract_1 : decode cX9_contract 1 = .ok (.aload_n 0, 1) := by decide +kernel
theorem dX9_contract_2 : decode cX9_contract 2 = .ok (.getfield 73, 3) := by decide +kernel
theorem dX9_contract_5 : decode cX9_contract 5 = .ok (.aload_n 0, 1) := by decide +kernel
theorem dX9_contract_6 : decode cX9_contract 6 = .ok (.getfield 65, 3) := by decide +kernel
theorem dX9_contract_9 : decode cX9_contract 9 = .ok (.invokevirtual 120, 3) := by decide +kernel
theorem dX9_contract_12 : decode cX9_contract 12 = .ok (.putfield 77, 3) := by decide +kernel
theorem dX9_contract_15 : decode cX9_contract 15 = .ok (.aload_n 0, 1) := by decide +kernel
theorem dX9_contract_16 : decode cX9_contract 16 = .ok (.getfield 33, 3) := by decide +kernel
theorem dX9_contract_19 : decode cX9_contract 19 = .ok (.iconst 0, 1) := by decide +kernel
theorem dX9_contract_20 : decode cX9_contract 20 = .ok (.putfield 113, 3) := by decide +kernel
theorem dX9_contract_23 : decode cX9_contract 23 = .ok (.aload_n 0, 1) := by decide +kernel
theorem dX9_contract_24 : decode cX9_contract 24 = .ok (.getfield 77, 3) := by decide +kernel
theorem dX9_contract_27 : decode cX9_contract 27 = .ok (.iconst (-1), 1) := by decide +kernel
theorem dX9_contract_28 : decode cX9_contract 28 = .ok (.if_icmp .eq 10, 3) := by decide +kernel
theorem dX9_contract_31 : decode cX9_contract 31 = .ok (.aload_n 0, 1) := by decide +kernel
theorem dX9_contract_32 : decode cX9_contract 32 = .ok (.bipush (-6), 2) := by decide +kernel
theorem dX9_contract_34 : decode cX9_contract 34 = .ok (.invokevirtual 88, 3) := by decide +kernel
theorem dX9_contract_37 : decode cX9_contract 37 = .ok (.ireturn, 1) := by decide +kernel
theorem dX9_contract_38 : decode cX9_contract 38 = .ok (.aload_n 0, 1) := by decide +kernel
theorem dX9_contract_39 : decode cX9_contract 39 = .ok (.getfield 61, 3) := by decide +kernel
theorem dX9_contract_42 : decode cX9_contract 42 = .ok (.astore_n 1, 1) := by decide +kernel
theorem dX9_contract_43 : decode cX9_contract 43 = .ok (.aload_n 0, 1) := by decide +kernel
theorem dX9_contract_44 : decode cX9_contract 44 = .ok (.aload_n 0, 1) := by decide +kernel
theorem dX9_contract_45 : decode cX9_contract 45 = .ok (.getfield 65, 3) := by decide +kernel
theorem dX9_contract_48 : decode cX9_contract 48 = .ok (.putfield 61, 3) := by decide +kernel
theorem dX9_contract_51 : decode cX9_contract 51 = .ok (.aload_n 0, 1) := by decide +kernel
theorem dX9_contract_52 : decode cX9_contract 52 = .ok (.aload_n 1, 1) := by decide +kernel
theorem dX9_contract_53 : decode cX9_contract 53 = .ok (.putfield 65, 3) := by decide +kernel
theorem dX9_contract_56 : decode cX9_contract 56 = .ok (.aload_n 0, 1) := by decide +kernel
theorem dX9_contract_57 : decode cX9_contract 57 = .ok (.aload_n 0, 1) := by decide +kernel
theorem dX9_contract_58 : decode cX9_contract 58 = .ok (.getfield 61, 3) := by decide +kernel
theorem dX9_contract_61 : decode cX9_contract 61 = .ok (.getfield 124, 3) := by decide +kernel
theorem dX9_contract_64 : decode cX9_contract 64 = .ok (.invokevirtual 99, 3) := by decide +kernel
theorem dX9_contract_67 : decode cX9_contract 67 = .ok (.ireturn, 1) := by decide +kernel
theorem dX9_fault_0 : decode cX9_fault 0 = .ok (.aload_n 0, 1) := by decide +kernel
theorem dX9_fault_1 : decode cX9_fault 1 = .ok (.getfield 77, 3) := by decide +kernel
theorem dX9_fault_4 : decode cX9_fault 4 = .ok (.ireturn, 1) := by decide +kernel
theorem dX9_of_0 : decode cX9_of 0 = .ok (.aload_n 0, 1) := by decide +kernel
theorem dX9_of_1 : decode cX9_of 1 = .ok (.iload_n 1, 1) := by decide +kernel
theorem dX9_of_2 : decode cX9_of 2 = .ok (.invokevirtual 103, 3) := by decide +kernel
theorem dX9_of_5 : decode cX9_of 5 = .ok (.ifCond .ne 24, 3) := by decide +kernel
theorem dX9_of_8 : decode cX9_of 8 = .ok (.iload_n 2, 1) := by decide +kernel
theorem dX9_of_9 : decode cX9_of 9 = .ok (.iconst 0, 1) := by decide +kernel
theorem dX9_of_10 : decode cX9_of 10 = .ok (.sipush 400, 3) := by decide +kernel
theorem dX9_of_13 : decode cX9_of 13 = .ok (.invokestatic 84, 3) := by decide +kernel
theorem dX9_of_16 : decode cX9_of 16 = .ok (.ifCond .ne 13, 3) := by decide +kernel
theorem dX9_of_19 : decode cX9_of 19 = .ok (.iload_n 3, 1) := by decide +kernel
theorem dX9_of_20 : decode cX9_of 20 = .ok (.iconst 0, 1) := by decide +kernel
theorem dX9_of_21 : decode cX9_of 21 = .ok (.bipush 10, 2) := by decide +kernel
theorem dX9_of_23 : decode cX9_of 23 = .ok (.invokestatic 84, 3) := by decide +kernel
theorem dX9_of_26 : decode cX9_of 26 = .ok (.ifCond .eq 7, 3) := by decide +kernel
theorem dX9_of_29 : decode cX9_of 29 = .ok (.ldc2_w 127, 3) := by decide +kernel
theorem dX9_of_32 : decode cX9_of 32 = .ok (.lreturn, 1) := by decide +kernel
theorem dX9_of_33 : decode cX9_of 33 = .ok (.aload_n 0, 1) := by decide +kernel
theorem dX9_of_34 : decode cX9_of 34 = .ok (.getfield 40, 3) := by decide +kernel
theorem dX9_of_37 : decode cX9_of 37 = .ok (.aload_n 0, 1) := by decide +kernel
theorem dX9_of_38 : decode cX9_of 38 = .ok (.getfield 10, 3) := by decide +kernel
theorem dX9_of_41 : decode cX9_of 41 = .ok (.aload_n 0, 1) := by decide +kernel
theorem dX9_of_42 : decode cX9_of 42 = .ok (.getfield 19, 3) := by decide +kernel
theorem dX9_of_45 : decode cX9_of 45 = .ok (.aload_n 0, 1) := by decide +kernel
theorem dX9_of_46 : decode cX9_of 46 = .ok (.getfield 26, 3) := by decide +kernel
theorem dX9_of_49 : decode cX9_of 49 = .ok (.aload_n 0, 1) := by decide +kernel
theorem dX9_of_50 : decode cX9_of 50 = .ok (.getfield 61, 3) := by decide +kernel
theorem dX9_of_53 : decode cX9_of 53 = .ok (.iload_n 2, 1) := by decide +kernel
theorem dX9_of_54 : decode cX9_of 54 = .ok (.invokevirtual 129, 3) := by decide +kernel
theorem dX9_of_57 : decode cX9_of 57 = .ok (.aload_n 0, 1) := by decide +kernel
theorem dX9_of_58 : decode cX9_of 58 = .ok (.getfield 40, 3) := by decide +kernel
theorem dX9_of_61 : decode cX9_of 61 = .ok (.aload_n 0, 1) := by decide +kernel
theorem dX9_of_62 : decode cX9_of 62 = .ok (.getfield 10, 3) := by decide +kernel
theorem dX9_of_65 : decode cX9_of 65 = .ok (.aload_n 0, 1) := by decide +kernel
theorem dX9_of_66 : decode cX9_of 66 = .ok (.getfield 61, 3) := by decide +kernel
theorem dX9_of_69 : decode cX9_of 69 = .ok (.aload_n 0, 1) := by decide +kernel
theorem dX9_of_70 : decode cX9_of 70 = .ok (.getfield 10, 3) := by decide +kernel
theorem dX9_of_73 : decode cX9_of 73 = .ok (.getfield 133, 3) := by decide +kernel
theorem dX9_of_76 : decode cX9_of 76 = .ok (.iload_n 1, 1) := by decide +kernel
theorem dX9_of_77 : decode cX9_of 77 = .ok (.iaload, 1) := by decide +kernel
theorem dX9_of_78 : decode cX9_of 78 = .ok (.invokevirtual 137, 3) := by decide +kernel
theorem dX9_of_81 : decode cX9_of 81 = .ok (.iload_n 3, 1) := by decide +kernel
theorem dX9_of_82 : decode cX9_of 82 = .ok (.tableswitch 166 0 9 #[54, 64, 74, 84, 94, 103, 112, 122, 141, 160], 54) := by decide +kernel
theorem dX9_of_136 : decode cX9_of 136 = .ok (.aload_n 0, 1) := by decide +kernel
theorem dX9_of_137 : decode cX9_of 137 = .ok (.getfield 40, 3) := by decide +kernel
theorem dX9_of_140 : decode cX9_of 140 = .ok (.getfield 141, 3) := by decide +kernel
theorem dX9_of_143 : decode cX9_of 143 = .ok (.iload_n 1, 1) := by decide +kernel
theorem dX9_of_144 : decode cX9_of 144 = .ok (.laload, 1) := by decide +kernel
theorem dX9_of_145 : decode cX9_of 145 = .ok (.lreturn, 1) := by decide +kernel
theorem dX9_of_146 : decode cX9_of 146 = .ok (.aload_n 0, 1) := by decide +kernel
theorem dX9_of_147 : decode cX9_of 147 = .ok (.getfield 40, 3) := by decide +kernel
theorem dX9_of_150 : decode cX9_of 150 = .ok (.getfield 145, 3) := by decide +kernel
theorem dX9_of_153 : decode cX9_of 153 = .ok (.iload_n 1, 1) := by decide +kernel
theorem dX9_of_154 : decode cX9_of 154 = .ok (.laload, 1) := by decide +kernel
theorem dX9_of_155 : decode cX9_of 155 = .ok (.lreturn, 1) := by decide +kernel
theorem dX9_of_156 : decode cX9_of 156 = .ok (.aload_n 0, 1) := by decide +kernel
theorem dX9_of_157 : decode cX9_of 157 = .ok (.getfield 40, 3) := by decide +kernel
theorem dX9_of_160 : decode cX9_of 160 = .ok (.getfield 148, 3) := by decide +kernel
theorem dX9_of_163 : decode cX9_of 163 = .ok (.iload_n 1, 1) := by decide +kernel
theorem dX9_of_164 : decode cX9_of 164 = .ok (.laload, 1) := by decide +kernel
theorem dX9_of_165 : decode cX9_of 165 = .ok (.lreturn, 1) := by decide +kernel
theorem dX9_of_166 : decode cX9_of 166 = .ok (.aload_n 0, 1) := by decide +kernel
theorem dX9_of_167 : decode cX9_of 167 = .ok (.getfield 40, 3) := by decide +kernel
theorem dX9_of_170 : decode cX9_of 170 = .ok (.getfield 151, 3) := by decide +kernel
theorem dX9_of_173 : decode cX9_of 173 = .ok (.iload_n 1, 1) := by decide +kernel
theorem dX9_of_174 : decode cX9_of 174 = .ok (.laload, 1) := by decide +kernel
theorem dX9_of_175 : decode cX9_of 175 = .ok (.lreturn, 1) := by decide +kernel
theorem dX9_of_176 : decode cX9_of 176 = .ok (.aload_n 0, 1) := by decide +kernel
theorem dX9_of_177 : decode cX9_of 177 = .ok (.getfield 40, 3) := by decide +kernel
theorem dX9_of_180 : decode cX9_of 180 = .ok (.iload_n 1, 1) := by decide +kernel
theorem dX9_of_181 : decode cX9_of 181 = .ok (.invokevirtual 154, 3) := by decide +kernel
theorem dX9_of_184 : decode cX9_of 184 = .ok (.lreturn, 1) := by decide +kernel
theorem dX9_of_185 : decode cX9_of 185 = .ok (.aload_n 0, 1) := by decide +kernel
theorem dX9_of_186 : decode cX9_of 186 = .ok (.getfield 40, 3) := by decide +kernel
theorem dX9_of_189 : decode cX9_of 189 = .ok (.iload_n 1, 1) := by decide +kernel
theorem dX9_of_190 : decode cX9_of 190 = .ok (.invokevirtual 158, 3) := by decide +kernel
theorem dX9_of_193 : decode cX9_of 193 = .ok (.lreturn, 1) := by decide +kernel
theorem dX9_of_194 : decode cX9_of 194 = .ok (.aload_n 0, 1) := by decide +kernel
theorem dX9_of_195 : decode cX9_of 195 = .ok (.getfield 40, 3) := by decide +kernel
theorem dX9_of_198 : decode cX9_of 198 = .ok (.getfield 161, 3) := by decide +kernel
theorem dX9_of_201 : decode cX9_of 201 = .ok (.iload_n 1, 1) := by decide +kernel
theorem dX9_of_202 : decode cX9_of 202 = .ok (.laload, 1) := by decide +kernel
theorem dX9_of_203 : decode cX9_of 203 = .ok (.lreturn, 1) := by decide +kernel
theorem dX9_of_204 : decode cX9_of 204 = .ok (.aload_n 0, 1) := by decide +kernel
theorem dX9_of_205 : decode cX9_of 205 = .ok (.getfield 40, 3) := by decide +kernel
theorem dX9_of_208 : decode cX9_of 208 = .ok (.iload_n 1, 1) := by decide +kernel
theorem dX9_of_209 : decode cX9_of 209 = .ok (.invokevirtual 154, 3) := by decide +kernel
theorem dX9_of_212 : decode cX9_of 212 = .ok (.aload_n 0, 1) := by decide +kernel
theorem dX9_of_213 : decode cX9_of 213 = .ok (.getfield 40, 3) := by decide +kernel
theorem dX9_of_216 : decode cX9_of 216 = .ok (.getfield 161, 3) := by decide +kernel
theorem dX9_of_219 : decode cX9_of 219 = .ok (.iload_n 1, 1) := by decide +kernel
theorem dX9_of_220 : decode cX9_of 220 = .ok (.laload, 1) := by decide +kernel
theorem dX9_of_221 : decode cX9_of 221 = .ok (.lsub, 1) := by decide +kernel
theorem dX9_of_222 : decode cX9_of 222 = .ok (.lreturn, 1) := by decide +kernel
theorem dX9_of_223 : decode cX9_of 223 = .ok (.aload_n 0, 1) := by decide +kernel
theorem dX9_of_224 : decode cX9_of 224 = .ok (.getfield 40, 3) := by decide +kernel
theorem dX9_of_227 : decode cX9_of 227 = .ok (.iload_n 1, 1) := by decide +kernel
theorem dX9_of_228 : decode cX9_of 228 = .ok (.invokevirtual 158, 3) := by decide +kernel
theorem dX9_of_231 : decode cX9_of 231 = .ok (.aload_n 0, 1) := by decide +kernel
theorem dX9_of_232 : decode cX9_of 232 = .ok (.getfield 40, 3) := by decide +kernel
theorem dX9_of_235 : decode cX9_of 235 = .ok (.getfield 164, 3) := by decide +kernel
theorem dX9_of_238 : decode cX9_of 238 = .ok (.iload_n 1, 1) := by decide +kernel
theorem dX9_of_239 : decode cX9_of 239 = .ok (.laload, 1) := by decide +kernel
theorem dX9_of_240 : decode cX9_of 240 = .ok (.lsub, 1) := by decide +kernel
theorem dX9_of_241 : decode cX9_of 241 = .ok (.lreturn, 1) := by decide +kernel
theorem dX9_of_242 : decode cX9_of 242 = .ok (.aload_n 0, 1) := by decide +kernel
theorem dX9_of_243 : decode cX9_of 243 = .ok (.iload_n 1, 1) := by decide +kernel
theorem dX9_of_244 : decode cX9_of 244 = .ok (.invokevirtual 167, 3) := by decide +kernel
theorem dX9_of_247 : decode cX9_of 247 = .ok (.lreturn, 1) := by decide +kernel
theorem dX9_of_248 : decode cX9_of 248 = .ok (.aload_n 0, 1) := by decide +kernel
theorem dX9_of_249 : decode cX9_of 249 = .ok (.iload_n 1, 1) := by decide +kernel
theorem dX9_of_250 : decode cX9_of 250 = .ok (.invokevirtual 170, 3) := by decide +kernel
theorem dX9_of_253 : decode cX9_of 253 = .ok (.ifCond .eq 7, 3) := by decide +kernel
theorem dX9_of_256 : decode cX9_of 256 = .ok (.lconst 1, 1) := by decide +kernel
theorem dX9_of_257 : decode cX9_of 257 = .ok (.goto 4, 3) := by decide +kernel
theorem dX9_of_260 : decode cX9_of 260 = .ok (.lconst 0, 1) := by decide +kernel
theorem dX9_of_261 : decode cX9_of 261 = .ok (.lreturn, 1) := by decide +kernel
theorem dX9_group_0 : decode cX9_group 0 = .ok (.iload_n 1, 1) := by decide +kernel
theorem dX9_group_1 : decode cX9_group 1 = .ok (.iconst 0, 1) := by decide +kernel
theorem dX9_group_2 : decode cX9_group 2 = .ok (.bipush 9, 2) := by decide +kernel
theorem dX9_group_4 : decode cX9_group 4 = .ok (.invokestatic 84, 3) := by decide +kernel
theorem dX9_group_7 : decode cX9_group 7 = .ok (.ifCond .ne 23, 3) := by decide +kernel
theorem dX9_group_10 : decode cX9_group 10 = .ok (.iload_n 2, 1) := by decide +kernel
theorem dX9_group_11 : decode cX9_group 11 = .ok (.iconst 0, 1) := by decide +kernel
theorem dX9_group_12 : decode cX9_group 12 = .ok (.sipush 400, 3) := by decide +kernel
theorem dX9_group_15 : decode cX9_group 15 = .ok (.invokestatic 84, 3) := by decide +kernel
theorem dX9_group_18 : decode cX9_group 18 = .ok (.ifCond .ne 12, 3) := by decide +kernel
theorem dX9_group_21 : decode cX9_group 21 = .ok (.iload_n 3, 1) := by decide +kernel
theorem dX9_group_22 : decode cX9_group 22 = .ok (.iconst 0, 1) := by decide +kernel
theorem dX9_group_23 : decode cX9_group 23 = .ok (.iconst 3, 1) := by decide +kernel
theorem dX9_group_24 : decode cX9_group 24 = .ok (.invokestatic 84, 3) := by decide +kernel
theorem dX9_group_27 : decode cX9_group 27 = .ok (.ifCond .eq 7, 3) := by decide +kernel
theorem dX9_group_30 : decode cX9_group 30 = .ok (.ldc2_w 127, 3) := by decide +kernel
theorem dX9_group_33 : decode cX9_group 33 = .ok (.lreturn, 1) := by decide +kernel
theorem dX9_group_34 : decode cX9_group 34 = .ok (.aload_n 0, 1) := by decide +kernel
theorem dX9_group_35 : decode cX9_group 35 = .ok (.getfield 40, 3) := by decide +kernel
theorem dX9_group_38 : decode cX9_group 38 = .ok (.aload_n 0, 1) := by decide +kernel
theorem dX9_group_39 : decode cX9_group 39 = .ok (.getfield 10, 3) := by decide +kernel
theorem dX9_group_42 : decode cX9_group 42 = .ok (.aload_n 0, 1) := by decide +kernel
theorem dX9_group_43 : decode cX9_group 43 = .ok (.getfield 19, 3) := by decide +kernel
theorem dX9_group_46 : decode cX9_group 46 = .ok (.aload_n 0, 1) := by decide +kernel
theorem dX9_group_47 : decode cX9_group 47 = .ok (.getfield 26, 3) := by decide +kernel
theorem dX9_group_50 : decode cX9_group 50 = .ok (.aload_n 0, 1) := by decide +kernel
theorem dX9_group_51 : decode cX9_group 51 = .ok (.getfield 61, 3) := by decide +kernel
theorem dX9_group_54 : decode cX9_group 54 = .ok (.iload_n 2, 1) := by decide +kernel
theorem dX9_group_55 : decode cX9_group 55 = .ok (.invokevirtual 129, 3) := by decide +kernel
theorem dX9_group_58 : decode cX9_group 58 = .ok (.aload_n 0, 1) := by decide +kernel
theorem dX9_group_59 : decode cX9_group 59 = .ok (.getfield 40, 3) := by decide +kernel
theorem dX9_group_62 : decode cX9_group 62 = .ok (.aload_n 0, 1) := by decide +kernel
theorem dX9_group_63 : decode cX9_group 63 = .ok (.getfield 10, 3) := by decide +kernel
theorem dX9_group_66 : decode cX9_group 66 = .ok (.aload_n 0, 1) := by decide +kernel
theorem dX9_group_67 : decode cX9_group 67 = .ok (.getfield 61, 3) := by decide +kernel
theorem dX9_group_70 : decode cX9_group 70 = .ok (.iload_n 1, 1) := by decide +kernel
theorem dX9_group_71 : decode cX9_group 71 = .ok (.invokevirtual 137, 3) := by decide +kernel
theorem dX9_group_74 : decode cX9_group 74 = .ok (.iload_n 3, 1) := by decide +kernel
theorem dX9_group_75 : decode cX9_group 75 = .ok (.tableswitch 51 0 2 #[25, 35, 43], 25) := by decide +kernel
theorem dX9_group_100 : decode cX9_group 100 = .ok (.aload_n 0, 1) := by decide +kernel
theorem dX9_group_101 : decode cX9_group 101 = .ok (.getfield 10, 3) := by decide +kernel
theorem dX9_group_104 : decode cX9_group 104 = .ok (.iload_n 1, 1) := by decide +kernel
theorem dX9_group_105 : decode cX9_group 105 = .ok (.invokevirtual 173, 3) := by decide +kernel
theorem dX9_group_108 : decode cX9_group 108 = .ok (.i2l, 1) := by decide +kernel
theorem dX9_group_109 : decode cX9_group 109 = .ok (.lreturn, 1) := by decide +kernel
theorem dX9_group_110 : decode cX9_group 110 = .ok (.aload_n 0, 1) := by decide +kernel
theorem dX9_group_111 : decode cX9_group 111 = .ok (.getfield 40, 3) := by decide +kernel
theorem dX9_group_114 : decode cX9_group 114 = .ok (.getfield 176, 3) := by decide +kernel
theorem dX9_group_117 : decode cX9_group 117 = .ok (.lreturn, 1) := by decide +kernel
theorem dX9_group_118 : decode cX9_group 118 = .ok (.aload_n 0, 1) := by decide +kernel
theorem dX9_group_119 : decode cX9_group 119 = .ok (.getfield 40, 3) := by decide +kernel
theorem dX9_group_122 : decode cX9_group 122 = .ok (.getfield 180, 3) := by decide +kernel
theorem dX9_group_125 : decode cX9_group 125 = .ok (.lreturn, 1) := by decide +kernel
theorem dX9_group_126 : decode cX9_group 126 = .ok (.aload_n 0, 1) := by decide +kernel
theorem dX9_group_127 : decode cX9_group 127 = .ok (.getfield 40, 3) := by decide +kernel
theorem dX9_group_130 : decode cX9_group 130 = .ok (.getfield 176, 3) := by decide +kernel
theorem dX9_group_133 : decode cX9_group 133 = .ok (.aload_n 0, 1) := by decide +kernel
theorem dX9_group_134 : decode cX9_group 134 = .ok (.getfield 40, 3) := by decide +kernel
theorem dX9_group_137 : decode cX9_group 137 = .ok (.getfield 180, 3) := by decide +kernel
theorem dX9_group_140 : decode cX9_group 140 = .ok (.lsub, 1) := by decide +kernel
theorem dX9_group_141 : decode cX9_group 141 = .ok (.lreturn, 1) := by decide +kernel
theorem dX9_bears_0 : decode cX9_bears 0 = .ok (.iload_n 1, 1) := by decide +kernel
theorem dX9_bears_1 : decode cX9_bears 1 = .ok (.iconst 0, 1) := by decide +kernel
theorem dX9_bears_2 : decode cX9_bears 2 = .ok (.sipush 10000, 3) := by decide +kernel
theorem dX9_bears_5 : decode cX9_bears 5 = .ok (.invokestatic 84, 3) := by decide +kernel
theorem dX9_bears_8 : decode cX9_bears 8 = .ok (.ifCond .eq 9, 3) := by decide +kernel
theorem dX9_bears_11 : decode cX9_bears 11 = .ok (.aload_n 0, 1) := by decide +kernel
theorem dX9_bears_12 : decode cX9_bears 12 = .ok (.iconst (-1), 1) := by decide +kernel
theorem dX9_bears_13 : decode cX9_bears 13 = .ok (.invokevirtual 88, 3) := by decide +kernel
theorem dX9_bears_16 : decode cX9_bears 16 = .ok (.ireturn, 1) := by decide +kernel
theorem dX9_bears_17 : decode cX9_bears 17 = .ok (.aload_n 0, 1) := by decide +kernel
theorem dX9_bears_18 : decode cX9_bears 18 = .ok (.getfield 47, 3) := by decide +kernel
theorem dX9_bears_21 : decode cX9_bears 21 = .ok (.getfield 183, 3) := by decide +kernel
theorem dX9_bears_24 : decode cX9_bears 24 = .ok (.istore_n 2, 1) := by decide +kernel
theorem dX9_bears_25 : decode cX9_bears 25 = .ok (.aload_n 0, 1) := by decide +kernel
theorem dX9_bears_26 : decode cX9_bears 26 = .ok (.getfield 47, 3) := by decide +kernel
theorem dX9_bears_29 : decode cX9_bears 29 = .ok (.iload_n 1, 1) := by decide +kernel
theorem dX9_bears_30 : decode cX9_bears 30 = .ok (.putfield 183, 3) := by decide +kernel
theorem dX9_bears_33 : decode cX9_bears 33 = .ok (.aload_n 0, 1) := by decide +kernel
theorem dX9_bears_34 : decode cX9_bears 34 = .ok (.iload_n 2, 1) := by decide +kernel
theorem dX9_bears_35 : decode cX9_bears 35 = .ok (.invokevirtual 99, 3) := by decide +kernel
theorem dX9_bears_38 : decode cX9_bears 38 = .ok (.ireturn, 1) := by decide +kernel
theorem dX9_drought_0 : decode cX9_drought 0 = .ok (.iload_n 1, 1) := by decide +kernel
theorem dX9_drought_1 : decode cX9_drought 1 = .ok (.iconst 0, 1) := by decide +kernel
theorem dX9_drought_2 : decode cX9_drought 2 = .ok (.sipush 1000, 3) := by decide +kernel
theorem dX9_drought_5 : decode cX9_drought 5 = .ok (.invokestatic 84, 3) := by decide +kernel
theorem dX9_drought_8 : decode cX9_drought 8 = .ok (.ifCond .ne 24, 3) := by decide +kernel
theorem dX9_drought_11 : decode cX9_drought 11 = .ok (.iload_n 2, 1) := by decide +kernel
theorem dX9_drought_12 : decode cX9_drought 12 = .ok (.iload_n 1, 1) := by decide +kernel
theorem dX9_drought_13 : decode cX9_drought 13 = .ok (.sipush 1000, 3) := by decide +kernel
theorem dX9_drought_16 : decode cX9_drought 16 = .ok (.invokestatic 84, 3) := by decide +kernel
theorem dX9_drought_19 : decode cX9_drought 19 = .ok (.ifCond .ne 13, 3) := by decide +kernel
theorem dX9_drought_22 : decode cX9_drought 22 = .ok (.iload_n 3, 1) := by decide +kernel
theorem dX9_drought_23 : decode cX9_drought 23 = .ok (.iconst 0, 1) := by decide +kernel
theorem dX9_drought_24 : decode cX9_drought 24 = .ok (.bipush 100, 2) := by decide +kernel
theorem dX9_drought_26 : decode cX9_drought 26 = .ok (.invokestatic 84, 3) := by decide +kernel
theorem dX9_drought_29 : decode cX9_drought 29 = .ok (.ifCond .eq 9, 3) := by decide +kernel
theorem dX9_drought_32 : decode cX9_drought 32 = .ok (.aload_n 0, 1) := by decide +kernel
theorem dX9_drought_33 : decode cX9_drought 33 = .ok (.iconst (-1), 1) := by decide +kernel
theorem dX9_drought_34 : decode cX9_drought 34 = .ok (.invokevirtual 88, 3) := by decide +kernel
theorem dX9_drought_37 : decode cX9_drought 37 = .ok (.ireturn, 1) := by decide +kernel
theorem dX9_drought_38 : decode cX9_drought 38 = .ok (.aload_n 0, 1) := by decide +kernel
theorem dX9_drought_39 : decode cX9_drought 39 = .ok (.getfield 47, 3) := by decide +kernel
theorem dX9_drought_42 : decode cX9_drought 42 = .ok (.getfield 186, 3) := by decide +kernel
theorem dX9_drought_45 : decode cX9_drought 45 = .ok (.bipush 60, 2) := by decide +kernel
theorem dX9_drought_47 : decode cX9_drought 47 = .ok (.if_icmp .lt 10, 3) := by decide +kernel
theorem dX9_drought_50 : decode cX9_drought 50 = .ok (.aload_n 0, 1) := by decide +kernel
theorem dX9_drought_51 : decode cX9_drought 51 = .ok (.bipush (-5), 2) := by decide +kernel
theorem dX9_drought_53 : decode cX9_drought 53 = .ok (.invokevirtual 88, 3) := by decide +kernel
theorem dX9_drought_56 : decode cX9_drought 56 = .ok (.ireturn, 1) := by decide +kernel
theorem dX9_drought_57 : decode cX9_drought 57 = .ok (.aload_n 0, 1) := by decide +kernel
theorem dX9_drought_58 : decode cX9_drought 58 = .ok (.getfield 47, 3) := by decide +kernel
theorem dX9_drought_61 : decode cX9_drought 61 = .ok (.iload_n 1, 1) := by decide +kernel
theorem dX9_drought_62 : decode cX9_drought 62 = .ok (.iload_n 2, 1) := by decide +kernel
theorem dX9_drought_63 : decode cX9_drought 63 = .ok (.iload_n 3, 1) := by decide +kernel
theorem dX9_drought_64 : decode cX9_drought 64 = .ok (.invokevirtual 187, 3) := by decide +kernel
theorem dX9_drought_67 : decode cX9_drought 67 = .ok (.aload_n 0, 1) := by decide +kernel
theorem dX9_drought_68 : decode cX9_drought 68 = .ok (.aload_n 0, 1) := by decide +kernel
theorem dX9_drought_69 : decode cX9_drought 69 = .ok (.getfield 47, 3) := by decide +kernel
theorem dX9_drought_72 : decode cX9_drought 72 = .ok (.getfield 186, 3) := by decide +kernel
theorem dX9_drought_75 : decode cX9_drought 75 = .ok (.invokevirtual 99, 3) := by decide +kernel
theorem dX9_drought_78 : decode cX9_drought 78 = .ok (.ireturn, 1) := by decide +kernel
theorem dX9_visit_0 : decode cX9_visit 0 = .ok (.iload_n 2, 1) := by decide +kernel
theorem dX9_visit_1 : decode cX9_visit 1 = .ok (.iconst 0, 1) := by decide +kernel
theorem dX9_visit_2 : decode cX9_visit 2 = .ok (.sipush 5000, 3) := by decide +kernel
theorem dX9_visit_5 : decode cX9_visit 5 = .ok (.invokestatic 84, 3) := by decide +kernel
theorem dX9_visit_8 : decode cX9_visit 8 = .ok (.ifCond .eq 9, 3) := by decide +kernel
theorem dX9_visit_11 : decode cX9_visit 11 = .ok (.aload_n 0, 1) := by decide +kernel
theorem dX9_visit_12 : decode cX9_visit 12 = .ok (.iconst (-1), 1) := by decide +kernel
theorem dX9_visit_13 : decode cX9_visit 13 = .ok (.invokevirtual 88, 3) := by decide +kernel
theorem dX9_visit_16 : decode cX9_visit 16 = .ok (.ireturn, 1) := by decide +kernel
theorem dX9_visit_17 : decode cX9_visit 17 = .ok (.aload_n 0, 1) := by decide +kernel
theorem dX9_visit_18 : decode cX9_visit 18 = .ok (.iload_n 1, 1) := by decide +kernel
theorem dX9_visit_19 : decode cX9_visit 19 = .ok (.invokevirtual 103, 3) := by decide +kernel
theorem dX9_visit_22 : decode cX9_visit 22 = .ok (.ifCond .eq 10, 3) := by decide +kernel
theorem dX9_visit_25 : decode cX9_visit 25 = .ok (.aload_n 0, 1) := by decide +kernel
theorem dX9_visit_26 : decode cX9_visit 26 = .ok (.bipush (-2), 2) := by decide +kernel
theorem dX9_visit_28 : decode cX9_visit 28 = .ok (.invokevirtual 88, 3) := by decide +kernel
theorem dX9_visit_31 : decode cX9_visit 31 = .ok (.ireturn, 1) := by decide +kernel
theorem dX9_visit_32 : decode cX9_visit 32 = .ok (.aload_n 0, 1) := by decide +kernel
theorem dX9_visit_33 : decode cX9_visit 33 = .ok (.getfield 54, 3) := by decide +kernel
theorem dX9_visit_36 : decode cX9_visit 36 = .ok (.getfield 188, 3) := by decide +kernel
theorem dX9_visit_39 : decode cX9_visit 39 = .ok (.bipush 16, 2) := by decide +kernel
theorem dX9_visit_41 : decode cX9_visit 41 = .ok (.if_icmp .lt 10, 3) := by decide +kernel
theorem dX9_visit_44 : decode cX9_visit 44 = .ok (.aload_n 0, 1) := by decide +kernel
theorem dX9_visit_45 : decode cX9_visit 45 = .ok (.bipush (-5), 2) := by decide +kernel
theorem dX9_visit_47 : decode cX9_visit 47 = .ok (.invokevirtual 88, 3) := by decide +kernel
theorem dX9_visit_50 : decode cX9_visit 50 = .ok (.ireturn, 1) := by decide +kernel
theorem dX9_visit_51 : decode cX9_visit 51 = .ok (.aload_n 0, 1) := by decide +kernel
theorem dX9_visit_52 : decode cX9_visit 52 = .ok (.getfield 54, 3) := by decide +kernel
theorem dX9_visit_55 : decode cX9_visit 55 = .ok (.aload_n 0, 1) := by decide +kernel
theorem dX9_visit_56 : decode cX9_visit 56 = .ok (.getfield 10, 3) := by decide +kernel
theorem dX9_visit_59 : decode cX9_visit 59 = .ok (.getfield 189, 3) := by decide +kernel
theorem dX9_visit_62 : decode cX9_visit 62 = .ok (.iload_n 1, 1) := by decide +kernel
theorem dX9_visit_63 : decode cX9_visit 63 = .ok (.iaload, 1) := by decide +kernel
theorem dX9_visit_64 : decode cX9_visit 64 = .ok (.iload_n 2, 1) := by decide +kernel
theorem dX9_visit_65 : decode cX9_visit 65 = .ok (.invokevirtual 192, 3) := by decide +kernel
theorem dX9_visit_68 : decode cX9_visit 68 = .ok (.aload_n 0, 1) := by decide +kernel
theorem dX9_visit_69 : decode cX9_visit 69 = .ok (.aload_n 0, 1) := by decide +kernel
theorem dX9_visit_70 : decode cX9_visit 70 = .ok (.getfield 54, 3) := by decide +kernel
theorem dX9_visit_73 : decode cX9_visit 73 = .ok (.getfield 188, 3) := by decide +kernel
theorem dX9_visit_76 : decode cX9_visit 76 = .ok (.invokevirtual 99, 3) := by decide +kernel
theorem dX9_visit_79 : decode cX9_visit 79 = .ok (.ireturn, 1) := by decide +kernel
theorem dX9_clear_0 : decode cX9_clear 0 = .ok (.aload_n 0, 1) := by decide +kernel
theorem dX9_clear_1 : decode cX9_clear 1 = .ok (.getfield 54, 3) := by decide +kernel
theorem dX9_clear_4 : decode cX9_clear 4 = .ok (.getfield 188, 3) := by decide +kernel
theorem dX9_clear_7 : decode cX9_clear 7 = .ok (.istore_n 1, 1) := by decide +kernel
theorem dX9_clear_8 : decode cX9_clear 8 = .ok (.aload_n 0, 1) := by decide +kernel
theorem dX9_clear_9 : decode cX9_clear 9 = .ok (.getfield 54, 3) := by decide +kernel
theorem dX9_clear_12 : decode cX9_clear 12 = .ok (.iconst 0, 1) := by decide +kernel
theorem dX9_clear_13 : decode cX9_clear 13 = .ok (.putfield 188, 3) := by decide +kernel
theorem dX9_clear_16 : decode cX9_clear 16 = .ok (.iload_n 1, 1) := by decide +kernel
theorem dX9_clear_17 : decode cX9_clear 17 = .ok (.ireturn, 1) := by decide +kernel
theorem dX9_most_0 : decode cX9_most 0 = .ok (.iload_n 1, 1) := by decide +kernel
theorem dX9_most_1 : decode cX9_most 1 = .ok (.iconst 0, 1) := by decide +kernel
theorem dX9_most_2 : decode cX9_most 2 = .ok (.sipush 1000, 3) := by decide +kernel
theorem dX9_most_5 : decode cX9_most 5 = .ok (.invokestatic 84, 3) := by decide +kernel
theorem dX9_most_8 : decode cX9_most 8 = .ok (.ifCond .eq 5, 3) := by decide +kernel
theorem dX9_most_11 : decode cX9_most 11 = .ok (.iconst (-1), 1) := by decide +kernel
theorem dX9_most_12 : decode cX9_most 12 = .ok (.ireturn, 1) := by decide +kernel
theorem dX9_most_13 : decode cX9_most 13 = .ok (.aload_n 0, 1) := by decide +kernel
theorem dX9_most_14 : decode cX9_most 14 = .ok (.getfield 54, 3) := by decide +kernel
theorem dX9_most_17 : decode cX9_most 17 = .ok (.iload_n 1, 1) := by decide +kernel
theorem dX9_most_18 : decode cX9_most 18 = .ok (.invokevirtual 195, 3) := by decide +kernel
theorem dX9_most_21 : decode cX9_most 21 = .ok (.aload_n 0, 1) := by decide +kernel
theorem dX9_most_22 : decode cX9_most 22 = .ok (.getfield 54, 3) := by decide +kernel
theorem dX9_most_25 : decode cX9_most 25 = .ok (.invokevirtual 198, 3) := by decide +kernel
theorem dX9_most_28 : decode cX9_most 28 = .ok (.ireturn, 1) := by decide +kernel
theorem dX9_least_0 : decode cX9_least 0 = .ok (.iload_n 1, 1) := by decide +kernel
theorem dX9_least_1 : decode cX9_least 1 = .ok (.iconst 0, 1) := by decide +kernel
theorem dX9_least_2 : decode cX9_least 2 = .ok (.sipush 1000, 3) := by decide +kernel
theorem dX9_least_5 : decode cX9_least 5 = .ok (.invokestatic 84, 3) := by decide +kernel
theorem dX9_least_8 : decode cX9_least 8 = .ok (.ifCond .ne 18, 3) := by decide +kernel
theorem dX9_least_11 : decode cX9_least 11 = .ok (.iload_n 2, 1) := by decide +kernel
theorem dX9_least_12 : decode cX9_least 12 = .ok (.iconst 0, 1) := by decide +kernel
theorem dX9_least_13 : decode cX9_least 13 = .ok (.aload_n 0, 1) := by decide +kernel
theorem dX9_least_14 : decode cX9_least 14 = .ok (.getfield 54, 3) := by decide +kernel
theorem dX9_least_17 : decode cX9_least 17 = .ok (.getfield 188, 3) := by decide +kernel
theorem dX9_least_20 : decode cX9_least 20 = .ok (.invokestatic 84, 3) := by decide +kernel
theorem dX9_least_23 : decode cX9_least 23 = .ok (.ifCond .eq 5, 3) := by decide +kernel
theorem dX9_least_26 : decode cX9_least 26 = .ok (.iconst (-1), 1) := by decide +kernel
theorem dX9_least_27 : decode cX9_least 27 = .ok (.ireturn, 1) := by decide +kernel
theorem dX9_least_28 : decode cX9_least 28 = .ok (.aload_n 0, 1) := by decide +kernel
theorem dX9_least_29 : decode cX9_least 29 = .ok (.getfield 54, 3) := by decide +kernel
theorem dX9_least_32 : decode cX9_least 32 = .ok (.iload_n 1, 1) := by decide +kernel
theorem dX9_least_33 : decode cX9_least 33 = .ok (.invokevirtual 195, 3) := by decide +kernel
theorem dX9_least_36 : decode cX9_least 36 = .ok (.aload_n 0, 1) := by decide +kernel
theorem dX9_least_37 : decode cX9_least 37 = .ok (.getfield 54, 3) := by decide +kernel
theorem dX9_least_40 : decode cX9_least 40 = .ok (.iload_n 2, 1) := by decide +kernel
theorem dX9_least_41 : decode cX9_least 41 = .ok (.invokevirtual 202, 3) := by decide +kernel
theorem dX9_least_44 : decode cX9_least 44 = .ok (.istore_n 3, 1) := by decide +kernel
theorem dX9_least_45 : decode cX9_least 45 = .ok (.iload_n 3, 1) := by decide +kernel
theorem dX9_least_46 : decode cX9_least 46 = .ok (.ldc 205, 2) := by decide +kernel
theorem dX9_least_48 : decode cX9_least 48 = .ok (.if_icmp .ne 7, 3) := by decide +kernel
theorem dX9_least_51 : decode cX9_least 51 = .ok (.iconst (-1), 1) := by decide +kernel
theorem dX9_least_52 : decode cX9_least 52 = .ok (.goto 4, 3) := by decide +kernel
theorem dX9_least_55 : decode cX9_least 55 = .ok (.iload_n 3, 1) := by decide +kernel
theorem dX9_least_56 : decode cX9_least 56 = .ok (.ireturn, 1) := by decide +kernel
theorem dX9_led_0 : decode cX9_led 0 = .ok (.iload_n 1, 1) := by decide +kernel
theorem dX9_led_1 : decode cX9_led 1 = .ok (.ifCond .lt 14, 3) := by decide +kernel
theorem dX9_led_4 : decode cX9_led 4 = .ok (.iload_n 2, 1) := by decide +kernel
theorem dX9_led_5 : decode cX9_led 5 = .ok (.iconst 0, 1) := by decide +kernel
theorem dX9_led_6 : decode cX9_led 6 = .ok (.sipush 400, 3) := by decide +kernel
theorem dX9_led_9 : decode cX9_led 9 = .ok (.invokestatic 84, 3) := by decide +kernel
theorem dX9_led_12 : decode cX9_led 12 = .ok (.ifCond .eq 5, 3) := by decide +kernel
theorem dX9_led_15 : decode cX9_led 15 = .ok (.iconst (-1), 1) := by decide +kernel
theorem dX9_led_16 : decode cX9_led 16 = .ok (.ireturn, 1) := by decide +kernel
theorem dX9_led_17 : decode cX9_led 17 = .ok (.aload_n 0, 1) := by decide +kernel
theorem dX9_led_18 : decode cX9_led 18 = .ok (.getfield 26, 3) := by decide +kernel
theorem dX9_led_21 : decode cX9_led 21 = .ok (.iload_n 1, 1) := by decide +kernel
theorem dX9_led_22 : decode cX9_led 22 = .ok (.iload_n 2, 1) := by decide +kernel
theorem dX9_led_23 : decode cX9_led 23 = .ok (.invokevirtual 206, 3) := by decide +kernel
theorem dX9_led_26 : decode cX9_led 26 = .ok (.ireturn, 1) := by decide +kernel
theorem dX9_count_0 : decode cX9_count 0 = .ok (.iload_n 1, 1) := by decide +kernel
theorem dX9_count_1 : decode cX9_count 1 = .ok (.tableswitch 111 0 7 #[47, 55, 63, 71, 79, 87, 95, 103], 47) := by decide +kernel
theorem dX9_count_48 : decode cX9_count 48 = .ok (.aload_n 0, 1) := by decide +kernel
theorem dX9_count_49 : decode cX9_count 49 = .ok (.getfield 10, 3) := by decide +kernel
theorem dX9_count_52 : decode cX9_count 52 = .ok (.getfield 92, 3) := by decide +kernel
theorem dX9_count_55 : decode cX9_count 55 = .ok (.ireturn, 1) := by decide +kernel
theorem dX9_count_56 : decode cX9_count 56 = .ok (.aload_n 0, 1) := by decide +kernel
theorem dX9_count_57 : decode cX9_count 57 = .ok (.getfield 19, 3) := by decide +kernel
theorem dX9_count_60 : decode cX9_count 60 = .ok (.getfield 107, 3) := by decide +kernel
theorem dX9_count_63 : decode cX9_count 63 = .ok (.ireturn, 1) := by decide +kernel
theorem dX9_count_64 : decode cX9_count 64 = .ok (.aload_n 0, 1) := by decide +kernel
theorem dX9_count_65 : decode cX9_count 65 = .ok (.getfield 26, 3) := by decide +kernel
theorem dX9_count_68 : decode cX9_count 68 = .ok (.getfield 109, 3) := by decide +kernel
theorem dX9_count_71 : decode cX9_count 71 = .ok (.ireturn, 1) := by decide +kernel
theorem dX9_count_72 : decode cX9_count 72 = .ok (.aload_n 0, 1) := by decide +kernel
theorem dX9_count_73 : decode cX9_count 73 = .ok (.getfield 61, 3) := by decide +kernel
theorem dX9_count_76 : decode cX9_count 76 = .ok (.getfield 124, 3) := by decide +kernel
theorem dX9_count_79 : decode cX9_count 79 = .ok (.ireturn, 1) := by decide +kernel
theorem dX9_count_80 : decode cX9_count 80 = .ok (.aload_n 0, 1) := by decide +kernel
theorem dX9_count_81 : decode cX9_count 81 = .ok (.getfield 47, 3) := by decide +kernel
theorem dX9_count_84 : decode cX9_count 84 = .ok (.getfield 186, 3) := by decide +kernel
theorem dX9_count_87 : decode cX9_count 87 = .ok (.ireturn, 1) := by decide +kernel
theorem dX9_count_88 : decode cX9_count 88 = .ok (.aload_n 0, 1) := by decide +kernel
theorem dX9_count_89 : decode cX9_count 89 = .ok (.getfield 54, 3) := by decide +kernel
theorem dX9_count_92 : decode cX9_count 92 = .ok (.getfield 188, 3) := by decide +kernel
theorem dX9_count_95 : decode cX9_count 95 = .ok (.ireturn, 1) := by decide +kernel
theorem dX9_count_96 : decode cX9_count 96 = .ok (.aload_n 0, 1) := by decide +kernel
theorem dX9_count_97 : decode cX9_count 97 = .ok (.getfield 33, 3) := by decide +kernel
theorem dX9_count_100 : decode cX9_count 100 = .ok (.getfield 113, 3) := by decide +kernel
theorem dX9_count_103 : decode cX9_count 103 = .ok (.ireturn, 1) := by decide +kernel
theorem dX9_count_104 : decode cX9_count 104 = .ok (.aload_n 0, 1) := by decide +kernel
theorem dX9_count_105 : decode cX9_count 105 = .ok (.getfield 26, 3) := by decide +kernel
theorem dX9_count_108 : decode cX9_count 108 = .ok (.getfield 210, 3) := by decide +kernel
theorem dX9_count_111 : decode cX9_count 111 = .ok (.ireturn, 1) := by decide +kernel
theorem dX9_count_112 : decode cX9_count 112 = .ok (.iconst (-1), 1) := by decide +kernel
theorem dX9_count_113 : decode cX9_count 113 = .ok (.ireturn, 1) := by decide +kernel
theorem dX9_status_0 : decode cX9_status 0 = .ok (.aload_n 0, 1) := by decide +kernel
theorem dX9_status_1 : decode cX9_status 1 = .ok (.getfield 81, 3) := by decide +kernel
theorem dX9_status_4 : decode cX9_status 4 = .ok (.ireturn, 1) := by decide +kernel
theorem dX9_refuse_0 : decode cX9_refuse 0 = .ok (.aload_n 0, 1) := by decide +kernel
theorem dX9_refuse_1 : decode cX9_refuse 1 = .ok (.iload_n 1, 1) := by decide +kernel
theorem dX9_refuse_2 : decode cX9_refuse 2 = .ok (.putfield 81, 3) := by decide +kernel
theorem dX9_refuse_5 : decode cX9_refuse 5 = .ok (.iload_n 1, 1) := by decide +kernel
theorem dX9_refuse_6 : decode cX9_refuse 6 = .ok (.ireturn, 1) := by decide +kernel
theorem dX9_accept_0 : decode cX9_accept 0 = .ok (.aload_n 0, 1) := by decide +kernel
theorem dX9_accept_1 : decode cX9_accept 1 = .ok (.iconst 0, 1) := by decide +kernel
theorem dX9_accept_2 : decode cX9_accept 2 = .ok (.putfield 81, 3) := by decide +kernel
theorem dX9_accept_5 : decode cX9_accept 5 = .ok (.iload_n 1, 1) := by decide +kernel
theorem dX9_accept_6 : decode cX9_accept 6 = .ok (.ireturn, 1) := by decide +kernel
theorem dX9_isNoFarmer_0 : decode cX9_isNoFarmer 0 = .ok (.iload_n 1, 1) := by decide +kernel
theorem dX9_isNoFarmer_1 : decode cX9_isNoFarmer 1 = .ok (.iconst 0, 1) := by decide +kernel
theorem dX9_isNoFarmer_2 : decode cX9_isNoFarmer 2 = .ok (.aload_n 0, 1) := by decide +kernel
theorem dX9_isNoFarmer_3 : decode cX9_isNoFarmer 3 = .ok (.getfield 10, 3) := by decide +kernel
theorem dX9_isNoFarmer_6 : decode cX9_isNoFarmer 6 = .ok (.getfield 92, 3) := by decide +kernel
theorem dX9_isNoFarmer_9 : decode cX9_isNoFarmer 9 = .ok (.iconst 1, 1) := by decide +kernel
theorem dX9_isNoFarmer_10 : decode cX9_isNoFarmer 10 = .ok (.isub, 1) := by decide +kernel
theorem dX9_isNoFarmer_11 : decode cX9_isNoFarmer 11 = .ok (.invokestatic 84, 3) := by decide +kernel
theorem dX9_isNoFarmer_14 : decode cX9_isNoFarmer 14 = .ok (.ireturn, 1) := by decide +kernel
theorem dX9_foretold_0 : decode cX9_foretold 0 = .ok (.aload_n 0, 1) := by decide +kernel
theorem dX9_foretold_1 : decode cX9_foretold 1 = .ok (.getfield 47, 3) := by decide +kernel
theorem dX9_foretold_4 : decode cX9_foretold 4 = .ok (.aload_n 0, 1) := by decide +kernel
theorem dX9_foretold_5 : decode cX9_foretold 5 = .ok (.getfield 10, 3) := by decide +kernel
theorem dX9_foretold_8 : decode cX9_foretold 8 = .ok (.getfield 213, 3) := by decide +kernel
theorem dX9_foretold_11 : decode cX9_foretold 11 = .ok (.iload_n 1, 1) := by decide +kernel
theorem dX9_foretold_12 : decode cX9_foretold 12 = .ok (.iaload, 1) := by decide +kernel
theorem dX9_foretold_13 : decode cX9_foretold 13 = .ok (.aload_n 0, 1) := by decide +kernel
theorem dX9_foretold_14 : decode cX9_foretold 14 = .ok (.getfield 10, 3) := by decide +kernel
theorem dX9_foretold_17 : decode cX9_foretold 17 = .ok (.getfield 189, 3) := by decide +kernel
theorem dX9_foretold_20 : decode cX9_foretold 20 = .ok (.iload_n 1, 1) := by decide +kernel
theorem dX9_foretold_21 : decode cX9_foretold 21 = .ok (.iaload, 1) := by decide +kernel
theorem dX9_foretold_22 : decode cX9_foretold 22 = .ok (.invokevirtual 216, 3) := by decide +kernel
theorem dX9_foretold_25 : decode cX9_foretold 25 = .ok (.lreturn, 1) := by decide +kernel
theorem dX9_isShort_0 : decode cX9_isShort 0 = .ok (.aload_n 0, 1) := by decide +kernel
theorem dX9_isShort_1 : decode cX9_isShort 1 = .ok (.getfield 40, 3) := by decide +kernel
theorem dX9_isShort_4 : decode cX9_isShort 4 = .ok (.getfield 141, 3) := by decide +kernel
theorem dX9_isShort_7 : decode cX9_isShort 7 = .ok (.iload_n 1, 1) := by decide +kernel
theorem dX9_isShort_8 : decode cX9_isShort 8 = .ok (.laload, 1) := by decide +kernel
theorem dX9_isShort_9 : decode cX9_isShort 9 = .ok (.aload_n 0, 1) := by decide +kernel
theorem dX9_isShort_10 : decode cX9_isShort 10 = .ok (.getfield 61, 3) := by decide +kernel
theorem dX9_isShort_13 : decode cX9_isShort 13 = .ok (.iconst 3, 1) := by decide +kernel
theorem dX9_isShort_14 : decode cX9_isShort 14 = .ok (.aload_n 0, 1) := by decide +kernel
theorem dX9_isShort_15 : decode cX9_isShort 15 = .ok (.iload_n 1, 1) := by decide +kernel
theorem dX9_isShort_16 : decode cX9_isShort 16 = .ok (.invokevirtual 167, 3) := by decide +kernel
theorem dX9_isShort_19 : decode cX9_isShort 19 = .ok (.invokevirtual 219, 3) := by decide +kernel
theorem dX9_isShort_22 : decode cX9_isShort 22 = .ok (.lcmp, 1) := by decide +kernel
theorem dX9_isShort_23 : decode cX9_isShort 23 = .ok (.ifCond .ge 7, 3) := by decide +kernel
theorem dX9_isShort_26 : decode cX9_isShort 26 = .ok (.iconst 1, 1) := by decide +kernel
theorem dX9_isShort_27 : decode cX9_isShort 27 = .ok (.goto 4, 3) := by decide +kernel
theorem dX9_isShort_30 : decode cX9_isShort 30 = .ok (.iconst 0, 1) := by decide +kernel
theorem dX9_isShort_31 : decode cX9_isShort 31 = .ok (.ireturn, 1) := by decide +kernel
theorem dX9_outside_0 : decode cX9_outside 0 = .ok (.iload_n 0, 1) := by decide +kernel
theorem dX9_outside_1 : decode cX9_outside 1 = .ok (.iload_n 1, 1) := by decide +kernel
theorem dX9_outside_2 : decode cX9_outside 2 = .ok (.if_icmp .lt 8, 3) := by decide +kernel
theorem dX9_outside_5 : decode cX9_outside 5 = .ok (.iload_n 0, 1) := by decide +kernel
theorem dX9_outside_6 : decode cX9_outside 6 = .ok (.iload_n 2, 1) := by decide +kernel
theorem dX9_outside_7 : decode cX9_outside 7 = .ok (.if_icmp .le 7, 3) := by decide +kernel
theorem dX9_outside_10 : decode cX9_outside 10 = .ok (.iconst 1, 1) := by decide +kernel
theorem dX9_outside_11 : decode cX9_outside 11 = .ok (.goto 4, 3) := by decide +kernel
theorem dX9_outside_14 : decode cX9_outside 14 = .ok (.iconst 0, 1) := by decide +kernel
theorem dX9_outside_15 : decode cX9_outside 15 = .ok (.ireturn, 1) := by decide +kernel
theorem dJ0_length_8abf5_0 : decode cJ0_length_8abf5 0 = .ok (.aload_n 0, 1) := by decide +kernel
theorem dJ0_length_8abf5_1 : decode cJ0_length_8abf5 1 = .ok (.getfield 9, 3) := by decide +kernel
theorem dJ0_length_8abf5_4 : decode cJ0_length_8abf5 4 = .ok (.arraylength, 1) := by decide +kernel
theorem dJ0_length_8abf5_5 : decode cJ0_length_8abf5 5 = .ok (.aload_n 0, 1) := by decide +kernel
theorem dJ0_length_8abf5_6 : decode cJ0_length_8abf5 6 = .ok (.invokevirtual 335, 3) := by decide +kernel
theorem dJ0_length_8abf5_9 : decode cJ0_length_8abf5 9 = .ok (.ishr, 1) := by decide +kernel
theorem dJ0_length_8abf5_10 : decode cJ0_length_8abf5 10 = .ok (.ireturn, 1) := by decide +kernel
theorem dJ0_charAt_5068e_0 : decode cJ0_charAt_5068e 0 = .ok (.aload_n 0, 1) := by decide +kernel
theorem dJ0_charAt_5068e_1 : decode cJ0_charAt_5068e 1 = .ok (.invokevirtual 492, 3) := by decide +kernel
theorem dJ0_charAt_5068e_4 : decode cJ0_charAt_5068e 4 = .ok (.ifCond .eq 12, 3) := by decide +kernel
theorem dJ0_charAt_5068e_7 : decode cJ0_charAt_5068e 7 = .ok (.aload_n 0, 1) := by decide +kernel
theorem dJ0_charAt_5068e_8 : decode cJ0_charAt_5068e 8 = .ok (.getfield 9, 3) := by decide +kernel
theorem dJ0_charAt_5068e_11 : decode cJ0_charAt_5068e 11 = .ok (.iload_n 1, 1) := by decide +kernel
theorem dJ0_charAt_5068e_12 : decode cJ0_charAt_5068e 12 = .ok (.invokestatic 495, 3) := by decide +kernel
theorem dJ0_charAt_5068e_15 : decode cJ0_charAt_5068e 15 = .ok (.ireturn, 1) := by decide +kernel
theorem dJ0_charAt_5068e_16 : decode cJ0_charAt_5068e 16 = .ok (.aload_n 0, 1) := by decide +kernel
theorem dJ0_charAt_5068e_17 : decode cJ0_charAt_5068e 17 = .ok (.getfield 9, 3) := by decide +kernel
theorem dJ0_charAt_5068e_20 : decode cJ0_charAt_5068e 20 = .ok (.iload_n 1, 1) := by decide +kernel
theorem dJ0_charAt_5068e_21 : decode cJ0_charAt_5068e 21 = .ok (.invokestatic 498, 3) := by decide +kernel
theorem dJ0_charAt_5068e_24 : decode cJ0_charAt_5068e 24 = .ok (.ireturn, 1) := by decide +kernel
theorem dJ0_coder_7d493_0 : decode cJ0_coder_7d493 0 = .ok (.getstatic 38, 3) := by decide +kernel
theorem dJ0_coder_7d493_3 : decode cJ0_coder_7d493 3 = .ok (.ifCond .eq 10, 3) := by decide +kernel
theorem dJ0_coder_7d493_6 : decode cJ0_coder_7d493 6 = .ok (.aload_n 0, 1) := by decide +kernel
theorem dJ0_coder_7d493_7 : decode cJ0_coder_7d493 7 = .ok (.getfield 15, 3) := by decide +kernel
theorem dJ0_coder_7d493_10 : decode cJ0_coder_7d493 10 = .ok (.goto 4, 3) := by decide +kernel
theorem dJ0_coder_7d493_13 : decode cJ0_coder_7d493 13 = .ok (.iconst 1, 1) := by decide +kernel
theorem dJ0_coder_7d493_14 : decode cJ0_coder_7d493 14 = .ok (.ireturn, 1) := by decide +kernel
theorem dJ0_isLatin1_aae02_0 : decode cJ0_isLatin1_aae02 0 = .ok (.getstatic 38, 3) := by decide +kernel
theorem dJ0_isLatin1_aae02_3 : decode cJ0_isLatin1_aae02 3 = .ok (.ifCond .eq 14, 3) := by decide +kernel
theorem dJ0_isLatin1_aae02_6 : decode cJ0_isLatin1_aae02 6 = .ok (.aload_n 0, 1) := by decide +kernel
theorem dJ0_isLatin1_aae02_7 : decode cJ0_isLatin1_aae02 7 = .ok (.getfield 15, 3) := by decide +kernel
theorem dJ0_isLatin1_aae02_10 : decode cJ0_isLatin1_aae02 10 = .ok (.ifCond .ne 7, 3) := by decide +kernel
theorem dJ0_isLatin1_aae02_13 : decode cJ0_isLatin1_aae02 13 = .ok (.iconst 1, 1) := by decide +kernel
theorem dJ0_isLatin1_aae02_14 : decode cJ0_isLatin1_aae02 14 = .ok (.goto 4, 3) := by decide +kernel
theorem dJ0_isLatin1_aae02_17 : decode cJ0_isLatin1_aae02 17 = .ok (.iconst 0, 1) := by decide +kernel
theorem dJ0_isLatin1_aae02_18 : decode cJ0_isLatin1_aae02 18 = .ok (.ireturn, 1) := by decide +kernel
theorem dJ1_charAt_3b067_0 : decode cJ1_charAt_3b067 0 = .ok (.iload_n 1, 1) := by decide +kernel
theorem dJ1_charAt_3b067_1 : decode cJ1_charAt_3b067 1 = .ok (.aload_n 0, 1) := by decide +kernel
theorem dJ1_charAt_3b067_2 : decode cJ1_charAt_3b067 2 = .ok (.arraylength, 1) := by decide +kernel
theorem dJ1_charAt_3b067_3 : decode cJ1_charAt_3b067 3 = .ok (.invokestatic 9, 3) := by decide +kernel
theorem dJ1_charAt_3b067_6 : decode cJ1_charAt_3b067 6 = .ok (.aload_n 0, 1) := by decide +kernel
theorem dJ1_charAt_3b067_7 : decode cJ1_charAt_3b067 7 = .ok (.iload_n 1, 1) := by decide +kernel
theorem dJ1_charAt_3b067_8 : decode cJ1_charAt_3b067 8 = .ok (.baload, 1) := by decide +kernel
theorem dJ1_charAt_3b067_9 : decode cJ1_charAt_3b067 9 = .ok (.sipush 255, 3) := by decide +kernel
theorem dJ1_charAt_3b067_12 : decode cJ1_charAt_3b067 12 = .ok (.iand, 1) := by decide +kernel
theorem dJ1_charAt_3b067_13 : decode cJ1_charAt_3b067 13 = .ok (.i2c, 1) := by decide +kernel
theorem dJ1_charAt_3b067_14 : decode cJ1_charAt_3b067 14 = .ok (.ireturn, 1) := by decide +kernel
theorem dJ7_fill_d0a16_0 : decode cJ7_fill_d0a16 0 = .ok (.iconst 0, 1) := by decide +kernel
theorem dJ7_fill_d0a16_1 : decode cJ7_fill_d0a16 1 = .ok (.istore_n 3, 1) := by decide +kernel
theorem dJ7_fill_d0a16_2 : decode cJ7_fill_d0a16 2 = .ok (.aload_n 0, 1) := by decide +kernel
theorem dJ7_fill_d0a16_3 : decode cJ7_fill_d0a16 3 = .ok (.arraylength, 1) := by decide +kernel
theorem dJ7_fill_d0a16_4 : decode cJ7_fill_d0a16 4 = .ok (.istore 4, 2) := by decide +kernel
theorem dJ7_fill_d0a16_6 : decode cJ7_fill_d0a16 6 = .ok (.iload_n 3, 1) := by decide +kernel
theorem dJ7_fill_d0a16_7 : decode cJ7_fill_d0a16 7 = .ok (.iload 4, 2) := by decide +kernel
theorem dJ7_fill_d0a16_9 : decode cJ7_fill_d0a16 9 = .ok (.if_icmp .ge 13, 3) := by decide +kernel
theorem dJ7_fill_d0a16_12 : decode cJ7_fill_d0a16 12 = .ok (.aload_n 0, 1) := by decide +kernel
theorem dJ7_fill_d0a16_13 : decode cJ7_fill_d0a16 13 = .ok (.iload_n 3, 1) := by decide +kernel
theorem dJ7_fill_d0a16_14 : decode cJ7_fill_d0a16 14 = .ok (.lload_n 1, 1) := by decide +kernel
theorem dJ7_fill_d0a16_15 : decode cJ7_fill_d0a16 15 = .ok (.lastore, 1) := by decide +kernel
theorem dJ7_fill_d0a16_16 : decode cJ7_fill_d0a16 16 = .ok (.iinc 3 1, 3) := by decide +kernel
theorem dJ7_fill_d0a16_19 : decode cJ7_fill_d0a16 19 = .ok (.goto (-13), 3) := by decide +kernel
theorem dJ7_fill_d0a16_22 : decode cJ7_fill_d0a16 22 = .ok (.return_, 1) := by decide +kernel
theorem dJ7_fill_53178_0 : decode cJ7_fill_53178 0 = .ok (.iconst 0, 1) := by decide +kernel
theorem dJ7_fill_53178_1 : decode cJ7_fill_53178 1 = .ok (.istore_n 2, 1) := by decide +kernel
theorem dJ7_fill_53178_2 : decode cJ7_fill_53178 2 = .ok (.aload_n 0, 1) := by decide +kernel
theorem dJ7_fill_53178_3 : decode cJ7_fill_53178 3 = .ok (.arraylength, 1) := by decide +kernel
theorem dJ7_fill_53178_4 : decode cJ7_fill_53178 4 = .ok (.istore_n 3, 1) := by decide +kernel
theorem dJ7_fill_53178_5 : decode cJ7_fill_53178 5 = .ok (.iload_n 2, 1) := by decide +kernel
theorem dJ7_fill_53178_6 : decode cJ7_fill_53178 6 = .ok (.iload_n 3, 1) := by decide +kernel
theorem dJ7_fill_53178_7 : decode cJ7_fill_53178 7 = .ok (.if_icmp .ge 13, 3) := by decide +kernel
theorem dJ7_fill_53178_10 : decode cJ7_fill_53178 10 = .ok (.aload_n 0, 1) := by decide +kernel
theorem dJ7_fill_53178_11 : decode cJ7_fill_53178 11 = .ok (.iload_n 2, 1) := by decide +kernel
theorem dJ7_fill_53178_12 : decode cJ7_fill_53178 12 = .ok (.iload_n 1, 1) := by decide +kernel
theorem dJ7_fill_53178_13 : decode cJ7_fill_53178 13 = .ok (.iastore, 1) := by decide +kernel
theorem dJ7_fill_53178_14 : decode cJ7_fill_53178 14 = .ok (.iinc 2 1, 3) := by decide +kernel
theorem dJ7_fill_53178_17 : decode cJ7_fill_53178 17 = .ok (.goto (-12), 3) := by decide +kernel
theorem dJ7_fill_53178_20 : decode cJ7_fill_53178 20 = .ok (.return_, 1) := by decide +kernel
end
section
theorem dX10_in_0 : decode cX10_in 0 = .ok (.lload_n 0, 1) := by decide +kernel
theorem dX10_in_1 : decode cX10_in 1 = .ok (.lload_n 2, 1) := by decide +kernel
theorem dX10_in_2 : decode cX10_in 2 = .ok (.lcmp, 1) := by decide +kernel
theorem dX10_in_3 : decode cX10_in 3 = .ok (.ifCond .lt 14, 3) := by decide +kernel
theorem dX10_in_6 : decode cX10_in 6 = .ok (.lload_n 0, 1) := by decide +kernel
theorem dX10_in_7 : decode cX10_in 7 = .ok (.lload 4, 2) := by decide +kernel
theorem dX10_in_9 : decode cX10_in 9 = .ok (.lcmp, 1) := by decide +kernel
theorem dX10_in_10 : decode cX10_in 10 = .ok (.ifCond .gt 7, 3) := by decide +kernel
theorem dX10_in_13 : decode cX10_in 13 = .ok (.iconst 1, 1) := by decide +kernel
theorem dX10_in_14 : decode cX10_in 14 = .ok (.goto 4, 3) := by decide +kernel
theorem dX10_in_17 : decode cX10_in 17 = .ok (.iconst 0, 1) := by decide +kernel
theorem dX10_in_18 : decode cX10_in 18 = .ok (.ireturn, 1) := by decide +kernel
theorem dX10_told_0 : decode cX10_told 0 = .ok (.aload_n 0, 1) := by decide +kernel
theorem dX10_told_1 : decode cX10_told 1 = .ok (.iload_n 1, 1) := by decide +kernel
theorem dX10_told_2 : decode cX10_told 2 = .ok (.ifCond .ge 7, 3) := by decide +kernel
theorem dX10_told_5 : decode cX10_told 5 = .ok (.iload_n 1, 1) := by decide +kernel
theorem dX10_told_6 : decode cX10_told 6 = .ok (.goto 4, 3) := by decide +kernel
theorem dX10_told_9 : decode cX10_told 9 = .ok (.iconst 0, 1) := by decide +kernel
theorem dX10_told_10 : decode cX10_told 10 = .ok (.putfield 120, 3) := by decide +kernel
theorem dX10_told_13 : decode cX10_told 13 = .ok (.iload_n 1, 1) := by decide +kernel
theorem dX10_told_14 : decode cX10_told 14 = .ok (.ireturn, 1) := by decide +kernel
theorem dX10_isDay_0 : decode cX10_isDay 0 = .ok (.iload_n 0, 1) := by decide +kernel
theorem dX10_isDay_1 : decode cX10_isDay 1 = .ok (.i2l, 1) := by decide +kernel
theorem dX10_isDay_2 : decode cX10_isDay 2 = .ok (.lconst 0, 1) := by decide +kernel
theorem dX10_isDay_3 : decode cX10_isDay 3 = .ok (.ldc2_w 123, 3) := by decide +kernel
theorem dX10_isDay_6 : decode cX10_isDay 6 = .ok (.invokestatic 125, 3) := by decide +kernel
theorem dX10_isDay_9 : decode cX10_isDay 9 = .ok (.ireturn, 1) := by decide +kernel
theorem dX10_isFarmer_0 : decode cX10_isFarmer 0 = .ok (.iload_n 1, 1) := by decide +kernel
theorem dX10_isFarmer_1 : decode cX10_isFarmer 1 = .ok (.i2l, 1) := by decide +kernel
theorem dX10_isFarmer_2 : decode cX10_isFarmer 2 = .ok (.lconst 0, 1) := by decide +kernel
theorem dX10_isFarmer_3 : decode cX10_isFarmer 3 = .ok (.aload_n 0, 1) := by decide +kernel
theorem dX10_isFarmer_4 : decode cX10_isFarmer 4 = .ok (.getfield 129, 3) := by decide +kernel
theorem dX10_isFarmer_7 : decode cX10_isFarmer 7 = .ok (.i2l, 1) := by decide +kernel
theorem dX10_isFarmer_8 : decode cX10_isFarmer 8 = .ok (.lconst 1, 1) := by decide +kernel
theorem dX10_isFarmer_9 : decode cX10_isFarmer 9 = .ok (.lsub, 1) := by decide +kernel
theorem dX10_isFarmer_10 : decode cX10_isFarmer 10 = .ok (.invokestatic 125, 3) := by decide +kernel
theorem dX10_isFarmer_13 : decode cX10_isFarmer 13 = .ok (.ireturn, 1) := by decide +kernel
theorem dX10_farmer_0 : decode cX10_farmer 0 = .ok (.aload_n 0, 1) := by decide +kernel
theorem dX10_farmer_1 : decode cX10_farmer 1 = .ok (.iconst 0, 1) := by decide +kernel
theorem dX10_farmer_2 : decode cX10_farmer 2 = .ok (.putfield 117, 3) := by decide +kernel
theorem dX10_farmer_5 : decode cX10_farmer 5 = .ok (.iload_n 1, 1) := by decide +kernel
theorem dX10_farmer_6 : decode cX10_farmer 6 = .ok (.i2l, 1) := by decide +kernel
theorem dX10_farmer_7 : decode cX10_farmer 7 = .ok (.lconst 0, 1) := by decide +kernel
theorem dX10_farmer_8 : decode cX10_farmer 8 = .ok (.ldc2_w 132, 3) := by decide +kernel
theorem dX10_farmer_11 : decode cX10_farmer 11 = .ok (.invokestatic 125, 3) := by decide +kernel
theorem dX10_farmer_14 : decode cX10_farmer 14 = .ok (.ifCond .eq 27, 3) := by decide +kernel
theorem dX10_farmer_17 : decode cX10_farmer 17 = .ok (.iload_n 2, 1) := by decide +kernel
theorem dX10_farmer_18 : decode cX10_farmer 18 = .ok (.i2l, 1) := by decide +kernel
theorem dX10_farmer_19 : decode cX10_farmer 19 = .ok (.lconst 0, 1) := by decide +kernel
theorem dX10_farmer_20 : decode cX10_farmer 20 = .ok (.ldc2_w 134, 3) := by decide +kernel
theorem dX10_farmer_23 : decode cX10_farmer 23 = .ok (.invokestatic 125, 3) := by decide +kernel
theorem dX10_farmer_26 : decode cX10_farmer 26 = .ok (.ifCond .eq 15, 3) := by decide +kernel
theorem dX10_farmer_29 : decode cX10_farmer 29 = .ok (.iload_n 3, 1) := by decide +kernel
theorem dX10_farmer_30 : decode cX10_farmer 30 = .ok (.i2l, 1) := by decide +kernel
theorem dX10_farmer_31 : decode cX10_farmer 31 = .ok (.lconst 1, 1) := by decide +kernel
theorem dX10_farmer_32 : decode cX10_farmer 32 = .ok (.ldc2_w 136, 3) := by decide +kernel
theorem dX10_farmer_35 : decode cX10_farmer 35 = .ok (.invokestatic 125, 3) := by decide +kernel
theorem dX10_farmer_38 : decode cX10_farmer 38 = .ok (.ifCond .ne 9, 3) := by decide +kernel
theorem dX10_farmer_41 : decode cX10_farmer 41 = .ok (.aload_n 0, 1) := by decide +kernel
theorem dX10_farmer_42 : decode cX10_farmer 42 = .ok (.iconst (-1), 1) := by decide +kernel
theorem dX10_farmer_43 : decode cX10_farmer 43 = .ok (.invokevirtual 138, 3) := by decide +kernel
theorem dX10_farmer_46 : decode cX10_farmer 46 = .ok (.ireturn, 1) := by decide +kernel
theorem dX10_farmer_47 : decode cX10_farmer 47 = .ok (.aload_n 0, 1) := by decide +kernel
theorem dX10_farmer_48 : decode cX10_farmer 48 = .ok (.getfield 129, 3) := by decide +kernel
theorem dX10_farmer_51 : decode cX10_farmer 51 = .ok (.bipush 40, 2) := by decide +kernel
theorem dX10_farmer_53 : decode cX10_farmer 53 = .ok (.if_icmp .ne 10, 3) := by decide +kernel
theorem dX10_farmer_56 : decode cX10_farmer 56 = .ok (.aload_n 0, 1) := by decide +kernel
theorem dX10_farmer_57 : decode cX10_farmer 57 = .ok (.bipush (-5), 2) := by decide +kernel
theorem dX10_farmer_59 : decode cX10_farmer 59 = .ok (.invokevirtual 138, 3) := by decide +kernel
theorem dX10_farmer_62 : decode cX10_farmer 62 = .ok (.ireturn, 1) := by decide +kernel
theorem dX10_farmer_63 : decode cX10_farmer 63 = .ok (.aload_n 0, 1) := by decide +kernel
theorem dX10_farmer_64 : decode cX10_farmer 64 = .ok (.getfield 7, 3) := by decide +kernel
theorem dX10_farmer_67 : decode cX10_farmer 67 = .ok (.aload_n 0, 1) := by decide +kernel
theorem dX10_farmer_68 : decode cX10_farmer 68 = .ok (.getfield 129, 3) := by decide +kernel
theorem dX10_farmer_71 : decode cX10_farmer 71 = .ok (.iload_n 1, 1) := by decide +kernel
theorem dX10_farmer_72 : decode cX10_farmer 72 = .ok (.iastore, 1) := by decide +kernel
theorem dX10_farmer_73 : decode cX10_farmer 73 = .ok (.aload_n 0, 1) := by decide +kernel
theorem dX10_farmer_74 : decode cX10_farmer 74 = .ok (.getfield 13, 3) := by decide +kernel
theorem dX10_farmer_77 : decode cX10_farmer 77 = .ok (.aload_n 0, 1) := by decide +kernel
theorem dX10_farmer_78 : decode cX10_farmer 78 = .ok (.getfield 129, 3) := by decide +kernel
theorem dX10_farmer_81 : decode cX10_farmer 81 = .ok (.iload_n 2, 1) := by decide +kernel
theorem dX10_farmer_82 : decode cX10_farmer 82 = .ok (.iastore, 1) := by decide +kernel
theorem dX10_farmer_83 : decode cX10_farmer 83 = .ok (.aload_n 0, 1) := by decide +kernel
theorem dX10_farmer_84 : decode cX10_farmer 84 = .ok (.getfield 16, 3) := by decide +kernel
theorem dX10_farmer_87 : decode cX10_farmer 87 = .ok (.aload_n 0, 1) := by decide +kernel
theorem dX10_farmer_88 : decode cX10_farmer 88 = .ok (.getfield 129, 3) := by decide +kernel
theorem dX10_farmer_91 : decode cX10_farmer 91 = .ok (.iload_n 3, 1) := by decide +kernel
theorem dX10_farmer_92 : decode cX10_farmer 92 = .ok (.iastore, 1) := by decide +kernel
theorem dX10_farmer_93 : decode cX10_farmer 93 = .ok (.aload_n 0, 1) := by decide +kernel
theorem dX10_farmer_94 : decode cX10_farmer 94 = .ok (.dup, 1) := by decide +kernel
theorem dX10_farmer_95 : decode cX10_farmer 95 = .ok (.getfield 129, 3) := by decide +kernel
theorem dX10_farmer_98 : decode cX10_farmer 98 = .ok (.iconst 1, 1) := by decide +kernel
theorem dX10_farmer_99 : decode cX10_farmer 99 = .ok (.iadd, 1) := by decide +kernel
theorem dX10_farmer_100 : decode cX10_farmer 100 = .ok (.putfield 129, 3) := by decide +kernel
theorem dX10_farmer_103 : decode cX10_farmer 103 = .ok (.aload_n 0, 1) := by decide +kernel
theorem dX10_farmer_104 : decode cX10_farmer 104 = .ok (.aload_n 0, 1) := by decide +kernel
theorem dX10_farmer_105 : decode cX10_farmer 105 = .ok (.getfield 129, 3) := by decide +kernel
theorem dX10_farmer_108 : decode cX10_farmer 108 = .ok (.iconst 1, 1) := by decide +kernel
theorem dX10_farmer_109 : decode cX10_farmer 109 = .ok (.isub, 1) := by decide +kernel
theorem dX10_farmer_110 : decode cX10_farmer 110 = .ok (.invokevirtual 138, 3) := by decide +kernel
theorem dX10_farmer_113 : decode cX10_farmer 113 = .ok (.ireturn, 1) := by decide +kernel
theorem dX10_credit_0 : decode cX10_credit 0 = .ok (.aload_n 0, 1) := by decide +kernel
theorem dX10_credit_1 : decode cX10_credit 1 = .ok (.iconst 0, 1) := by decide +kernel
theorem dX10_credit_2 : decode cX10_credit 2 = .ok (.putfield 117, 3) := by decide +kernel
theorem dX10_credit_5 : decode cX10_credit 5 = .ok (.iload_n 2, 1) := by decide +kernel
theorem dX10_credit_6 : decode cX10_credit 6 = .ok (.i2l, 1) := by decide +kernel
theorem dX10_credit_7 : decode cX10_credit 7 = .ok (.lconst 1, 1) := by decide +kernel
theorem dX10_credit_8 : decode cX10_credit 8 = .ok (.ldc2_w 142, 3) := by decide +kernel
theorem dX10_credit_11 : decode cX10_credit 11 = .ok (.invokestatic 125, 3) := by decide +kernel
theorem dX10_credit_14 : decode cX10_credit 14 = .ok (.ifCond .eq 10, 3) := by decide +kernel
theorem dX10_credit_17 : decode cX10_credit 17 = .ok (.iload_n 3, 1) := by decide +kernel
theorem dX10_credit_18 : decode cX10_credit 18 = .ok (.invokestatic 144, 3) := by decide +kernel
theorem dX10_credit_21 : decode cX10_credit 21 = .ok (.ifCond .ne 9, 3) := by decide +kernel
theorem dX10_credit_24 : decode cX10_credit 24 = .ok (.aload_n 0, 1) := by decide +kernel
theorem dX10_credit_25 : decode cX10_credit 25 = .ok (.iconst (-1), 1) := by decide +kernel
theorem dX10_credit_26 : decode cX10_credit 26 = .ok (.invokevirtual 138, 3) := by decide +kernel
theorem dX10_credit_29 : decode cX10_credit 29 = .ok (.ireturn, 1) := by decide +kernel
theorem dX10_credit_30 : decode cX10_credit 30 = .ok (.aload_n 0, 1) := by decide +kernel
theorem dX10_credit_31 : decode cX10_credit 31 = .ok (.iload_n 1, 1) := by decide +kernel
theorem dX10_credit_32 : decode cX10_credit 32 = .ok (.invokevirtual 148, 3) := by decide +kernel
theorem dX10_credit_35 : decode cX10_credit 35 = .ok (.ifCond .ne 10, 3) := by decide +kernel
theorem dX10_credit_38 : decode cX10_credit 38 = .ok (.aload_n 0, 1) := by decide +kernel
theorem dX10_credit_39 : decode cX10_credit 39 = .ok (.bipush (-2), 2) := by decide +kernel
theorem dX10_credit_41 : decode cX10_credit 41 = .ok (.invokevirtual 138, 3) := by decide +kernel
theorem dX10_credit_44 : decode cX10_credit 44 = .ok (.ireturn, 1) := by decide +kernel
theorem dX10_credit_45 : decode cX10_credit 45 = .ok (.aload_n 0, 1) := by decide +kernel
theorem dX10_credit_46 : decode cX10_credit 46 = .ok (.getfield 151, 3) := by decide +kernel
theorem dX10_credit_49 : decode cX10_credit 49 = .ok (.sipush 200, 3) := by decide +kernel
theorem dX10_credit_52 : decode cX10_credit 52 = .ok (.if_icmp .ne 10, 3) := by decide +kernel
theorem dX10_credit_55 : decode cX10_credit 55 = .ok (.aload_n 0, 1) := by decide +kernel
theorem dX10_credit_56 : decode cX10_credit 56 = .ok (.bipush (-5), 2) := by decide +kernel
theorem dX10_credit_58 : decode cX10_credit 58 = .ok (.invokevirtual 138, 3) := by decide +kernel
theorem dX10_credit_61 : decode cX10_credit 61 = .ok (.ireturn, 1) := by decide +kernel
theorem dX10_credit_62 : decode cX10_credit 62 = .ok (.aload_n 0, 1) := by decide +kernel
theorem dX10_credit_63 : decode cX10_credit 63 = .ok (.getfield 19, 3) := by decide +kernel
theorem dX10_credit_66 : decode cX10_credit 66 = .ok (.aload_n 0, 1) := by decide +kernel
theorem dX10_credit_67 : decode cX10_credit 67 = .ok (.getfield 151, 3) := by decide +kernel
theorem dX10_credit_70 : decode cX10_credit 70 = .ok (.iload_n 1, 1) := by decide +kernel
theorem dX10_credit_71 : decode cX10_credit 71 = .ok (.iastore, 1) := by decide +kernel
theorem dX10_credit_72 : decode cX10_credit 72 = .ok (.aload_n 0, 1) := by decide +kernel
theorem dX10_credit_73 : decode cX10_credit 73 = .ok (.getfield 22, 3) := by decide +kernel
theorem dX10_credit_76 : decode cX10_credit 76 = .ok (.aload_n 0, 1) := by decide +kernel
theorem dX10_credit_77 : decode cX10_credit 77 = .ok (.getfield 151, 3) := by decide +kernel
theorem dX10_credit_80 : decode cX10_credit 80 = .ok (.iload_n 2, 1) := by decide +kernel
theorem dX10_credit_81 : decode cX10_credit 81 = .ok (.iastore, 1) := by decide +kernel
theorem dX10_credit_82 : decode cX10_credit 82 = .ok (.aload_n 0, 1) := by decide +kernel
theorem dX10_credit_83 : decode cX10_credit 83 = .ok (.getfield 25, 3) := by decide +kernel
theorem dX10_credit_86 : decode cX10_credit 86 = .ok (.aload_n 0, 1) := by decide +kernel
theorem dX10_credit_87 : decode cX10_credit 87 = .ok (.getfield 151, 3) := by decide +kernel
theorem dX10_credit_90 : decode cX10_credit 90 = .ok (.iload_n 3, 1) := by decide +kernel
theorem dX10_credit_91 : decode cX10_credit 91 = .ok (.iastore, 1) := by decide +kernel
theorem dX10_credit_92 : decode cX10_credit 92 = .ok (.aload_n 0, 1) := by decide +kernel
theorem dX10_credit_93 : decode cX10_credit 93 = .ok (.dup, 1) := by decide +kernel
theorem dX10_credit_94 : decode cX10_credit 94 = .ok (.getfield 151, 3) := by decide +kernel
theorem dX10_credit_97 : decode cX10_credit 97 = .ok (.iconst 1, 1) := by decide +kernel
theorem dX10_credit_98 : decode cX10_credit 98 = .ok (.iadd, 1) := by decide +kernel
theorem dX10_credit_99 : decode cX10_credit 99 = .ok (.putfield 151, 3) := by decide +kernel
theorem dX10_credit_102 : decode cX10_credit 102 = .ok (.aload_n 0, 1) := by decide +kernel
theorem dX10_credit_103 : decode cX10_credit 103 = .ok (.aload_n 0, 1) := by decide +kernel
theorem dX10_credit_104 : decode cX10_credit 104 = .ok (.getfield 151, 3) := by decide +kernel
theorem dX10_credit_107 : decode cX10_credit 107 = .ok (.invokevirtual 138, 3) := by decide +kernel
theorem dX10_credit_110 : decode cX10_credit 110 = .ok (.ireturn, 1) := by decide +kernel
theorem dX10_basket_0 : decode cX10_basket 0 = .ok (.aload_n 0, 1) := by decide +kernel
theorem dX10_basket_1 : decode cX10_basket 1 = .ok (.iconst 0, 1) := by decide +kernel
theorem dX10_basket_2 : decode cX10_basket 2 = .ok (.putfield 117, 3) := by decide +kernel
theorem dX10_basket_5 : decode cX10_basket 5 = .ok (.iload_n 2, 1) := by decide +kernel
theorem dX10_basket_6 : decode cX10_basket 6 = .ok (.i2l, 1) := by decide +kernel
theorem dX10_basket_7 : decode cX10_basket 7 = .ok (.lconst 1, 1) := by decide +kernel
theorem dX10_basket_8 : decode cX10_basket 8 = .ok (.ldc2_w 134, 3) := by decide +kernel
theorem dX10_basket_11 : decode cX10_basket 11 = .ok (.invokestatic 125, 3) := by decide +kernel
theorem dX10_basket_14 : decode cX10_basket 14 = .ok (.ifCond .eq 23, 3) := by decide +kernel
theorem dX10_basket_17 : decode cX10_basket 17 = .ok (.iload_n 3, 1) := by decide +kernel
theorem dX10_basket_18 : decode cX10_basket 18 = .ok (.i2l, 1) := by decide +kernel
theorem dX10_basket_19 : decode cX10_basket 19 = .ok (.lconst 0, 1) := by decide +kernel
theorem dX10_basket_20 : decode cX10_basket 20 = .ok (.ldc2_w 154, 3) := by decide +kernel
theorem dX10_basket_23 : decode cX10_basket 23 = .ok (.invokestatic 125, 3) := by decide +kernel
theorem dX10_basket_26 : decode cX10_basket 26 = .ok (.ifCond .eq 11, 3) := by decide +kernel
theorem dX10_basket_29 : decode cX10_basket 29 = .ok (.iload 4, 2) := by decide +kernel
theorem dX10_basket_31 : decode cX10_basket 31 = .ok (.invokestatic 144, 3) := by decide +kernel
theorem dX10_basket_34 : decode cX10_basket 34 = .ok (.ifCond .ne 9, 3) := by decide +kernel
theorem dX10_basket_37 : decode cX10_basket 37 = .ok (.aload_n 0, 1) := by decide +kernel
theorem dX10_basket_38 : decode cX10_basket 38 = .ok (.iconst (-1), 1) := by decide +kernel
theorem dX10_basket_39 : decode cX10_basket 39 = .ok (.invokevirtual 138, 3) := by decide +kernel
theorem dX10_basket_42 : decode cX10_basket 42 = .ok (.ireturn, 1) := by decide +kernel
theorem dX10_basket_43 : decode cX10_basket 43 = .ok (.aload_n 0, 1) := by decide +kernel
theorem dX10_basket_44 : decode cX10_basket 44 = .ok (.iload_n 1, 1) := by decide +kernel
theorem dX10_basket_45 : decode cX10_basket 45 = .ok (.invokevirtual 148, 3) := by decide +kernel
theorem dX10_basket_48 : decode cX10_basket 48 = .ok (.ifCond .ne 10, 3) := by decide +kernel
theorem dX10_basket_51 : decode cX10_basket 51 = .ok (.aload_n 0, 1) := by decide +kernel
theorem dX10_basket_52 : decode cX10_basket 52 = .ok (.bipush (-2), 2) := by decide +kernel
theorem dX10_basket_54 : decode cX10_basket 54 = .ok (.invokevirtual 138, 3) := by decide +kernel
theorem dX10_basket_57 : decode cX10_basket 57 = .ok (.ireturn, 1) := by decide +kernel
theorem dX10_basket_58 : decode cX10_basket 58 = .ok (.aload_n 0, 1) := by decide +kernel
theorem dX10_basket_59 : decode cX10_basket 59 = .ok (.getfield 156, 3) := by decide +kernel
theorem dX10_basket_62 : decode cX10_basket 62 = .ok (.sipush 300, 3) := by decide +kernel
theorem dX10_basket_65 : decode cX10_basket 65 = .ok (.if_icmp .ne 10, 3) := by decide +kernel
theorem dX10_basket_68 : decode cX10_basket 68 = .ok (.aload_n 0, 1) := by decide +kernel
theorem dX10_basket_69 : decode cX10_basket 69 = .ok (.bipush (-5), 2) := by decide +kernel
theorem dX10_basket_71 : decode cX10_basket 71 = .ok (.invokevirtual 138, 3) := by decide +kernel
theorem dX10_basket_74 : decode cX10_basket 74 = .ok (.ireturn, 1) := by decide +kernel
theorem dX10_basket_75 : decode cX10_basket 75 = .ok (.aload_n 0, 1) := by decide +kernel
theorem dX10_basket_76 : decode cX10_basket 76 = .ok (.getfield 28, 3) := by decide +kernel
theorem dX10_basket_79 : decode cX10_basket 79 = .ok (.aload_n 0, 1) := by decide +kernel
theorem dX10_basket_80 : decode cX10_basket 80 = .ok (.getfield 156, 3) := by decide +kernel
theorem dX10_basket_83 : decode cX10_basket 83 = .ok (.iload_n 1, 1) := by decide +kernel
theorem dX10_basket_84 : decode cX10_basket 84 = .ok (.iastore, 1) := by decide +kernel
theorem dX10_basket_85 : decode cX10_basket 85 = .ok (.aload_n 0, 1) := by decide +kernel
theorem dX10_basket_86 : decode cX10_basket 86 = .ok (.getfield 31, 3) := by decide +kernel
theorem dX10_basket_89 : decode cX10_basket 89 = .ok (.aload_n 0, 1) := by decide +kernel
theorem dX10_basket_90 : decode cX10_basket 90 = .ok (.getfield 156, 3) := by decide +kernel
theorem dX10_basket_93 : decode cX10_basket 93 = .ok (.iload_n 2, 1) := by decide +kernel
theorem dX10_basket_94 : decode cX10_basket 94 = .ok (.iastore, 1) := by decide +kernel
theorem dX10_basket_95 : decode cX10_basket 95 = .ok (.aload_n 0, 1) := by decide +kernel
theorem dX10_basket_96 : decode cX10_basket 96 = .ok (.getfield 34, 3) := by decide +kernel
theorem dX10_basket_99 : decode cX10_basket 99 = .ok (.aload_n 0, 1) := by decide +kernel
theorem dX10_basket_100 : decode cX10_basket 100 = .ok (.getfield 156, 3) := by decide +kernel
theorem dX10_basket_103 : decode cX10_basket 103 = .ok (.iload_n 3, 1) := by decide +kernel
theorem dX10_basket_104 : decode cX10_basket 104 = .ok (.iastore, 1) := by decide +kernel
theorem dX10_basket_105 : decode cX10_basket 105 = .ok (.aload_n 0, 1) := by decide +kernel
theorem dX10_basket_106 : decode cX10_basket 106 = .ok (.getfield 37, 3) := by decide +kernel
theorem dX10_basket_109 : decode cX10_basket 109 = .ok (.aload_n 0, 1) := by decide +kernel
theorem dX10_basket_110 : decode cX10_basket 110 = .ok (.getfield 156, 3) := by decide +kernel
theorem dX10_basket_113 : decode cX10_basket 113 = .ok (.iload 4, 2) := by decide +kernel
theorem dX10_basket_115 : decode cX10_basket 115 = .ok (.iastore, 1) := by decide +kernel
theorem dX10_basket_116 : decode cX10_basket 116 = .ok (.aload_n 0, 1) := by decide +kernel
theorem dX10_basket_117 : decode cX10_basket 117 = .ok (.dup, 1) := by decide +kernel
theorem dX10_basket_118 : decode cX10_basket 118 = .ok (.getfield 156, 3) := by decide +kernel
theorem dX10_basket_121 : decode cX10_basket 121 = .ok (.iconst 1, 1) := by decide +kernel
theorem dX10_basket_122 : decode cX10_basket 122 = .ok (.iadd, 1) := by decide +kernel
theorem dX10_basket_123 : decode cX10_basket 123 = .ok (.putfield 156, 3) := by decide +kernel
theorem dX10_basket_126 : decode cX10_basket 126 = .ok (.aload_n 0, 1) := by decide +kernel
theorem dX10_basket_127 : decode cX10_basket 127 = .ok (.aload_n 0, 1) := by decide +kernel
theorem dX10_basket_128 : decode cX10_basket 128 = .ok (.getfield 156, 3) := by decide +kernel
theorem dX10_basket_131 : decode cX10_basket 131 = .ok (.invokevirtual 138, 3) := by decide +kernel
theorem dX10_basket_134 : decode cX10_basket 134 = .ok (.ireturn, 1) := by decide +kernel
theorem dX10_four_0 : decode cX10_four 0 = .ok (.bipush 24, 2) := by decide +kernel
theorem dX10_four_2 : decode cX10_four 2 = .ok (.istore_n 2, 1) := by decide +kernel
theorem dX10_four_3 : decode cX10_four 3 = .ok (.iload_n 2, 1) := by decide +kernel
theorem dX10_four_4 : decode cX10_four 4 = .ok (.ifCond .lt 35, 3) := by decide +kernel
theorem dX10_four_7 : decode cX10_four 7 = .ok (.aload_n 0, 1) := by decide +kernel
theorem dX10_four_8 : decode cX10_four 8 = .ok (.getfield 62, 3) := by decide +kernel
theorem dX10_four_11 : decode cX10_four 11 = .ok (.aload_n 0, 1) := by decide +kernel
theorem dX10_four_12 : decode cX10_four 12 = .ok (.getfield 159, 3) := by decide +kernel
theorem dX10_four_15 : decode cX10_four 15 = .ok (.iload_n 1, 1) := by decide +kernel
theorem dX10_four_16 : decode cX10_four 16 = .ok (.iload_n 2, 1) := by decide +kernel
theorem dX10_four_17 : decode cX10_four 17 = .ok (.ishr, 1) := by decide +kernel
theorem dX10_four_18 : decode cX10_four 18 = .ok (.sipush 255, 3) := by decide +kernel
theorem dX10_four_21 : decode cX10_four 21 = .ok (.iand, 1) := by decide +kernel
theorem dX10_four_22 : decode cX10_four 22 = .ok (.iastore, 1) := by decide +kernel
theorem dX10_four_23 : decode cX10_four 23 = .ok (.aload_n 0, 1) := by decide +kernel
theorem dX10_four_24 : decode cX10_four 24 = .ok (.dup, 1) := by decide +kernel
theorem dX10_four_25 : decode cX10_four 25 = .ok (.getfield 159, 3) := by decide +kernel
theorem dX10_four_28 : decode cX10_four 28 = .ok (.iconst 1, 1) := by decide +kernel
theorem dX10_four_29 : decode cX10_four 29 = .ok (.iadd, 1) := by decide +kernel
theorem dX10_four_30 : decode cX10_four 30 = .ok (.putfield 159, 3) := by decide +kernel
theorem dX10_four_33 : decode cX10_four 33 = .ok (.iinc 2 (-8), 3) := by decide +kernel
theorem dX10_four_36 : decode cX10_four 36 = .ok (.goto (-33), 3) := by decide +kernel
theorem dX10_four_39 : decode cX10_four 39 = .ok (.return_, 1) := by decide +kernel
theorem dX10_feed_0 : decode cX10_feed 0 = .ok (.aload_n 0, 1) := by decide +kernel
theorem dX10_feed_1 : decode cX10_feed 1 = .ok (.iconst 0, 1) := by decide +kernel
theorem dX10_feed_2 : decode cX10_feed 2 = .ok (.putfield 117, 3) := by decide +kernel
theorem dX10_feed_5 : decode cX10_feed 5 = .ok (.aload_n 0, 1) := by decide +kernel
theorem dX10_feed_6 : decode cX10_feed 6 = .ok (.getfield 159, 3) := by decide +kernel
theorem dX10_feed_9 : decode cX10_feed 9 = .ok (.bipush 20, 2) := by decide +kernel
theorem dX10_feed_11 : decode cX10_feed 11 = .ok (.iadd, 1) := by decide +kernel
theorem dX10_feed_12 : decode cX10_feed 12 = .ok (.sipush 200, 3) := by decide +kernel
theorem dX10_feed_15 : decode cX10_feed 15 = .ok (.if_icmp .le 5, 3) := by decide +kernel
theorem dX10_feed_18 : decode cX10_feed 18 = .ok (.iconst (-1), 1) := by decide +kernel
theorem dX10_feed_19 : decode cX10_feed 19 = .ok (.ireturn, 1) := by decide +kernel
theorem dX10_feed_20 : decode cX10_feed 20 = .ok (.aload_n 0, 1) := by decide +kernel
theorem dX10_feed_21 : decode cX10_feed 21 = .ok (.iload_n 1, 1) := by decide +kernel
theorem dX10_feed_22 : decode cX10_feed 22 = .ok (.invokevirtual 162, 3) := by decide +kernel
theorem dX10_feed_25 : decode cX10_feed 25 = .ok (.aload_n 0, 1) := by decide +kernel
theorem dX10_feed_26 : decode cX10_feed 26 = .ok (.iload_n 2, 1) := by decide +kernel
theorem dX10_feed_27 : decode cX10_feed 27 = .ok (.invokevirtual 162, 3) := by decide +kernel
theorem dX10_feed_30 : decode cX10_feed 30 = .ok (.aload_n 0, 1) := by decide +kernel
theorem dX10_feed_31 : decode cX10_feed 31 = .ok (.iload_n 3, 1) := by decide +kernel
theorem dX10_feed_32 : decode cX10_feed 32 = .ok (.invokevirtual 162, 3) := by decide +kernel
theorem dX10_feed_35 : decode cX10_feed 35 = .ok (.aload_n 0, 1) := by decide +kernel
theorem dX10_feed_36 : decode cX10_feed 36 = .ok (.iload 4, 2) := by decide +kernel
theorem dX10_feed_38 : decode cX10_feed 38 = .ok (.invokevirtual 162, 3) := by decide +kernel
theorem dX10_feed_41 : decode cX10_feed 41 = .ok (.aload_n 0, 1) := by decide +kernel
theorem dX10_feed_42 : decode cX10_feed 42 = .ok (.iload 5, 2) := by decide +kernel
theorem dX10_feed_44 : decode cX10_feed 44 = .ok (.invokevirtual 162, 3) := by decide +kernel
theorem dX10_feed_47 : decode cX10_feed 47 = .ok (.aload_n 0, 1) := by decide +kernel
theorem dX10_feed_48 : decode cX10_feed 48 = .ok (.getfield 159, 3) := by decide +kernel
theorem dX10_feed_51 : decode cX10_feed 51 = .ok (.ireturn, 1) := by decide +kernel
theorem dX10_end_0 : decode cX10_end 0 = .ok (.aload_n 0, 1) := by decide +kernel
theorem dX10_end_1 : decode cX10_end 1 = .ok (.iconst 0, 1) := by decide +kernel
theorem dX10_end_2 : decode cX10_end 2 = .ok (.putfield 117, 3) := by decide +kernel
theorem dX10_end_5 : decode cX10_end 5 = .ok (.iload_n 1, 1) := by decide +kernel
theorem dX10_end_6 : decode cX10_end 6 = .ok (.ifCond .lt 11, 3) := by decide +kernel
theorem dX10_end_9 : decode cX10_end 9 = .ok (.iload_n 1, 1) := by decide +kernel
theorem dX10_end_10 : decode cX10_end 10 = .ok (.aload_n 0, 1) := by decide +kernel
theorem dX10_end_11 : decode cX10_end 11 = .ok (.getfield 159, 3) := by decide +kernel
theorem dX10_end_14 : decode cX10_end 14 = .ok (.if_icmp .le 5, 3) := by decide +kernel
theorem dX10_end_17 : decode cX10_end 17 = .ok (.iconst (-1), 1) := by decide +kernel
theorem dX10_end_18 : decode cX10_end 18 = .ok (.ireturn, 1) := by decide +kernel
theorem dX10_end_19 : decode cX10_end 19 = .ok (.aload_n 0, 1) := by decide +kernel
theorem dX10_end_20 : decode cX10_end 20 = .ok (.iload_n 1, 1) := by decide +kernel
theorem dX10_end_21 : decode cX10_end 21 = .ok (.putfield 159, 3) := by decide +kernel
theorem dX10_end_24 : decode cX10_end 24 = .ok (.iload_n 1, 1) := by decide +kernel
theorem dX10_end_25 : decode cX10_end 25 = .ok (.ireturn, 1) := by decide +kernel
theorem dX10_isSmall_0 : decode cX10_isSmall 0 = .ok (.iload_n 0, 1) := by decide +kernel
theorem dX10_isSmall_1 : decode cX10_isSmall 1 = .ok (.bipush 97, 2) := by decide +kernel
theorem dX10_isSmall_3 : decode cX10_isSmall 3 = .ok (.if_icmp .lt 13, 3) := by decide +kernel
theorem dX10_isSmall_6 : decode cX10_isSmall 6 = .ok (.iload_n 0, 1) := by decide +kernel
theorem dX10_isSmall_7 : decode cX10_isSmall 7 = .ok (.bipush 122, 2) := by decide +kernel
theorem dX10_isSmall_9 : decode cX10_isSmall 9 = .ok (.if_icmp .gt 7, 3) := by decide +kernel
theorem dX10_isSmall_12 : decode cX10_isSmall 12 = .ok (.iconst 1, 1) := by decide +kernel
theorem dX10_isSmall_13 : decode cX10_isSmall 13 = .ok (.goto 4, 3) := by decide +kernel
theorem dX10_isSmall_16 : decode cX10_isSmall 16 = .ok (.iconst 0, 1) := by decide +kernel
theorem dX10_isSmall_17 : decode cX10_isSmall 17 = .ok (.ireturn, 1) := by decide +kernel
theorem dX10_isDigit_0 : decode cX10_isDigit 0 = .ok (.iload_n 0, 1) := by decide +kernel
theorem dX10_isDigit_1 : decode cX10_isDigit 1 = .ok (.bipush 48, 2) := by decide +kernel
theorem dX10_isDigit_3 : decode cX10_isDigit 3 = .ok (.if_icmp .lt 13, 3) := by decide +kernel
theorem dX10_isDigit_6 : decode cX10_isDigit 6 = .ok (.iload_n 0, 1) := by decide +kernel
theorem dX10_isDigit_7 : decode cX10_isDigit 7 = .ok (.bipush 57, 2) := by decide +kernel
theorem dX10_isDigit_9 : decode cX10_isDigit 9 = .ok (.if_icmp .gt 7, 3) := by decide +kernel
theorem dX10_isDigit_12 : decode cX10_isDigit 12 = .ok (.iconst 1, 1) := by decide +kernel
theorem dX10_isDigit_13 : decode cX10_isDigit 13 = .ok (.goto 4, 3) := by decide +kernel
theorem dX10_isDigit_16 : decode cX10_isDigit 16 = .ok (.iconst 0, 1) := by decide +kernel
theorem dX10_isDigit_17 : decode cX10_isDigit 17 = .ok (.ireturn, 1) := by decide +kernel
theorem dX10_next_0 : decode cX10_next 0 = .ok (.aload_n 0, 1) := by decide +kernel
theorem dX10_next_1 : decode cX10_next 1 = .ok (.aload_n 0, 1) := by decide +kernel
theorem dX10_next_2 : decode cX10_next 2 = .ok (.getfield 166, 3) := by decide +kernel
theorem dX10_next_5 : decode cX10_next 5 = .ok (.putfield 169, 3) := by decide +kernel
theorem dX10_next_8 : decode cX10_next 8 = .ok (.aload_n 0, 1) := by decide +kernel
theorem dX10_next_9 : decode cX10_next 9 = .ok (.getfield 169, 3) := by decide +kernel
theorem dX10_next_12 : decode cX10_next 12 = .ok (.aload_n 0, 1) := by decide +kernel
theorem dX10_next_13 : decode cX10_next 13 = .ok (.getfield 159, 3) := by decide +kernel
theorem dX10_next_16 : decode cX10_next 16 = .ok (.if_icmp .ge 30, 3) := by decide +kernel
theorem dX10_next_19 : decode cX10_next 19 = .ok (.aload_n 0, 1) := by decide +kernel
theorem dX10_next_20 : decode cX10_next 20 = .ok (.getfield 62, 3) := by decide +kernel
theorem dX10_next_23 : decode cX10_next 23 = .ok (.aload_n 0, 1) := by decide +kernel
theorem dX10_next_24 : decode cX10_next 24 = .ok (.getfield 169, 3) := by decide +kernel
theorem dX10_next_27 : decode cX10_next 27 = .ok (.iaload, 1) := by decide +kernel
theorem dX10_next_28 : decode cX10_next 28 = .ok (.bipush 32, 2) := by decide +kernel
theorem dX10_next_30 : decode cX10_next 30 = .ok (.if_icmp .ne 16, 3) := by decide +kernel
theorem dX10_next_33 : decode cX10_next 33 = .ok (.aload_n 0, 1) := by decide +kernel
theorem dX10_next_34 : decode cX10_next 34 = .ok (.dup, 1) := by decide +kernel
theorem dX10_next_35 : decode cX10_next 35 = .ok (.getfield 169, 3) := by decide +kernel
theorem dX10_next_38 : decode cX10_next 38 = .ok (.iconst 1, 1) := by decide +kernel
theorem dX10_next_39 : decode cX10_next 39 = .ok (.iadd, 1) := by decide +kernel
theorem dX10_next_40 : decode cX10_next 40 = .ok (.putfield 169, 3) := by decide +kernel
theorem dX10_next_43 : decode cX10_next 43 = .ok (.goto (-35), 3) := by decide +kernel
theorem dX10_next_46 : decode cX10_next 46 = .ok (.aload_n 0, 1) := by decide +kernel
theorem dX10_next_47 : decode cX10_next 47 = .ok (.aload_n 0, 1) := by decide +kernel
theorem dX10_next_48 : decode cX10_next 48 = .ok (.getfield 169, 3) := by decide +kernel
theorem dX10_next_51 : decode cX10_next 51 = .ok (.putfield 166, 3) := by decide +kernel
theorem dX10_next_54 : decode cX10_next 54 = .ok (.aload_n 0, 1) := by decide +kernel
theorem dX10_next_55 : decode cX10_next 55 = .ok (.lconst 0, 1) := by decide +kernel
theorem dX10_next_56 : decode cX10_next 56 = .ok (.putfield 172, 3) := by decide +kernel
theorem dX10_next_59 : decode cX10_next 59 = .ok (.aload_n 0, 1) := by decide +kernel
theorem dX10_next_60 : decode cX10_next 60 = .ok (.aload_n 0, 1) := by decide +kernel
theorem dX10_next_61 : decode cX10_next 61 = .ok (.getfield 169, 3) := by decide +kernel
theorem dX10_next_64 : decode cX10_next 64 = .ok (.aload_n 0, 1) := by decide +kernel
theorem dX10_next_65 : decode cX10_next 65 = .ok (.getfield 159, 3) := by decide +kernel
theorem dX10_next_68 : decode cX10_next 68 = .ok (.if_icmp .ne 7, 3) := by decide +kernel
theorem dX10_next_71 : decode cX10_next 71 = .ok (.iconst 0, 1) := by decide +kernel
theorem dX10_next_72 : decode cX10_next 72 = .ok (.goto 42, 3) := by decide +kernel
theorem dX10_next_75 : decode cX10_next 75 = .ok (.aload_n 0, 1) := by decide +kernel
theorem dX10_next_76 : decode cX10_next 76 = .ok (.getfield 62, 3) := by decide +kernel
theorem dX10_next_79 : decode cX10_next 79 = .ok (.aload_n 0, 1) := by decide +kernel
theorem dX10_next_80 : decode cX10_next 80 = .ok (.getfield 169, 3) := by decide +kernel
theorem dX10_next_83 : decode cX10_next 83 = .ok (.iaload, 1) := by decide +kernel
theorem dX10_next_84 : decode cX10_next 84 = .ok (.invokestatic 176, 3) := by decide +kernel
theorem dX10_next_87 : decode cX10_next 87 = .ok (.ifCond .eq 7, 3) := by decide +kernel
theorem dX10_next_90 : decode cX10_next 90 = .ok (.iconst 1, 1) := by decide +kernel
theorem dX10_next_91 : decode cX10_next 91 = .ok (.goto 23, 3) := by decide +kernel
theorem dX10_next_94 : decode cX10_next 94 = .ok (.aload_n 0, 1) := by decide +kernel
theorem dX10_next_95 : decode cX10_next 95 = .ok (.getfield 62, 3) := by decide +kernel
theorem dX10_next_98 : decode cX10_next 98 = .ok (.aload_n 0, 1) := by decide +kernel
theorem dX10_next_99 : decode cX10_next 99 = .ok (.getfield 169, 3) := by decide +kernel
theorem dX10_next_102 : decode cX10_next 102 = .ok (.iaload, 1) := by decide +kernel
theorem dX10_next_103 : decode cX10_next 103 = .ok (.invokestatic 179, 3) := by decide +kernel
theorem dX10_next_106 : decode cX10_next 106 = .ok (.ifCond .eq 7, 3) := by decide +kernel
theorem dX10_next_109 : decode cX10_next 109 = .ok (.iconst 2, 1) := by decide +kernel
theorem dX10_next_110 : decode cX10_next 110 = .ok (.goto 4, 3) := by decide +kernel
theorem dX10_next_113 : decode cX10_next 113 = .ok (.iconst 3, 1) := by decide +kernel
theorem dX10_next_114 : decode cX10_next 114 = .ok (.putfield 182, 3) := by decide +kernel
theorem dX10_next_117 : decode cX10_next 117 = .ok (.aload_n 0, 1) := by decide +kernel
theorem dX10_next_118 : decode cX10_next 118 = .ok (.getfield 182, 3) := by decide +kernel
theorem dX10_next_121 : decode cX10_next 121 = .ok (.iconst 3, 1) := by decide +kernel
theorem dX10_next_122 : decode cX10_next 122 = .ok (.if_icmp .ne 27, 3) := by decide +kernel
theorem dX10_next_125 : decode cX10_next 125 = .ok (.aload_n 0, 1) := by decide +kernel
theorem dX10_next_126 : decode cX10_next 126 = .ok (.aload_n 0, 1) := by decide +kernel
theorem dX10_next_127 : decode cX10_next 127 = .ok (.getfield 62, 3) := by decide +kernel
theorem dX10_next_130 : decode cX10_next 130 = .ok (.aload_n 0, 1) := by decide +kernel
theorem dX10_next_131 : decode cX10_next 131 = .ok (.getfield 169, 3) := by decide +kernel
theorem dX10_next_134 : decode cX10_next 134 = .ok (.iaload, 1) := by decide +kernel
theorem dX10_next_135 : decode cX10_next 135 = .ok (.i2l, 1) := by decide +kernel
theorem dX10_next_136 : decode cX10_next 136 = .ok (.putfield 172, 3) := by decide +kernel
theorem dX10_next_139 : decode cX10_next 139 = .ok (.aload_n 0, 1) := by decide +kernel
theorem dX10_next_140 : decode cX10_next 140 = .ok (.dup, 1) := by decide +kernel
theorem dX10_next_141 : decode cX10_next 141 = .ok (.getfield 166, 3) := by decide +kernel
theorem dX10_next_144 : decode cX10_next 144 = .ok (.iconst 1, 1) := by decide +kernel
theorem dX10_next_145 : decode cX10_next 145 = .ok (.iadd, 1) := by decide +kernel
theorem dX10_next_146 : decode cX10_next 146 = .ok (.putfield 166, 3) := by decide +kernel
theorem dX10_next_149 : decode cX10_next 149 = .ok (.aload_n 0, 1) := by decide +kernel
theorem dX10_next_150 : decode cX10_next 150 = .ok (.getfield 182, 3) := by decide +kernel
theorem dX10_next_153 : decode cX10_next 153 = .ok (.iconst 1, 1) := by decide +kernel
theorem dX10_next_154 : decode cX10_next 154 = .ok (.if_icmp .ne 89, 3) := by decide +kernel
theorem dX10_next_157 : decode cX10_next 157 = .ok (.aload_n 0, 1) := by decide +kernel
theorem dX10_next_158 : decode cX10_next 158 = .ok (.getfield 166, 3) := by decide +kernel
theorem dX10_next_161 : decode cX10_next 161 = .ok (.aload_n 0, 1) := by decide +kernel
theorem dX10_next_162 : decode cX10_next 162 = .ok (.getfield 159, 3) := by decide +kernel
theorem dX10_next_165 : decode cX10_next 165 = .ok (.if_icmp .ge 78, 3) := by decide +kernel
theorem dX10_next_168 : decode cX10_next 168 = .ok (.aload_n 0, 1) := by decide +kernel
theorem dX10_next_169 : decode cX10_next 169 = .ok (.getfield 62, 3) := by decide +kernel
theorem dX10_next_172 : decode cX10_next 172 = .ok (.aload_n 0, 1) := by decide +kernel
theorem dX10_next_173 : decode cX10_next 173 = .ok (.getfield 166, 3) := by decide +kernel
theorem dX10_next_176 : decode cX10_next 176 = .ok (.iaload, 1) := by decide +kernel
theorem dX10_next_177 : decode cX10_next 177 = .ok (.invokestatic 176, 3) := by decide +kernel
theorem dX10_next_180 : decode cX10_next 180 = .ok (.ifCond .eq 63, 3) := by decide +kernel
theorem dX10_next_183 : decode cX10_next 183 = .ok (.aload_n 0, 1) := by decide +kernel
theorem dX10_next_184 : decode cX10_next 184 = .ok (.aload_n 0, 1) := by decide +kernel
theorem dX10_next_185 : decode cX10_next 185 = .ok (.getfield 166, 3) := by decide +kernel
theorem dX10_next_188 : decode cX10_next 188 = .ok (.aload_n 0, 1) := by decide +kernel
theorem dX10_next_189 : decode cX10_next 189 = .ok (.getfield 169, 3) := by decide +kernel
theorem dX10_next_192 : decode cX10_next 192 = .ok (.isub, 1) := by decide +kernel
theorem dX10_next_193 : decode cX10_next 193 = .ok (.bipush 6, 2) := by decide +kernel
theorem dX10_next_195 : decode cX10_next 195 = .ok (.if_icmp .ge 29, 3) := by decide +kernel
theorem dX10_next_198 : decode cX10_next 198 = .ok (.aload_n 0, 1) := by decide +kernel
theorem dX10_next_199 : decode cX10_next 199 = .ok (.getfield 172, 3) := by decide +kernel
theorem dX10_next_202 : decode cX10_next 202 = .ok (.ldc2_w 185, 3) := by decide +kernel
theorem dX10_next_205 : decode cX10_next 205 = .ok (.lmul, 1) := by decide +kernel
theorem dX10_next_206 : decode cX10_next 206 = .ok (.aload_n 0, 1) := by decide +kernel
theorem dX10_next_207 : decode cX10_next 207 = .ok (.getfield 62, 3) := by decide +kernel
theorem dX10_next_210 : decode cX10_next 210 = .ok (.aload_n 0, 1) := by decide +kernel
theorem dX10_next_211 : decode cX10_next 211 = .ok (.getfield 166, 3) := by decide +kernel
theorem dX10_next_214 : decode cX10_next 214 = .ok (.iaload, 1) := by decide +kernel
theorem dX10_next_215 : decode cX10_next 215 = .ok (.i2l, 1) := by decide +kernel
theorem dX10_next_216 : decode cX10_next 216 = .ok (.ladd, 1) := by decide +kernel
theorem dX10_next_217 : decode cX10_next 217 = .ok (.ldc2_w 187, 3) := by decide +kernel
theorem dX10_next_220 : decode cX10_next 220 = .ok (.lsub, 1) := by decide +kernel
theorem dX10_next_221 : decode cX10_next 221 = .ok (.goto 6, 3) := by decide +kernel
theorem dX10_next_224 : decode cX10_next 224 = .ok (.ldc2_w 189, 3) := by decide +kernel
theorem dX10_next_227 : decode cX10_next 227 = .ok (.putfield 172, 3) := by decide +kernel
theorem dX10_next_230 : decode cX10_next 230 = .ok (.aload_n 0, 1) := by decide +kernel
theorem dX10_next_231 : decode cX10_next 231 = .ok (.dup, 1) := by decide +kernel
theorem dX10_next_232 : decode cX10_next 232 = .ok (.getfield 166, 3) := by decide +kernel
theorem dX10_next_235 : decode cX10_next 235 = .ok (.iconst 1, 1) := by decide +kernel
theorem dX10_next_236 : decode cX10_next 236 = .ok (.iadd, 1) := by decide +kernel
theorem dX10_next_237 : decode cX10_next 237 = .ok (.putfield 166, 3) := by decide +kernel
theorem dX10_next_240 : decode cX10_next 240 = .ok (.goto (-91), 3) := by decide +kernel
theorem dX10_next_243 : decode cX10_next 243 = .ok (.aload_n 0, 1) := by decide +kernel
theorem dX10_next_244 : decode cX10_next 244 = .ok (.getfield 182, 3) := by decide +kernel
theorem dX10_next_247 : decode cX10_next 247 = .ok (.iconst 2, 1) := by decide +kernel
theorem dX10_next_248 : decode cX10_next 248 = .ok (.if_icmp .ne 87, 3) := by decide +kernel
theorem dX10_next_251 : decode cX10_next 251 = .ok (.aload_n 0, 1) := by decide +kernel
theorem dX10_next_252 : decode cX10_next 252 = .ok (.getfield 166, 3) := by decide +kernel
theorem dX10_next_255 : decode cX10_next 255 = .ok (.aload_n 0, 1) := by decide +kernel
theorem dX10_next_256 : decode cX10_next 256 = .ok (.getfield 159, 3) := by decide +kernel
theorem dX10_next_259 : decode cX10_next 259 = .ok (.if_icmp .ge 76, 3) := by decide +kernel
theorem dX10_next_262 : decode cX10_next 262 = .ok (.aload_n 0, 1) := by decide +kernel
theorem dX10_next_263 : decode cX10_next 263 = .ok (.getfield 62, 3) := by decide +kernel
theorem dX10_next_266 : decode cX10_next 266 = .ok (.aload_n 0, 1) := by decide +kernel
theorem dX10_next_267 : decode cX10_next 267 = .ok (.getfield 166, 3) := by decide +kernel
theorem dX10_next_270 : decode cX10_next 270 = .ok (.iaload, 1) := by decide +kernel
theorem dX10_next_271 : decode cX10_next 271 = .ok (.invokestatic 179, 3) := by decide +kernel
theorem dX10_next_274 : decode cX10_next 274 = .ok (.ifCond .eq 61, 3) := by decide +kernel
theorem dX10_next_277 : decode cX10_next 277 = .ok (.aload_n 0, 1) := by decide +kernel
theorem dX10_next_278 : decode cX10_next 278 = .ok (.aload_n 0, 1) := by decide +kernel
theorem dX10_next_279 : decode cX10_next 279 = .ok (.getfield 172, 3) := by decide +kernel
theorem dX10_next_282 : decode cX10_next 282 = .ok (.ldc2_w 191, 3) := by decide +kernel
theorem dX10_next_285 : decode cX10_next 285 = .ok (.lcmp, 1) := by decide +kernel
theorem dX10_next_286 : decode cX10_next 286 = .ok (.ifCond .le 10, 3) := by decide +kernel
theorem dX10_next_289 : decode cX10_next 289 = .ok (.aload_n 0, 1) := by decide +kernel
theorem dX10_next_290 : decode cX10_next 290 = .ok (.getfield 172, 3) := by decide +kernel
theorem dX10_next_293 : decode cX10_next 293 = .ok (.goto 26, 3) := by decide +kernel
theorem dX10_next_296 : decode cX10_next 296 = .ok (.aload_n 0, 1) := by decide +kernel
theorem dX10_next_297 : decode cX10_next 297 = .ok (.getfield 172, 3) := by decide +kernel
theorem dX10_next_300 : decode cX10_next 300 = .ok (.ldc2_w 193, 3) := by decide +kernel
theorem dX10_next_303 : decode cX10_next 303 = .ok (.lmul, 1) := by decide +kernel
theorem dX10_next_304 : decode cX10_next 304 = .ok (.aload_n 0, 1) := by decide +kernel
theorem dX10_next_305 : decode cX10_next 305 = .ok (.getfield 62, 3) := by decide +kernel
theorem dX10_next_308 : decode cX10_next 308 = .ok (.aload_n 0, 1) := by decide +kernel
theorem dX10_next_309 : decode cX10_next 309 = .ok (.getfield 166, 3) := by decide +kernel
theorem dX10_next_312 : decode cX10_next 312 = .ok (.iaload, 1) := by decide +kernel
theorem dX10_next_313 : decode cX10_next 313 = .ok (.i2l, 1) := by decide +kernel
theorem dX10_next_314 : decode cX10_next 314 = .ok (.ladd, 1) := by decide +kernel
theorem dX10_next_315 : decode cX10_next 315 = .ok (.ldc2_w 195, 3) := by decide +kernel
theorem dX10_next_318 : decode cX10_next 318 = .ok (.lsub, 1) := by decide +kernel
theorem dX10_next_319 : decode cX10_next 319 = .ok (.putfield 172, 3) := by decide +kernel
theorem dX10_next_322 : decode cX10_next 322 = .ok (.aload_n 0, 1) := by decide +kernel
theorem dX10_next_323 : decode cX10_next 323 = .ok (.dup, 1) := by decide +kernel
theorem dX10_next_324 : decode cX10_next 324 = .ok (.getfield 166, 3) := by decide +kernel
theorem dX10_next_327 : decode cX10_next 327 = .ok (.iconst 1, 1) := by decide +kernel
theorem dX10_next_328 : decode cX10_next 328 = .ok (.iadd, 1) := by decide +kernel
theorem dX10_next_329 : decode cX10_next 329 = .ok (.putfield 166, 3) := by decide +kernel
theorem dX10_next_332 : decode cX10_next 332 = .ok (.goto (-89), 3) := by decide +kernel
theorem dX10_next_335 : decode cX10_next 335 = .ok (.return_, 1) := by decide +kernel
theorem dX10_isWord_0 : decode cX10_isWord 0 = .ok (.iload_n 1, 1) := by decide +kernel
theorem dX10_isWord_1 : decode cX10_isWord 1 = .ok (.i2l, 1) := by decide +kernel
theorem dX10_isWord_2 : decode cX10_isWord 2 = .ok (.ldc2_w 187, 3) := by decide +kernel
theorem dX10_isWord_5 : decode cX10_isWord 5 = .ok (.lsub, 1) := by decide +kernel
theorem dX10_isWord_6 : decode cX10_isWord 6 = .ok (.ldc2_w 185, 3) := by decide +kernel
theorem dX10_isWord_9 : decode cX10_isWord 9 = .ok (.lmul, 1) := by decide +kernel
theorem dX10_isWord_10 : decode cX10_isWord 10 = .ok (.iload_n 2, 1) := by decide +kernel
theorem dX10_isWord_11 : decode cX10_isWord 11 = .ok (.i2l, 1) := by decide +kernel
theorem dX10_isWord_12 : decode cX10_isWord 12 = .ok (.ladd, 1) := by decide +kernel
theorem dX10_isWord_13 : decode cX10_isWord 13 = .ok (.ldc2_w 187, 3) := by decide +kernel
theorem dX10_isWord_16 : decode cX10_isWord 16 = .ok (.lsub, 1) := by decide +kernel
theorem dX10_isWord_17 : decode cX10_isWord 17 = .ok (.lstore 6, 2) := by decide +kernel
theorem dX10_isWord_19 : decode cX10_isWord 19 = .ok (.iload_n 3, 1) := by decide +kernel
theorem dX10_isWord_20 : decode cX10_isWord 20 = .ok (.ifCond .ne 8, 3) := by decide +kernel
theorem dX10_isWord_23 : decode cX10_isWord 23 = .ok (.lload 6, 2) := by decide +kernel
theorem dX10_isWord_25 : decode cX10_isWord 25 = .ok (.goto 16, 3) := by decide +kernel
theorem dX10_isWord_28 : decode cX10_isWord 28 = .ok (.lload 6, 2) := by decide +kernel
theorem dX10_isWord_30 : decode cX10_isWord 30 = .ok (.ldc2_w 185, 3) := by decide +kernel
theorem dX10_isWord_33 : decode cX10_isWord 33 = .ok (.lmul, 1) := by decide +kernel
theorem dX10_isWord_34 : decode cX10_isWord 34 = .ok (.iload_n 3, 1) := by decide +kernel
theorem dX10_isWord_35 : decode cX10_isWord 35 = .ok (.i2l, 1) := by decide +kernel
theorem dX10_isWord_36 : decode cX10_isWord 36 = .ok (.ladd, 1) := by decide +kernel
theorem dX10_isWord_37 : decode cX10_isWord 37 = .ok (.ldc2_w 187, 3) := by decide +kernel
theorem dX10_isWord_40 : decode cX10_isWord 40 = .ok (.lsub, 1) := by decide +kernel
theorem dX10_isWord_41 : decode cX10_isWord 41 = .ok (.lstore 6, 2) := by decide +kernel
theorem dX10_isWord_43 : decode cX10_isWord 43 = .ok (.iload 4, 2) := by decide +kernel
theorem dX10_isWord_45 : decode cX10_isWord 45 = .ok (.ifCond .ne 8, 3) := by decide +kernel
theorem dX10_isWord_48 : decode cX10_isWord 48 = .ok (.lload 6, 2) := by decide +kernel
theorem dX10_isWord_50 : decode cX10_isWord 50 = .ok (.goto 17, 3) := by decide +kernel
theorem dX10_isWord_53 : decode cX10_isWord 53 = .ok (.lload 6, 2) := by decide +kernel
theorem dX10_isWord_55 : decode cX10_isWord 55 = .ok (.ldc2_w 185, 3) := by decide +kernel
theorem dX10_isWord_58 : decode cX10_isWord 58 = .ok (.lmul, 1) := by decide +kernel
theorem dX10_isWord_59 : decode cX10_isWord 59 = .ok (.iload 4, 2) := by decide +kernel
theorem dX10_isWord_61 : decode cX10_isWord 61 = .ok (.i2l, 1) := by decide +kernel
theorem dX10_isWord_62 : decode cX10_isWord 62 = .ok (.ladd, 1) := by decide +kernel
theorem dX10_isWord_63 : decode cX10_isWord 63 = .ok (.ldc2_w 187, 3) := by decide +kernel
theorem dX10_isWord_66 : decode cX10_isWord 66 = .ok (.lsub, 1) := by decide +kernel
theorem dX10_isWord_67 : decode cX10_isWord 67 = .ok (.lstore 6, 2) := by decide +kernel
theorem dX10_isWord_69 : decode cX10_isWord 69 = .ok (.iload 5, 2) := by decide +kernel
theorem dX10_isWord_71 : decode cX10_isWord 71 = .ok (.ifCond .ne 8, 3) := by decide +kernel
theorem dX10_isWord_74 : decode cX10_isWord 74 = .ok (.lload 6, 2) := by decide +kernel
theorem dX10_isWord_76 : decode cX10_isWord 76 = .ok (.goto 17, 3) := by decide +kernel
theorem dX10_isWord_79 : decode cX10_isWord 79 = .ok (.lload 6, 2) := by decide +kernel
theorem dX10_isWord_81 : decode cX10_isWord 81 = .ok (.ldc2_w 185, 3) := by decide +kernel
theorem dX10_isWord_84 : decode cX10_isWord 84 = .ok (.lmul, 1) := by decide +kernel
theorem dX10_isWord_85 : decode cX10_isWord 85 = .ok (.iload 5, 2) := by decide +kernel
theorem dX10_isWord_87 : decode cX10_isWord 87 = .ok (.i2l, 1) := by decide +kernel
theorem dX10_isWord_88 : decode cX10_isWord 88 = .ok (.ladd, 1) := by decide +kernel
theorem dX10_isWord_89 : decode cX10_isWord 89 = .ok (.ldc2_w 187, 3) := by decide +kernel
theorem dX10_isWord_92 : decode cX10_isWord 92 = .ok (.lsub, 1) := by decide +kernel
theorem dX10_isWord_93 : decode cX10_isWord 93 = .ok (.lstore 6, 2) := by decide +kernel
theorem dX10_isWord_95 : decode cX10_isWord 95 = .ok (.aload_n 0, 1) := by decide +kernel
theorem dX10_isWord_96 : decode cX10_isWord 96 = .ok (.getfield 182, 3) := by decide +kernel
theorem dX10_isWord_99 : decode cX10_isWord 99 = .ok (.iconst 1, 1) := by decide +kernel
theorem dX10_isWord_100 : decode cX10_isWord 100 = .ok (.if_icmp .ne 17, 3) := by decide +kernel
theorem dX10_isWord_103 : decode cX10_isWord 103 = .ok (.aload_n 0, 1) := by decide +kernel
theorem dX10_isWord_104 : decode cX10_isWord 104 = .ok (.getfield 172, 3) := by decide +kernel
theorem dX10_isWord_107 : decode cX10_isWord 107 = .ok (.lload 6, 2) := by decide +kernel
theorem dX10_isWord_109 : decode cX10_isWord 109 = .ok (.lcmp, 1) := by decide +kernel
theorem dX10_isWord_110 : decode cX10_isWord 110 = .ok (.ifCond .ne 7, 3) := by decide +kernel
theorem dX10_isWord_113 : decode cX10_isWord 113 = .ok (.iconst 1, 1) := by decide +kernel
theorem dX10_isWord_114 : decode cX10_isWord 114 = .ok (.goto 4, 3) := by decide +kernel
theorem dX10_isWord_117 : decode cX10_isWord 117 = .ok (.iconst 0, 1) := by decide +kernel
theorem dX10_isWord_118 : decode cX10_isWord 118 = .ok (.ireturn, 1) := by decide +kernel
theorem dX10_must_0 : decode cX10_must 0 = .ok (.aload_n 0, 1) := by decide +kernel
theorem dX10_must_1 : decode cX10_must 1 = .ok (.getfield 197, 3) := by decide +kernel
theorem dX10_must_4 : decode cX10_must 4 = .ok (.ifCond .ne 20, 3) := by decide +kernel
theorem dX10_must_7 : decode cX10_must 7 = .ok (.iload_n 1, 1) := by decide +kernel
theorem dX10_must_8 : decode cX10_must 8 = .ok (.ifCond .ne 16, 3) := by decide +kernel
theorem dX10_must_11 : decode cX10_must 11 = .ok (.aload_n 0, 1) := by decide +kernel
theorem dX10_must_12 : decode cX10_must 12 = .ok (.iconst 1, 1) := by decide +kernel
theorem dX10_must_13 : decode cX10_must 13 = .ok (.putfield 197, 3) := by decide +kernel
theorem dX10_must_16 : decode cX10_must 16 = .ok (.aload_n 0, 1) := by decide +kernel
theorem dX10_must_17 : decode cX10_must 17 = .ok (.aload_n 0, 1) := by decide +kernel
theorem dX10_must_18 : decode cX10_must 18 = .ok (.getfield 169, 3) := by decide +kernel
theorem dX10_must_21 : decode cX10_must 21 = .ok (.putfield 65, 3) := by decide +kernel
theorem dX10_must_24 : decode cX10_must 24 = .ok (.aload_n 0, 1) := by decide +kernel
theorem dX10_must_25 : decode cX10_must 25 = .ok (.getfield 197, 3) := by decide +kernel
theorem dX10_must_28 : decode cX10_must 28 = .ok (.ifCond .ne 7, 3) := by decide +kernel
theorem dX10_must_31 : decode cX10_must 31 = .ok (.aload_n 0, 1) := by decide +kernel
theorem dX10_must_32 : decode cX10_must 32 = .ok (.invokevirtual 201, 3) := by decide +kernel
theorem dX10_must_35 : decode cX10_must 35 = .ok (.return_, 1) := by decide +kernel
theorem dX10_number_0 : decode cX10_number 0 = .ok (.aload_n 0, 1) := by decide +kernel
theorem dX10_number_1 : decode cX10_number 1 = .ok (.getfield 172, 3) := by decide +kernel
theorem dX10_number_4 : decode cX10_number 4 = .ok (.l2i, 1) := by decide +kernel
theorem dX10_number_5 : decode cX10_number 5 = .ok (.istore 5, 2) := by decide +kernel
theorem dX10_number_7 : decode cX10_number 7 = .ok (.aload_n 0, 1) := by decide +kernel
theorem dX10_number_8 : decode cX10_number 8 = .ok (.aload_n 0, 1) := by decide +kernel
theorem dX10_number_9 : decode cX10_number 9 = .ok (.getfield 182, 3) := by decide +kernel
theorem dX10_number_12 : decode cX10_number 12 = .ok (.iconst 2, 1) := by decide +kernel
theorem dX10_number_13 : decode cX10_number 13 = .ok (.if_icmp .ne 19, 3) := by decide +kernel
theorem dX10_number_16 : decode cX10_number 16 = .ok (.aload_n 0, 1) := by decide +kernel
theorem dX10_number_17 : decode cX10_number 17 = .ok (.getfield 172, 3) := by decide +kernel
theorem dX10_number_20 : decode cX10_number 20 = .ok (.lload_n 1, 1) := by decide +kernel
theorem dX10_number_21 : decode cX10_number 21 = .ok (.lload_n 3, 1) := by decide +kernel
theorem dX10_number_22 : decode cX10_number 22 = .ok (.invokestatic 125, 3) := by decide +kernel
theorem dX10_number_25 : decode cX10_number 25 = .ok (.ifCond .eq 7, 3) := by decide +kernel
theorem dX10_number_28 : decode cX10_number 28 = .ok (.iconst 1, 1) := by decide +kernel
theorem dX10_number_29 : decode cX10_number 29 = .ok (.goto 4, 3) := by decide +kernel
theorem dX10_number_32 : decode cX10_number 32 = .ok (.iconst 0, 1) := by decide +kernel
theorem dX10_number_33 : decode cX10_number 33 = .ok (.invokevirtual 204, 3) := by decide +kernel
theorem dX10_number_36 : decode cX10_number 36 = .ok (.iload 5, 2) := by decide +kernel
theorem dX10_number_38 : decode cX10_number 38 = .ok (.ireturn, 1) := by decide +kernel
theorem dX10_partAt_0 : decode cX10_partAt 0 = .ok (.aload_n 0, 1) := by decide +kernel
theorem dX10_partAt_1 : decode cX10_partAt 1 = .ok (.bipush 111, 2) := by decide +kernel
theorem dX10_partAt_3 : decode cX10_partAt 3 = .ok (.bipush 118, 2) := by decide +kernel
theorem dX10_partAt_5 : decode cX10_partAt 5 = .ok (.bipush 101, 2) := by decide +kernel
theorem dX10_partAt_7 : decode cX10_partAt 7 = .ok (.bipush 114, 2) := by decide +kernel
theorem dX10_partAt_9 : decode cX10_partAt 9 = .ok (.iconst 0, 1) := by decide +kernel
theorem dX10_partAt_10 : decode cX10_partAt 10 = .ok (.invokevirtual 208, 3) := by decide +kernel
theorem dX10_partAt_13 : decode cX10_partAt 13 = .ok (.ifCond .eq 7, 3) := by decide +kernel
theorem dX10_partAt_16 : decode cX10_partAt 16 = .ok (.iconst 0, 1) := by decide +kernel
theorem dX10_partAt_17 : decode cX10_partAt 17 = .ok (.goto 64, 3) := by decide +kernel
theorem dX10_partAt_20 : decode cX10_partAt 20 = .ok (.aload_n 0, 1) := by decide +kernel
theorem dX10_partAt_21 : decode cX10_partAt 21 = .ok (.bipush 100, 2) := by decide +kernel
theorem dX10_partAt_23 : decode cX10_partAt 23 = .ok (.bipush 101, 2) := by decide +kernel
theorem dX10_partAt_25 : decode cX10_partAt 25 = .ok (.bipush 98, 2) := by decide +kernel
theorem dX10_partAt_27 : decode cX10_partAt 27 = .ok (.bipush 116, 2) := by decide +kernel
theorem dX10_partAt_29 : decode cX10_partAt 29 = .ok (.iconst 0, 1) := by decide +kernel
theorem dX10_partAt_30 : decode cX10_partAt 30 = .ok (.invokevirtual 208, 3) := by decide +kernel
theorem dX10_partAt_33 : decode cX10_partAt 33 = .ok (.ifCond .eq 7, 3) := by decide +kernel
theorem dX10_partAt_36 : decode cX10_partAt 36 = .ok (.iconst 1, 1) := by decide +kernel
theorem dX10_partAt_37 : decode cX10_partAt 37 = .ok (.goto 44, 3) := by decide +kernel
theorem dX10_partAt_40 : decode cX10_partAt 40 = .ok (.aload_n 0, 1) := by decide +kernel
theorem dX10_partAt_41 : decode cX10_partAt 41 = .ok (.bipush 115, 2) := by decide +kernel
theorem dX10_partAt_43 : decode cX10_partAt 43 = .ok (.bipush 116, 2) := by decide +kernel
theorem dX10_partAt_45 : decode cX10_partAt 45 = .ok (.bipush 97, 2) := by decide +kernel
theorem dX10_partAt_47 : decode cX10_partAt 47 = .ok (.bipush 110, 2) := by decide +kernel
theorem dX10_partAt_49 : decode cX10_partAt 49 = .ok (.bipush 100, 2) := by decide +kernel
theorem dX10_partAt_51 : decode cX10_partAt 51 = .ok (.invokevirtual 208, 3) := by decide +kernel
theorem dX10_partAt_54 : decode cX10_partAt 54 = .ok (.ifCond .eq 7, 3) := by decide +kernel
theorem dX10_partAt_57 : decode cX10_partAt 57 = .ok (.iconst 2, 1) := by decide +kernel
theorem dX10_partAt_58 : decode cX10_partAt 58 = .ok (.goto 23, 3) := by decide +kernel
theorem dX10_partAt_61 : decode cX10_partAt 61 = .ok (.aload_n 0, 1) := by decide +kernel
theorem dX10_partAt_62 : decode cX10_partAt 62 = .ok (.bipush 100, 2) := by decide +kernel
theorem dX10_partAt_64 : decode cX10_partAt 64 = .ok (.bipush 117, 2) := by decide +kernel
theorem dX10_partAt_66 : decode cX10_partAt 66 = .ok (.bipush 101, 2) := by decide +kernel
theorem dX10_partAt_68 : decode cX10_partAt 68 = .ok (.iconst 0, 1) := by decide +kernel
theorem dX10_partAt_69 : decode cX10_partAt 69 = .ok (.iconst 0, 1) := by decide +kernel
theorem dX10_partAt_70 : decode cX10_partAt 70 = .ok (.invokevirtual 208, 3) := by decide +kernel
theorem dX10_partAt_73 : decode cX10_partAt 73 = .ok (.ifCond .eq 7, 3) := by decide +kernel
theorem dX10_partAt_76 : decode cX10_partAt 76 = .ok (.iconst 3, 1) := by decide +kernel
theorem dX10_partAt_77 : decode cX10_partAt 77 = .ok (.goto 4, 3) := by decide +kernel
theorem dX10_partAt_80 : decode cX10_partAt 80 = .ok (.iconst (-1), 1) := by decide +kernel
theorem dX10_partAt_81 : decode cX10_partAt 81 = .ok (.ireturn, 1) := by decide +kernel
theorem dX10_readClause_0 : decode cX10_readClause 0 = .ok (.aload_n 0, 1) := by decide +kernel
theorem dX10_readClause_1 : decode cX10_readClause 1 = .ok (.bipush 112, 2) := by decide +kernel
theorem dX10_readClause_3 : decode cX10_readClause 3 = .ok (.bipush 114, 2) := by decide +kernel
theorem dX10_readClause_5 : decode cX10_readClause 5 = .ok (.bipush 105, 2) := by decide +kernel
theorem dX10_readClause_7 : decode cX10_readClause 7 = .ok (.bipush 99, 2) := by decide +kernel
theorem dX10_readClause_9 : decode cX10_readClause 9 = .ok (.bipush 101, 2) := by decide +kernel
theorem dX10_readClause_11 : decode cX10_readClause 11 = .ok (.invokevirtual 208, 3) := by decide +kernel
theorem dX10_readClause_14 : decode cX10_readClause 14 = .ok (.istore_n 1, 1) := by decide +kernel
theorem dX10_readClause_15 : decode cX10_readClause 15 = .ok (.aload_n 0, 1) := by decide +kernel
theorem dX10_readClause_16 : decode cX10_readClause 16 = .ok (.bipush 113, 2) := by decide +kernel
theorem dX10_readClause_18 : decode cX10_readClause 18 = .ok (.bipush 117, 2) := by decide +kernel
theorem dX10_readClause_20 : decode cX10_readClause 20 = .ok (.bipush 111, 2) := by decide +kernel
theorem dX10_readClause_22 : decode cX10_readClause 22 = .ok (.bipush 116, 2) := by decide +kernel
theorem dX10_readClause_24 : decode cX10_readClause 24 = .ok (.bipush 97, 2) := by decide +kernel
theorem dX10_readClause_26 : decode cX10_readClause 26 = .ok (.invokevirtual 208, 3) := by decide +kernel
theorem dX10_readClause_29 : decode cX10_readClause 29 = .ok (.istore_n 2, 1) := by decide +kernel
theorem dX10_readClause_30 : decode cX10_readClause 30 = .ok (.aload_n 0, 1) := by decide +kernel
theorem dX10_readClause_31 : decode cX10_readClause 31 = .ok (.invokevirtual 212, 3) := by decide +kernel
theorem dX10_readClause_34 : decode cX10_readClause 34 = .ok (.istore_n 3, 1) := by decide +kernel
theorem dX10_readClause_35 : decode cX10_readClause 35 = .ok (.aload_n 0, 1) := by decide +kernel
theorem dX10_readClause_36 : decode cX10_readClause 36 = .ok (.iload_n 1, 1) := by decide +kernel
theorem dX10_readClause_37 : decode cX10_readClause 37 = .ok (.ifCond .ne 11, 3) := by decide +kernel
theorem dX10_readClause_40 : decode cX10_readClause 40 = .ok (.iload_n 2, 1) := by decide +kernel
theorem dX10_readClause_41 : decode cX10_readClause 41 = .ok (.ifCond .ne 7, 3) := by decide +kernel
theorem dX10_readClause_44 : decode cX10_readClause 44 = .ok (.iload_n 3, 1) := by decide +kernel
theorem dX10_readClause_45 : decode cX10_readClause 45 = .ok (.ifCond .lt 16, 3) := by decide +kernel
theorem dX10_readClause_48 : decode cX10_readClause 48 = .ok (.aload_n 0, 1) := by decide +kernel
theorem dX10_readClause_49 : decode cX10_readClause 49 = .ok (.getfield 216, 3) := by decide +kernel
theorem dX10_readClause_52 : decode cX10_readClause 52 = .ok (.bipush 20, 2) := by decide +kernel
theorem dX10_readClause_54 : decode cX10_readClause 54 = .ok (.if_icmp .ge 7, 3) := by decide +kernel
theorem dX10_readClause_57 : decode cX10_readClause 57 = .ok (.iconst 1, 1) := by decide +kernel
theorem dX10_readClause_58 : decode cX10_readClause 58 = .ok (.goto 4, 3) := by decide +kernel
theorem dX10_readClause_61 : decode cX10_readClause 61 = .ok (.iconst 0, 1) := by decide +kernel
theorem dX10_readClause_62 : decode cX10_readClause 62 = .ok (.invokevirtual 204, 3) := by decide +kernel
theorem dX10_readClause_65 : decode cX10_readClause 65 = .ok (.iload_n 1, 1) := by decide +kernel
theorem dX10_readClause_66 : decode cX10_readClause 66 = .ok (.ifCond .eq 14, 3) := by decide +kernel
theorem dX10_readClause_69 : decode cX10_readClause 69 = .ok (.aload_n 0, 1) := by decide +kernel
theorem dX10_readClause_70 : decode cX10_readClause 70 = .ok (.lconst 0, 1) := by decide +kernel
theorem dX10_readClause_71 : decode cX10_readClause 71 = .ok (.ldc2_w 154, 3) := by decide +kernel
theorem dX10_readClause_74 : decode cX10_readClause 74 = .ok (.invokevirtual 219, 3) := by decide +kernel
theorem dX10_readClause_77 : decode cX10_readClause 77 = .ok (.goto 4, 3) := by decide +kernel
theorem dX10_readClause_80 : decode cX10_readClause 80 = .ok (.iconst 0, 1) := by decide +kernel
theorem dX10_readClause_81 : decode cX10_readClause 81 = .ok (.istore 4, 2) := by decide +kernel
theorem dX10_readClause_83 : decode cX10_readClause 83 = .ok (.aload_n 0, 1) := by decide +kernel
theorem dX10_readClause_84 : decode cX10_readClause 84 = .ok (.lconst 0, 1) := by decide +kernel
theorem dX10_readClause_85 : decode cX10_readClause 85 = .ok (.ldc2_w 191, 3) := by decide +kernel
theorem dX10_readClause_88 : decode cX10_readClause 88 = .ok (.invokevirtual 219, 3) := by decide +kernel
theorem dX10_readClause_91 : decode cX10_readClause 91 = .ok (.istore 5, 2) := by decide +kernel
theorem dX10_readClause_93 : decode cX10_readClause 93 = .ok (.iconst 0, 1) := by decide +kernel
theorem dX10_readClause_94 : decode cX10_readClause 94 = .ok (.istore 6, 2) := by decide +kernel
theorem dX10_readClause_96 : decode cX10_readClause 96 = .ok (.iload_n 3, 1) := by decide +kernel
theorem dX10_readClause_97 : decode cX10_readClause 97 = .ok (.ifCond .lt 40, 3) := by decide +kernel
theorem dX10_readClause_100 : decode cX10_readClause 100 = .ok (.aload_n 0, 1) := by decide +kernel
theorem dX10_readClause_101 : decode cX10_readClause 101 = .ok (.aload_n 0, 1) := by decide +kernel
theorem dX10_readClause_102 : decode cX10_readClause 102 = .ok (.bipush 111, 2) := by decide +kernel
theorem dX10_readClause_104 : decode cX10_readClause 104 = .ok (.bipush 102, 2) := by decide +kernel
theorem dX10_readClause_106 : decode cX10_readClause 106 = .ok (.iconst 0, 1) := by decide +kernel
theorem dX10_readClause_107 : decode cX10_readClause 107 = .ok (.iconst 0, 1) := by decide +kernel
theorem dX10_readClause_108 : decode cX10_readClause 108 = .ok (.iconst 0, 1) := by decide +kernel
theorem dX10_readClause_109 : decode cX10_readClause 109 = .ok (.invokevirtual 208, 3) := by decide +kernel
theorem dX10_readClause_112 : decode cX10_readClause 112 = .ok (.invokevirtual 204, 3) := by decide +kernel
theorem dX10_readClause_115 : decode cX10_readClause 115 = .ok (.aload_n 0, 1) := by decide +kernel
theorem dX10_readClause_116 : decode cX10_readClause 116 = .ok (.iload 5, 2) := by decide +kernel
theorem dX10_readClause_118 : decode cX10_readClause 118 = .ok (.iconst 1, 1) := by decide +kernel
theorem dX10_readClause_119 : decode cX10_readClause 119 = .ok (.if_icmp .ge 7, 3) := by decide +kernel
theorem dX10_readClause_122 : decode cX10_readClause 122 = .ok (.lconst 1, 1) := by decide +kernel
theorem dX10_readClause_123 : decode cX10_readClause 123 = .ok (.goto 6, 3) := by decide +kernel
theorem dX10_readClause_126 : decode cX10_readClause 126 = .ok (.iload 5, 2) := by decide +kernel
theorem dX10_readClause_128 : decode cX10_readClause 128 = .ok (.i2l, 1) := by decide +kernel
theorem dX10_readClause_129 : decode cX10_readClause 129 = .ok (.ldc2_w 191, 3) := by decide +kernel
theorem dX10_readClause_132 : decode cX10_readClause 132 = .ok (.invokevirtual 219, 3) := by decide +kernel
theorem dX10_readClause_135 : decode cX10_readClause 135 = .ok (.istore 6, 2) := by decide +kernel
theorem dX10_readClause_137 : decode cX10_readClause 137 = .ok (.aload_n 0, 1) := by decide +kernel
theorem dX10_readClause_138 : decode cX10_readClause 138 = .ok (.getfield 197, 3) := by decide +kernel
theorem dX10_readClause_141 : decode cX10_readClause 141 = .ok (.ifCond .eq 4, 3) := by decide +kernel
theorem dX10_readClause_144 : decode cX10_readClause 144 = .ok (.return_, 1) := by decide +kernel
theorem dX10_readClause_145 : decode cX10_readClause 145 = .ok (.iload_n 1, 1) := by decide +kernel
theorem dX10_readClause_146 : decode cX10_readClause 146 = .ok (.ifCond .eq 15, 3) := by decide +kernel
theorem dX10_readClause_149 : decode cX10_readClause 149 = .ok (.aload_n 0, 1) := by decide +kernel
theorem dX10_readClause_150 : decode cX10_readClause 150 = .ok (.getfield 53, 3) := by decide +kernel
theorem dX10_readClause_153 : decode cX10_readClause 153 = .ok (.iload 4, 2) := by decide +kernel
theorem dX10_readClause_155 : decode cX10_readClause 155 = .ok (.iload 5, 2) := by decide +kernel
theorem dX10_readClause_157 : decode cX10_readClause 157 = .ok (.iastore, 1) := by decide +kernel
theorem dX10_readClause_158 : decode cX10_readClause 158 = .ok (.goto 32, 3) := by decide +kernel
theorem dX10_readClause_161 : decode cX10_readClause 161 = .ok (.iload_n 2, 1) := by decide +kernel
theorem dX10_readClause_162 : decode cX10_readClause 162 = .ok (.ifCond .eq 12, 3) := by decide +kernel
theorem dX10_readClause_165 : decode cX10_readClause 165 = .ok (.aload_n 0, 1) := by decide +kernel
theorem dX10_readClause_166 : decode cX10_readClause 166 = .ok (.iload 5, 2) := by decide +kernel
theorem dX10_readClause_168 : decode cX10_readClause 168 = .ok (.putfield 223, 3) := by decide +kernel
theorem dX10_readClause_171 : decode cX10_readClause 171 = .ok (.goto 19, 3) := by decide +kernel
theorem dX10_readClause_174 : decode cX10_readClause 174 = .ok (.aload_n 0, 1) := by decide +kernel
theorem dX10_readClause_175 : decode cX10_readClause 175 = .ok (.getfield 56, 3) := by decide +kernel
theorem dX10_readClause_178 : decode cX10_readClause 178 = .ok (.iload_n 3, 1) := by decide +kernel
theorem dX10_readClause_179 : decode cX10_readClause 179 = .ok (.iload 5, 2) := by decide +kernel
theorem dX10_readClause_181 : decode cX10_readClause 181 = .ok (.iastore, 1) := by decide +kernel
theorem dX10_readClause_182 : decode cX10_readClause 182 = .ok (.aload_n 0, 1) := by decide +kernel
theorem dX10_readClause_183 : decode cX10_readClause 183 = .ok (.getfield 59, 3) := by decide +kernel
theorem dX10_readClause_186 : decode cX10_readClause 186 = .ok (.iload_n 3, 1) := by decide +kernel
theorem dX10_readClause_187 : decode cX10_readClause 187 = .ok (.iload 6, 2) := by decide +kernel
theorem dX10_readClause_189 : decode cX10_readClause 189 = .ok (.iastore, 1) := by decide +kernel
theorem dX10_readClause_190 : decode cX10_readClause 190 = .ok (.aload_n 0, 1) := by decide +kernel
theorem dX10_readClause_191 : decode cX10_readClause 191 = .ok (.dup, 1) := by decide +kernel
theorem dX10_readClause_192 : decode cX10_readClause 192 = .ok (.getfield 216, 3) := by decide +kernel
theorem dX10_readClause_195 : decode cX10_readClause 195 = .ok (.iconst 1, 1) := by decide +kernel
theorem dX10_readClause_196 : decode cX10_readClause 196 = .ok (.iadd, 1) := by decide +kernel
theorem dX10_readClause_197 : decode cX10_readClause 197 = .ok (.putfield 216, 3) := by decide +kernel
theorem dX10_readClause_200 : decode cX10_readClause 200 = .ok (.return_, 1) := by decide +kernel
theorem dX10_contract_0 : decode cX10_contract 0 = .ok (.aload_n 0, 1) := by decide +kernel
theorem dX10_contract_1 : decode cX10_contract 1 = .ok (.iconst 0, 1) := by decide +kernel
theorem dX10_contract_2 : decode cX10_contract 2 = .ok (.putfield 117, 3) := by decide +kernel
theorem dX10_contract_5 : decode cX10_contract 5 = .ok (.aload_n 0, 1) := by decide +kernel
theorem dX10_contract_6 : decode cX10_contract 6 = .ok (.iconst 0, 1) := by decide +kernel
theorem dX10_contract_7 : decode cX10_contract 7 = .ok (.putfield 166, 3) := by decide +kernel
theorem dX10_contract_10 : decode cX10_contract 10 = .ok (.aload_n 0, 1) := by decide +kernel
theorem dX10_contract_11 : decode cX10_contract 11 = .ok (.iconst 0, 1) := by decide +kernel
theorem dX10_contract_12 : decode cX10_contract 12 = .ok (.putfield 197, 3) := by decide +kernel
theorem dX10_contract_15 : decode cX10_contract 15 = .ok (.aload_n 0, 1) := by decide +kernel
theorem dX10_contract_16 : decode cX10_contract 16 = .ok (.iconst (-1), 1) := by decide +kernel
theorem dX10_contract_17 : decode cX10_contract 17 = .ok (.putfield 65, 3) := by decide +kernel
theorem dX10_contract_20 : decode cX10_contract 20 = .ok (.aload_n 0, 1) := by decide +kernel
theorem dX10_contract_21 : decode cX10_contract 21 = .ok (.iconst 0, 1) := by decide +kernel
theorem dX10_contract_22 : decode cX10_contract 22 = .ok (.putfield 216, 3) := by decide +kernel
theorem dX10_contract_25 : decode cX10_contract 25 = .ok (.aload_n 0, 1) := by decide +kernel
theorem dX10_contract_26 : decode cX10_contract 26 = .ok (.iconst (-1), 1) := by decide +kernel
theorem dX10_contract_27 : decode cX10_contract 27 = .ok (.putfield 223, 3) := by decide +kernel
theorem dX10_contract_30 : decode cX10_contract 30 = .ok (.iconst 0, 1) := by decide +kernel
theorem dX10_contract_31 : decode cX10_contract 31 = .ok (.istore_n 1, 1) := by decide +kernel
theorem dX10_contract_32 : decode cX10_contract 32 = .ok (.iload_n 1, 1) := by decide +kernel
theorem dX10_contract_33 : decode cX10_contract 33 = .ok (.iconst 5, 1) := by decide +kernel
theorem dX10_contract_34 : decode cX10_contract 34 = .ok (.if_icmp .ge 16, 3) := by decide +kernel
theorem dX10_contract_37 : decode cX10_contract 37 = .ok (.aload_n 0, 1) := by decide +kernel
theorem dX10_contract_38 : decode cX10_contract 38 = .ok (.getfield 53, 3) := by decide +kernel
theorem dX10_contract_41 : decode cX10_contract 41 = .ok (.iload_n 1, 1) := by decide +kernel
theorem dX10_contract_42 : decode cX10_contract 42 = .ok (.iconst 0, 1) := by decide +kernel
theorem dX10_contract_43 : decode cX10_contract 43 = .ok (.iastore, 1) := by decide +kernel
theorem dX10_contract_44 : decode cX10_contract 44 = .ok (.iinc 1 1, 3) := by decide +kernel
theorem dX10_contract_47 : decode cX10_contract 47 = .ok (.goto (-15), 3) := by decide +kernel
theorem dX10_contract_50 : decode cX10_contract 50 = .ok (.iconst 0, 1) := by decide +kernel
theorem dX10_contract_51 : decode cX10_contract 51 = .ok (.istore_n 1, 1) := by decide +kernel
theorem dX10_contract_52 : decode cX10_contract 52 = .ok (.iload_n 1, 1) := by decide +kernel
theorem dX10_contract_53 : decode cX10_contract 53 = .ok (.iconst 4, 1) := by decide +kernel
theorem dX10_contract_54 : decode cX10_contract 54 = .ok (.if_icmp .ge 32, 3) := by decide +kernel
theorem dX10_contract_57 : decode cX10_contract 57 = .ok (.aload_n 0, 1) := by decide +kernel
theorem dX10_contract_58 : decode cX10_contract 58 = .ok (.getfield 56, 3) := by decide +kernel
theorem dX10_contract_61 : decode cX10_contract 61 = .ok (.iload_n 1, 1) := by decide +kernel
theorem dX10_contract_62 : decode cX10_contract 62 = .ok (.iload_n 1, 1) := by decide +kernel
theorem dX10_contract_63 : decode cX10_contract 63 = .ok (.iconst 2, 1) := by decide +kernel
theorem dX10_contract_64 : decode cX10_contract 64 = .ok (.if_icmp .ge 7, 3) := by decide +kernel
theorem dX10_contract_67 : decode cX10_contract 67 = .ok (.iconst 1, 1) := by decide +kernel
theorem dX10_contract_68 : decode cX10_contract 68 = .ok (.goto 4, 3) := by decide +kernel
theorem dX10_contract_71 : decode cX10_contract 71 = .ok (.iconst 0, 1) := by decide +kernel
theorem dX10_contract_72 : decode cX10_contract 72 = .ok (.iastore, 1) := by decide +kernel
theorem dX10_contract_73 : decode cX10_contract 73 = .ok (.aload_n 0, 1) := by decide +kernel
theorem dX10_contract_74 : decode cX10_contract 74 = .ok (.getfield 59, 3) := by decide +kernel
theorem dX10_contract_77 : decode cX10_contract 77 = .ok (.iload_n 1, 1) := by decide +kernel
theorem dX10_contract_78 : decode cX10_contract 78 = .ok (.iconst 1, 1) := by decide +kernel
theorem dX10_contract_79 : decode cX10_contract 79 = .ok (.iastore, 1) := by decide +kernel
theorem dX10_contract_80 : decode cX10_contract 80 = .ok (.iinc 1 1, 3) := by decide +kernel
theorem dX10_contract_83 : decode cX10_contract 83 = .ok (.goto (-31), 3) := by decide +kernel
theorem dX10_contract_86 : decode cX10_contract 86 = .ok (.aload_n 0, 1) := by decide +kernel
theorem dX10_contract_87 : decode cX10_contract 87 = .ok (.invokevirtual 201, 3) := by decide +kernel
theorem dX10_contract_90 : decode cX10_contract 90 = .ok (.aload_n 0, 1) := by decide +kernel
theorem dX10_contract_91 : decode cX10_contract 91 = .ok (.getfield 182, 3) := by decide +kernel
theorem dX10_contract_94 : decode cX10_contract 94 = .ok (.ifCond .eq 63, 3) := by decide +kernel
theorem dX10_contract_97 : decode cX10_contract 97 = .ok (.aload_n 0, 1) := by decide +kernel
theorem dX10_contract_98 : decode cX10_contract 98 = .ok (.invokevirtual 226, 3) := by decide +kernel
theorem dX10_contract_101 : decode cX10_contract 101 = .ok (.aload_n 0, 1) := by decide +kernel
theorem dX10_contract_102 : decode cX10_contract 102 = .ok (.getfield 197, 3) := by decide +kernel
theorem dX10_contract_105 : decode cX10_contract 105 = .ok (.ifCond .ne 33, 3) := by decide +kernel
theorem dX10_contract_108 : decode cX10_contract 108 = .ok (.aload_n 0, 1) := by decide +kernel
theorem dX10_contract_109 : decode cX10_contract 109 = .ok (.getfield 182, 3) := by decide +kernel
theorem dX10_contract_112 : decode cX10_contract 112 = .ok (.iconst 3, 1) := by decide +kernel
theorem dX10_contract_113 : decode cX10_contract 113 = .ok (.if_icmp .ne 25, 3) := by decide +kernel
theorem dX10_contract_116 : decode cX10_contract 116 = .ok (.aload_n 0, 1) := by decide +kernel
theorem dX10_contract_117 : decode cX10_contract 117 = .ok (.getfield 172, 3) := by decide +kernel
theorem dX10_contract_120 : decode cX10_contract 120 = .ok (.ldc2_w 229, 3) := by decide +kernel
theorem dX10_contract_123 : decode cX10_contract 123 = .ok (.lcmp, 1) := by decide +kernel
theorem dX10_contract_124 : decode cX10_contract 124 = .ok (.ifCond .ne 14, 3) := by decide +kernel
theorem dX10_contract_127 : decode cX10_contract 127 = .ok (.aload_n 0, 1) := by decide +kernel
theorem dX10_contract_128 : decode cX10_contract 128 = .ok (.invokevirtual 201, 3) := by decide +kernel
theorem dX10_contract_131 : decode cX10_contract 131 = .ok (.aload_n 0, 1) := by decide +kernel
theorem dX10_contract_132 : decode cX10_contract 132 = .ok (.invokevirtual 226, 3) := by decide +kernel
theorem dX10_contract_135 : decode cX10_contract 135 = .ok (.goto (-34), 3) := by decide +kernel
theorem dX10_contract_138 : decode cX10_contract 138 = .ok (.aload_n 0, 1) := by decide +kernel
theorem dX10_contract_139 : decode cX10_contract 139 = .ok (.getfield 197, 3) := by decide +kernel
theorem dX10_contract_142 : decode cX10_contract 142 = .ok (.ifCond .ne 15, 3) := by decide +kernel
theorem dX10_contract_145 : decode cX10_contract 145 = .ok (.aload_n 0, 1) := by decide +kernel
theorem dX10_contract_146 : decode cX10_contract 146 = .ok (.getfield 182, 3) := by decide +kernel
theorem dX10_contract_149 : decode cX10_contract 149 = .ok (.ifCond .eq 8, 3) := by decide +kernel
theorem dX10_contract_152 : decode cX10_contract 152 = .ok (.aload_n 0, 1) := by decide +kernel
theorem dX10_contract_153 : decode cX10_contract 153 = .ok (.iconst 0, 1) := by decide +kernel
theorem dX10_contract_154 : decode cX10_contract 154 = .ok (.invokevirtual 204, 3) := by decide +kernel
theorem dX10_contract_157 : decode cX10_contract 157 = .ok (.aload_n 0, 1) := by decide +kernel
theorem dX10_contract_158 : decode cX10_contract 158 = .ok (.iconst 0, 1) := by decide +kernel
theorem dX10_contract_159 : decode cX10_contract 159 = .ok (.putfield 159, 3) := by decide +kernel
theorem dX10_contract_162 : decode cX10_contract 162 = .ok (.aload_n 0, 1) := by decide +kernel
theorem dX10_contract_163 : decode cX10_contract 163 = .ok (.getfield 197, 3) := by decide +kernel
theorem dX10_contract_166 : decode cX10_contract 166 = .ok (.ifCond .eq 10, 3) := by decide +kernel
theorem dX10_contract_169 : decode cX10_contract 169 = .ok (.aload_n 0, 1) := by decide +kernel
theorem dX10_contract_170 : decode cX10_contract 170 = .ok (.bipush (-6), 2) := by decide +kernel
theorem dX10_contract_172 : decode cX10_contract 172 = .ok (.invokevirtual 138, 3) := by decide +kernel
theorem dX10_contract_175 : decode cX10_contract 175 = .ok (.ireturn, 1) := by decide +kernel
theorem dX10_contract_176 : decode cX10_contract 176 = .ok (.aload_n 0, 1) := by decide +kernel
theorem dX10_contract_177 : decode cX10_contract 177 = .ok (.aload_n 0, 1) := by decide +kernel
theorem dX10_contract_178 : decode cX10_contract 178 = .ok (.getfield 216, 3) := by decide +kernel
theorem dX10_contract_181 : decode cX10_contract 181 = .ok (.putfield 231, 3) := by decide +kernel
theorem dX10_contract_184 : decode cX10_contract 184 = .ok (.aload_n 0, 1) := by decide +kernel
theorem dX10_contract_185 : decode cX10_contract 185 = .ok (.aload_n 0, 1) := by decide +kernel
theorem dX10_contract_186 : decode cX10_contract 186 = .ok (.getfield 223, 3) := by decide +kernel
theorem dX10_contract_189 : decode cX10_contract 189 = .ok (.putfield 43, 3) := by decide +kernel
theorem dX10_contract_192 : decode cX10_contract 192 = .ok (.iconst 0, 1) := by decide +kernel
theorem dX10_contract_193 : decode cX10_contract 193 = .ok (.istore_n 1, 1) := by decide +kernel
theorem dX10_contract_194 : decode cX10_contract 194 = .ok (.iload_n 1, 1) := by decide +kernel
theorem dX10_contract_195 : decode cX10_contract 195 = .ok (.iconst 5, 1) := by decide +kernel
theorem dX10_contract_196 : decode cX10_contract 196 = .ok (.if_icmp .ge 21, 3) := by decide +kernel
theorem dX10_contract_199 : decode cX10_contract 199 = .ok (.aload_n 0, 1) := by decide +kernel
theorem dX10_contract_200 : decode cX10_contract 200 = .ok (.getfield 40, 3) := by decide +kernel
theorem dX10_contract_203 : decode cX10_contract 203 = .ok (.iload_n 1, 1) := by decide +kernel
theorem dX10_contract_204 : decode cX10_contract 204 = .ok (.aload_n 0, 1) := by decide +kernel
theorem dX10_contract_205 : decode cX10_contract 205 = .ok (.getfield 53, 3) := by decide +kernel
theorem dX10_contract_208 : decode cX10_contract 208 = .ok (.iload_n 1, 1) := by decide +kernel
theorem dX10_contract_209 : decode cX10_contract 209 = .ok (.iaload, 1) := by decide +kernel
theorem dX10_contract_210 : decode cX10_contract 210 = .ok (.iastore, 1) := by decide +kernel
theorem dX10_contract_211 : decode cX10_contract 211 = .ok (.iinc 1 1, 3) := by decide +kernel
theorem dX10_contract_214 : decode cX10_contract 214 = .ok (.goto (-20), 3) := by decide +kernel
theorem dX10_contract_217 : decode cX10_contract 217 = .ok (.iconst 0, 1) := by decide +kernel
theorem dX10_contract_218 : decode cX10_contract 218 = .ok (.istore_n 1, 1) := by decide +kernel
theorem dX10_contract_219 : decode cX10_contract 219 = .ok (.iload_n 1, 1) := by decide +kernel
theorem dX10_contract_220 : decode cX10_contract 220 = .ok (.iconst 4, 1) := by decide +kernel
theorem dX10_contract_221 : decode cX10_contract 221 = .ok (.if_icmp .ge 33, 3) := by decide +kernel
theorem dX10_contract_224 : decode cX10_contract 224 = .ok (.aload_n 0, 1) := by decide +kernel
theorem dX10_contract_225 : decode cX10_contract 225 = .ok (.getfield 47, 3) := by decide +kernel
theorem dX10_contract_228 : decode cX10_contract 228 = .ok (.iload_n 1, 1) := by decide +kernel
theorem dX10_contract_229 : decode cX10_contract 229 = .ok (.aload_n 0, 1) := by decide +kernel
theorem dX10_contract_230 : decode cX10_contract 230 = .ok (.getfield 56, 3) := by decide +kernel
theorem dX10_contract_233 : decode cX10_contract 233 = .ok (.iload_n 1, 1) := by decide +kernel
theorem dX10_contract_234 : decode cX10_contract 234 = .ok (.iaload, 1) := by decide +kernel
theorem dX10_contract_235 : decode cX10_contract 235 = .ok (.iastore, 1) := by decide +kernel
theorem dX10_contract_236 : decode cX10_contract 236 = .ok (.aload_n 0, 1) := by decide +kernel
theorem dX10_contract_237 : decode cX10_contract 237 = .ok (.getfield 50, 3) := by decide +kernel
theorem dX10_contract_240 : decode cX10_contract 240 = .ok (.iload_n 1, 1) := by decide +kernel
theorem dX10_contract_241 : decode cX10_contract 241 = .ok (.aload_n 0, 1) := by decide +kernel
theorem dX10_contract_242 : decode cX10_contract 242 = .ok (.getfield 59, 3) := by decide +kernel
theorem dX10_contract_245 : decode cX10_contract 245 = .ok (.iload_n 1, 1) := by decide +kernel
theorem dX10_contract_246 : decode cX10_contract 246 = .ok (.iaload, 1) := by decide +kernel
theorem dX10_contract_247 : decode cX10_contract 247 = .ok (.iastore, 1) := by decide +kernel
theorem dX10_contract_248 : decode cX10_contract 248 = .ok (.iinc 1 1, 3) := by decide +kernel
theorem dX10_contract_251 : decode cX10_contract 251 = .ok (.goto (-32), 3) := by decide +kernel
theorem dX10_contract_254 : decode cX10_contract 254 = .ok (.aload_n 0, 1) := by decide +kernel
theorem dX10_contract_255 : decode cX10_contract 255 = .ok (.aload_n 0, 1) := by decide +kernel
theorem dX10_contract_256 : decode cX10_contract 256 = .ok (.getfield 231, 3) := by decide +kernel
theorem dX10_contract_259 : decode cX10_contract 259 = .ok (.invokevirtual 138, 3) := by decide +kernel
theorem dX10_contract_262 : decode cX10_contract 262 = .ok (.ireturn, 1) := by decide +kernel
theorem dX10_fault_0 : decode cX10_fault 0 = .ok (.aload_n 0, 1) := by decide +kernel
theorem dX10_fault_1 : decode cX10_fault 1 = .ok (.iconst 0, 1) := by decide +kernel
theorem dX10_fault_2 : decode cX10_fault 2 = .ok (.putfield 117, 3) := by decide +kernel
theorem dX10_fault_5 : decode cX10_fault 5 = .ok (.aload_n 0, 1) := by decide +kernel
theorem dX10_fault_6 : decode cX10_fault 6 = .ok (.getfield 65, 3) := by decide +kernel
theorem dX10_fault_9 : decode cX10_fault 9 = .ok (.ireturn, 1) := by decide +kernel
theorem dX10_partOf_0 : decode cX10_partOf 0 = .ok (.lload_n 1, 1) := by decide +kernel
theorem dX10_partOf_1 : decode cX10_partOf 1 = .ok (.aload_n 0, 1) := by decide +kernel
theorem dX10_partOf_2 : decode cX10_partOf 2 = .ok (.getfield 47, 3) := by decide +kernel
theorem dX10_partOf_5 : decode cX10_partOf 5 = .ok (.iload_n 3, 1) := by decide +kernel
theorem dX10_partOf_6 : decode cX10_partOf 6 = .ok (.iaload, 1) := by decide +kernel
theorem dX10_partOf_7 : decode cX10_partOf 7 = .ok (.i2l, 1) := by decide +kernel
theorem dX10_partOf_8 : decode cX10_partOf 8 = .ok (.lmul, 1) := by decide +kernel
theorem dX10_partOf_9 : decode cX10_partOf 9 = .ok (.aload_n 0, 1) := by decide +kernel
theorem dX10_partOf_10 : decode cX10_partOf 10 = .ok (.getfield 50, 3) := by decide +kernel
theorem dX10_partOf_13 : decode cX10_partOf 13 = .ok (.iload_n 3, 1) := by decide +kernel
theorem dX10_partOf_14 : decode cX10_partOf 14 = .ok (.iaload, 1) := by decide +kernel
theorem dX10_partOf_15 : decode cX10_partOf 15 = .ok (.i2l, 1) := by decide +kernel
theorem dX10_partOf_16 : decode cX10_partOf 16 = .ok (.ldiv, 1) := by decide +kernel
theorem dX10_partOf_17 : decode cX10_partOf 17 = .ok (.lreturn, 1) := by decide +kernel
theorem dX10_reckon_0 : decode cX10_reckon 0 = .ok (.iconst 0, 1) := by decide +kernel
theorem dX10_reckon_1 : decode cX10_reckon 1 = .ok (.istore_n 2, 1) := by decide +kernel
theorem dX10_reckon_2 : decode cX10_reckon 2 = .ok (.iload_n 2, 1) := by decide +kernel
theorem dX10_reckon_3 : decode cX10_reckon 3 = .ok (.aload_n 0, 1) := by decide +kernel
theorem dX10_reckon_4 : decode cX10_reckon 4 = .ok (.getfield 129, 3) := by decide +kernel
theorem dX10_reckon_7 : decode cX10_reckon 7 = .ok (.if_icmp .ge 70, 3) := by decide +kernel
theorem dX10_reckon_10 : decode cX10_reckon 10 = .ok (.aload_n 0, 1) := by decide +kernel
theorem dX10_reckon_11 : decode cX10_reckon 11 = .ok (.getfield 68, 3) := by decide +kernel
theorem dX10_reckon_14 : decode cX10_reckon 14 = .ok (.iload_n 2, 1) := by decide +kernel
theorem dX10_reckon_15 : decode cX10_reckon 15 = .ok (.lconst 0, 1) := by decide +kernel
theorem dX10_reckon_16 : decode cX10_reckon 16 = .ok (.lastore, 1) := by decide +kernel
theorem dX10_reckon_17 : decode cX10_reckon 17 = .ok (.aload_n 0, 1) := by decide +kernel
theorem dX10_reckon_18 : decode cX10_reckon 18 = .ok (.getfield 72, 3) := by decide +kernel
theorem dX10_reckon_21 : decode cX10_reckon 21 = .ok (.iload_n 2, 1) := by decide +kernel
theorem dX10_reckon_22 : decode cX10_reckon 22 = .ok (.lconst 0, 1) := by decide +kernel
theorem dX10_reckon_23 : decode cX10_reckon 23 = .ok (.lastore, 1) := by decide +kernel
theorem dX10_reckon_24 : decode cX10_reckon 24 = .ok (.aload_n 0, 1) := by decide +kernel
theorem dX10_reckon_25 : decode cX10_reckon 25 = .ok (.getfield 75, 3) := by decide +kernel
theorem dX10_reckon_28 : decode cX10_reckon 28 = .ok (.iload_n 2, 1) := by decide +kernel
theorem dX10_reckon_29 : decode cX10_reckon 29 = .ok (.lconst 0, 1) := by decide +kernel
theorem dX10_reckon_30 : decode cX10_reckon 30 = .ok (.lastore, 1) := by decide +kernel
theorem dX10_reckon_31 : decode cX10_reckon 31 = .ok (.aload_n 0, 1) := by decide +kernel
theorem dX10_reckon_32 : decode cX10_reckon 32 = .ok (.getfield 81, 3) := by decide +kernel
theorem dX10_reckon_35 : decode cX10_reckon 35 = .ok (.iload_n 2, 1) := by decide +kernel
theorem dX10_reckon_36 : decode cX10_reckon 36 = .ok (.lconst 0, 1) := by decide +kernel
theorem dX10_reckon_37 : decode cX10_reckon 37 = .ok (.lastore, 1) := by decide +kernel
theorem dX10_reckon_38 : decode cX10_reckon 38 = .ok (.aload_n 0, 1) := by decide +kernel
theorem dX10_reckon_39 : decode cX10_reckon 39 = .ok (.getfield 84, 3) := by decide +kernel
theorem dX10_reckon_42 : decode cX10_reckon 42 = .ok (.iload_n 2, 1) := by decide +kernel
theorem dX10_reckon_43 : decode cX10_reckon 43 = .ok (.aload_n 0, 1) := by decide +kernel
theorem dX10_reckon_44 : decode cX10_reckon 44 = .ok (.getfield 43, 3) := by decide +kernel
theorem dX10_reckon_47 : decode cX10_reckon 47 = .ok (.iconst (-1), 1) := by decide +kernel
theorem dX10_reckon_48 : decode cX10_reckon 48 = .ok (.if_icmp .ne 9, 3) := by decide +kernel
theorem dX10_reckon_51 : decode cX10_reckon 51 = .ok (.ldc2_w 234, 3) := by decide +kernel
theorem dX10_reckon_54 : decode cX10_reckon 54 = .ok (.goto 16, 3) := by decide +kernel
theorem dX10_reckon_57 : decode cX10_reckon 57 = .ok (.aload_n 0, 1) := by decide +kernel
theorem dX10_reckon_58 : decode cX10_reckon 58 = .ok (.getfield 43, 3) := by decide +kernel
theorem dX10_reckon_61 : decode cX10_reckon 61 = .ok (.i2l, 1) := by decide +kernel
theorem dX10_reckon_62 : decode cX10_reckon 62 = .ok (.aload_n 0, 1) := by decide +kernel
theorem dX10_reckon_63 : decode cX10_reckon 63 = .ok (.getfield 16, 3) := by decide +kernel
theorem dX10_reckon_66 : decode cX10_reckon 66 = .ok (.iload_n 2, 1) := by decide +kernel
theorem dX10_reckon_67 : decode cX10_reckon 67 = .ok (.iaload, 1) := by decide +kernel
theorem dX10_reckon_68 : decode cX10_reckon 68 = .ok (.i2l, 1) := by decide +kernel
theorem dX10_reckon_69 : decode cX10_reckon 69 = .ok (.lmul, 1) := by decide +kernel
theorem dX10_reckon_70 : decode cX10_reckon 70 = .ok (.lastore, 1) := by decide +kernel
theorem dX10_reckon_71 : decode cX10_reckon 71 = .ok (.iinc 2 1, 3) := by decide +kernel
theorem dX10_reckon_74 : decode cX10_reckon 74 = .ok (.goto (-72), 3) := by decide +kernel
theorem dX10_reckon_77 : decode cX10_reckon 77 = .ok (.iconst 0, 1) := by decide +kernel
theorem dX10_reckon_78 : decode cX10_reckon 78 = .ok (.istore_n 2, 1) := by decide +kernel
theorem dX10_reckon_79 : decode cX10_reckon 79 = .ok (.iload_n 2, 1) := by decide +kernel
theorem dX10_reckon_80 : decode cX10_reckon 80 = .ok (.aload_n 0, 1) := by decide +kernel
theorem dX10_reckon_81 : decode cX10_reckon 81 = .ok (.getfield 151, 3) := by decide +kernel
theorem dX10_reckon_84 : decode cX10_reckon 84 = .ok (.if_icmp .ge 44, 3) := by decide +kernel
theorem dX10_reckon_87 : decode cX10_reckon 87 = .ok (.aload_n 0, 1) := by decide +kernel
theorem dX10_reckon_88 : decode cX10_reckon 88 = .ok (.getfield 72, 3) := by decide +kernel
theorem dX10_reckon_91 : decode cX10_reckon 91 = .ok (.aload_n 0, 1) := by decide +kernel
theorem dX10_reckon_92 : decode cX10_reckon 92 = .ok (.getfield 19, 3) := by decide +kernel
theorem dX10_reckon_95 : decode cX10_reckon 95 = .ok (.iload_n 2, 1) := by decide +kernel
theorem dX10_reckon_96 : decode cX10_reckon 96 = .ok (.iaload, 1) := by decide +kernel
theorem dX10_reckon_97 : decode cX10_reckon 97 = .ok (.dup2, 1) := by decide +kernel
theorem dX10_reckon_98 : decode cX10_reckon 98 = .ok (.laload, 1) := by decide +kernel
theorem dX10_reckon_99 : decode cX10_reckon 99 = .ok (.aload_n 0, 1) := by decide +kernel
theorem dX10_reckon_100 : decode cX10_reckon 100 = .ok (.getfield 25, 3) := by decide +kernel
theorem dX10_reckon_103 : decode cX10_reckon 103 = .ok (.iload_n 2, 1) := by decide +kernel
theorem dX10_reckon_104 : decode cX10_reckon 104 = .ok (.iaload, 1) := by decide +kernel
theorem dX10_reckon_105 : decode cX10_reckon 105 = .ok (.iload_n 1, 1) := by decide +kernel
theorem dX10_reckon_106 : decode cX10_reckon 106 = .ok (.if_icmp .gt 13, 3) := by decide +kernel
theorem dX10_reckon_109 : decode cX10_reckon 109 = .ok (.aload_n 0, 1) := by decide +kernel
theorem dX10_reckon_110 : decode cX10_reckon 110 = .ok (.getfield 22, 3) := by decide +kernel
theorem dX10_reckon_113 : decode cX10_reckon 113 = .ok (.iload_n 2, 1) := by decide +kernel
theorem dX10_reckon_114 : decode cX10_reckon 114 = .ok (.iaload, 1) := by decide +kernel
theorem dX10_reckon_115 : decode cX10_reckon 115 = .ok (.i2l, 1) := by decide +kernel
theorem dX10_reckon_116 : decode cX10_reckon 116 = .ok (.goto 4, 3) := by decide +kernel
theorem dX10_reckon_119 : decode cX10_reckon 119 = .ok (.lconst 0, 1) := by decide +kernel
theorem dX10_reckon_120 : decode cX10_reckon 120 = .ok (.ladd, 1) := by decide +kernel
theorem dX10_reckon_121 : decode cX10_reckon 121 = .ok (.lastore, 1) := by decide +kernel
theorem dX10_reckon_122 : decode cX10_reckon 122 = .ok (.iinc 2 1, 3) := by decide +kernel
theorem dX10_reckon_125 : decode cX10_reckon 125 = .ok (.goto (-46), 3) := by decide +kernel
theorem dX10_reckon_128 : decode cX10_reckon 128 = .ok (.iconst 0, 1) := by decide +kernel
theorem dX10_reckon_129 : decode cX10_reckon 129 = .ok (.istore_n 2, 1) := by decide +kernel
theorem dX10_reckon_130 : decode cX10_reckon 130 = .ok (.iload_n 2, 1) := by decide +kernel
theorem dX10_reckon_131 : decode cX10_reckon 131 = .ok (.aload_n 0, 1) := by decide +kernel
theorem dX10_reckon_132 : decode cX10_reckon 132 = .ok (.getfield 156, 3) := by decide +kernel
theorem dX10_reckon_135 : decode cX10_reckon 135 = .ok (.if_icmp .ge 147, 3) := by decide +kernel
theorem dX10_reckon_138 : decode cX10_reckon 138 = .ok (.aload_n 0, 1) := by decide +kernel
theorem dX10_reckon_139 : decode cX10_reckon 139 = .ok (.getfield 37, 3) := by decide +kernel
theorem dX10_reckon_142 : decode cX10_reckon 142 = .ok (.iload_n 2, 1) := by decide +kernel
theorem dX10_reckon_143 : decode cX10_reckon 143 = .ok (.iaload, 1) := by decide +kernel
theorem dX10_reckon_144 : decode cX10_reckon 144 = .ok (.iload_n 1, 1) := by decide +kernel
theorem dX10_reckon_145 : decode cX10_reckon 145 = .ok (.if_icmp .le 6, 3) := by decide +kernel
theorem dX10_reckon_148 : decode cX10_reckon 148 = .ok (.goto 128, 3) := by decide +kernel
theorem dX10_reckon_151 : decode cX10_reckon 151 = .ok (.aload_n 0, 1) := by decide +kernel
theorem dX10_reckon_152 : decode cX10_reckon 152 = .ok (.getfield 28, 3) := by decide +kernel
theorem dX10_reckon_155 : decode cX10_reckon 155 = .ok (.iload_n 2, 1) := by decide +kernel
theorem dX10_reckon_156 : decode cX10_reckon 156 = .ok (.iaload, 1) := by decide +kernel
theorem dX10_reckon_157 : decode cX10_reckon 157 = .ok (.istore_n 3, 1) := by decide +kernel
theorem dX10_reckon_158 : decode cX10_reckon 158 = .ok (.aload_n 0, 1) := by decide +kernel
theorem dX10_reckon_159 : decode cX10_reckon 159 = .ok (.getfield 31, 3) := by decide +kernel
theorem dX10_reckon_162 : decode cX10_reckon 162 = .ok (.iload_n 2, 1) := by decide +kernel
theorem dX10_reckon_163 : decode cX10_reckon 163 = .ok (.iaload, 1) := by decide +kernel
theorem dX10_reckon_164 : decode cX10_reckon 164 = .ok (.i2l, 1) := by decide +kernel
theorem dX10_reckon_165 : decode cX10_reckon 165 = .ok (.aload_n 0, 1) := by decide +kernel
theorem dX10_reckon_166 : decode cX10_reckon 166 = .ok (.getfield 84, 3) := by decide +kernel
theorem dX10_reckon_169 : decode cX10_reckon 169 = .ok (.iload_n 3, 1) := by decide +kernel
theorem dX10_reckon_170 : decode cX10_reckon 170 = .ok (.laload, 1) := by decide +kernel
theorem dX10_reckon_171 : decode cX10_reckon 171 = .ok (.lcmp, 1) := by decide +kernel
theorem dX10_reckon_172 : decode cX10_reckon 172 = .ok (.ifCond .ge 13, 3) := by decide +kernel
theorem dX10_reckon_175 : decode cX10_reckon 175 = .ok (.aload_n 0, 1) := by decide +kernel
theorem dX10_reckon_176 : decode cX10_reckon 176 = .ok (.getfield 31, 3) := by decide +kernel
theorem dX10_reckon_179 : decode cX10_reckon 179 = .ok (.iload_n 2, 1) := by decide +kernel
theorem dX10_reckon_180 : decode cX10_reckon 180 = .ok (.iaload, 1) := by decide +kernel
theorem dX10_reckon_181 : decode cX10_reckon 181 = .ok (.i2l, 1) := by decide +kernel
theorem dX10_reckon_182 : decode cX10_reckon 182 = .ok (.goto 9, 3) := by decide +kernel
theorem dX10_reckon_185 : decode cX10_reckon 185 = .ok (.aload_n 0, 1) := by decide +kernel
theorem dX10_reckon_186 : decode cX10_reckon 186 = .ok (.getfield 84, 3) := by decide +kernel
theorem dX10_reckon_189 : decode cX10_reckon 189 = .ok (.iload_n 3, 1) := by decide +kernel
theorem dX10_reckon_190 : decode cX10_reckon 190 = .ok (.laload, 1) := by decide +kernel
theorem dX10_reckon_191 : decode cX10_reckon 191 = .ok (.lstore 4, 2) := by decide +kernel
theorem dX10_reckon_193 : decode cX10_reckon 193 = .ok (.aload_n 0, 1) := by decide +kernel
theorem dX10_reckon_194 : decode cX10_reckon 194 = .ok (.getfield 84, 3) := by decide +kernel
theorem dX10_reckon_197 : decode cX10_reckon 197 = .ok (.iload_n 3, 1) := by decide +kernel
theorem dX10_reckon_198 : decode cX10_reckon 198 = .ok (.dup2, 1) := by decide +kernel
theorem dX10_reckon_199 : decode cX10_reckon 199 = .ok (.laload, 1) := by decide +kernel
theorem dX10_reckon_200 : decode cX10_reckon 200 = .ok (.lload 4, 2) := by decide +kernel
theorem dX10_reckon_202 : decode cX10_reckon 202 = .ok (.lsub, 1) := by decide +kernel
theorem dX10_reckon_203 : decode cX10_reckon 203 = .ok (.lastore, 1) := by decide +kernel
theorem dX10_reckon_204 : decode cX10_reckon 204 = .ok (.aload_n 0, 1) := by decide +kernel
theorem dX10_reckon_205 : decode cX10_reckon 205 = .ok (.getfield 68, 3) := by decide +kernel
theorem dX10_reckon_208 : decode cX10_reckon 208 = .ok (.iload_n 3, 1) := by decide +kernel
theorem dX10_reckon_209 : decode cX10_reckon 209 = .ok (.dup2, 1) := by decide +kernel
theorem dX10_reckon_210 : decode cX10_reckon 210 = .ok (.laload, 1) := by decide +kernel
theorem dX10_reckon_211 : decode cX10_reckon 211 = .ok (.aload_n 0, 1) := by decide +kernel
theorem dX10_reckon_212 : decode cX10_reckon 212 = .ok (.getfield 31, 3) := by decide +kernel
theorem dX10_reckon_215 : decode cX10_reckon 215 = .ok (.iload_n 2, 1) := by decide +kernel
theorem dX10_reckon_216 : decode cX10_reckon 216 = .ok (.iaload, 1) := by decide +kernel
theorem dX10_reckon_217 : decode cX10_reckon 217 = .ok (.i2l, 1) := by decide +kernel
theorem dX10_reckon_218 : decode cX10_reckon 218 = .ok (.ladd, 1) := by decide +kernel
theorem dX10_reckon_219 : decode cX10_reckon 219 = .ok (.lastore, 1) := by decide +kernel
theorem dX10_reckon_220 : decode cX10_reckon 220 = .ok (.aload_n 0, 1) := by decide +kernel
theorem dX10_reckon_221 : decode cX10_reckon 221 = .ok (.getfield 75, 3) := by decide +kernel
theorem dX10_reckon_224 : decode cX10_reckon 224 = .ok (.iload_n 3, 1) := by decide +kernel
theorem dX10_reckon_225 : decode cX10_reckon 225 = .ok (.dup2, 1) := by decide +kernel
theorem dX10_reckon_226 : decode cX10_reckon 226 = .ok (.laload, 1) := by decide +kernel
theorem dX10_reckon_227 : decode cX10_reckon 227 = .ok (.lload 4, 2) := by decide +kernel
theorem dX10_reckon_229 : decode cX10_reckon 229 = .ok (.aload_n 0, 1) := by decide +kernel
theorem dX10_reckon_230 : decode cX10_reckon 230 = .ok (.getfield 40, 3) := by decide +kernel
theorem dX10_reckon_233 : decode cX10_reckon 233 = .ok (.aload_n 0, 1) := by decide +kernel
theorem dX10_reckon_234 : decode cX10_reckon 234 = .ok (.getfield 34, 3) := by decide +kernel
theorem dX10_reckon_237 : decode cX10_reckon 237 = .ok (.iload_n 2, 1) := by decide +kernel
theorem dX10_reckon_238 : decode cX10_reckon 238 = .ok (.iaload, 1) := by decide +kernel
theorem dX10_reckon_239 : decode cX10_reckon 239 = .ok (.iaload, 1) := by decide +kernel
theorem dX10_reckon_240 : decode cX10_reckon 240 = .ok (.i2l, 1) := by decide +kernel
theorem dX10_reckon_241 : decode cX10_reckon 241 = .ok (.lmul, 1) := by decide +kernel
theorem dX10_reckon_242 : decode cX10_reckon 242 = .ok (.ladd, 1) := by decide +kernel
theorem dX10_reckon_243 : decode cX10_reckon 243 = .ok (.lastore, 1) := by decide +kernel
theorem dX10_reckon_244 : decode cX10_reckon 244 = .ok (.aload_n 0, 1) := by decide +kernel
theorem dX10_reckon_245 : decode cX10_reckon 245 = .ok (.getfield 81, 3) := by decide +kernel
theorem dX10_reckon_248 : decode cX10_reckon 248 = .ok (.iload_n 3, 1) := by decide +kernel
theorem dX10_reckon_249 : decode cX10_reckon 249 = .ok (.dup2, 1) := by decide +kernel
theorem dX10_reckon_250 : decode cX10_reckon 250 = .ok (.laload, 1) := by decide +kernel
theorem dX10_reckon_251 : decode cX10_reckon 251 = .ok (.aload_n 0, 1) := by decide +kernel
theorem dX10_reckon_252 : decode cX10_reckon 252 = .ok (.getfield 31, 3) := by decide +kernel
theorem dX10_reckon_255 : decode cX10_reckon 255 = .ok (.iload_n 2, 1) := by decide +kernel
theorem dX10_reckon_256 : decode cX10_reckon 256 = .ok (.iaload, 1) := by decide +kernel
theorem dX10_reckon_257 : decode cX10_reckon 257 = .ok (.i2l, 1) := by decide +kernel
theorem dX10_reckon_258 : decode cX10_reckon 258 = .ok (.lload 4, 2) := by decide +kernel
theorem dX10_reckon_260 : decode cX10_reckon 260 = .ok (.lsub, 1) := by decide +kernel
theorem dX10_reckon_261 : decode cX10_reckon 261 = .ok (.aload_n 0, 1) := by decide +kernel
theorem dX10_reckon_262 : decode cX10_reckon 262 = .ok (.getfield 40, 3) := by decide +kernel
theorem dX10_reckon_265 : decode cX10_reckon 265 = .ok (.aload_n 0, 1) := by decide +kernel
theorem dX10_reckon_266 : decode cX10_reckon 266 = .ok (.getfield 34, 3) := by decide +kernel
theorem dX10_reckon_269 : decode cX10_reckon 269 = .ok (.iload_n 2, 1) := by decide +kernel
theorem dX10_reckon_270 : decode cX10_reckon 270 = .ok (.iaload, 1) := by decide +kernel
theorem dX10_reckon_271 : decode cX10_reckon 271 = .ok (.iaload, 1) := by decide +kernel
theorem dX10_reckon_272 : decode cX10_reckon 272 = .ok (.i2l, 1) := by decide +kernel
theorem dX10_reckon_273 : decode cX10_reckon 273 = .ok (.lmul, 1) := by decide +kernel
theorem dX10_reckon_274 : decode cX10_reckon 274 = .ok (.ladd, 1) := by decide +kernel
theorem dX10_reckon_275 : decode cX10_reckon 275 = .ok (.lastore, 1) := by decide +kernel
theorem dX10_reckon_276 : decode cX10_reckon 276 = .ok (.iinc 2 1, 3) := by decide +kernel
theorem dX10_reckon_279 : decode cX10_reckon 279 = .ok (.goto (-149), 3) := by decide +kernel
theorem dX10_reckon_282 : decode cX10_reckon 282 = .ok (.iconst 0, 1) := by decide +kernel
theorem dX10_reckon_283 : decode cX10_reckon 283 = .ok (.istore_n 2, 1) := by decide +kernel
theorem dX10_reckon_284 : decode cX10_reckon 284 = .ok (.iload_n 2, 1) := by decide +kernel
theorem dX10_reckon_285 : decode cX10_reckon 285 = .ok (.aload_n 0, 1) := by decide +kernel
theorem dX10_reckon_286 : decode cX10_reckon 286 = .ok (.getfield 129, 3) := by decide +kernel
theorem dX10_reckon_289 : decode cX10_reckon 289 = .ok (.if_icmp .ge 118, 3) := by decide +kernel
theorem dX10_reckon_292 : decode cX10_reckon 292 = .ok (.aload_n 0, 1) := by decide +kernel
theorem dX10_reckon_293 : decode cX10_reckon 293 = .ok (.getfield 75, 3) := by decide +kernel
theorem dX10_reckon_296 : decode cX10_reckon 296 = .ok (.iload_n 2, 1) := by decide +kernel
theorem dX10_reckon_297 : decode cX10_reckon 297 = .ok (.dup2, 1) := by decide +kernel
theorem dX10_reckon_298 : decode cX10_reckon 298 = .ok (.laload, 1) := by decide +kernel
theorem dX10_reckon_299 : decode cX10_reckon 299 = .ok (.aload_n 0, 1) := by decide +kernel
theorem dX10_reckon_300 : decode cX10_reckon 300 = .ok (.aload_n 0, 1) := by decide +kernel
theorem dX10_reckon_301 : decode cX10_reckon 301 = .ok (.getfield 81, 3) := by decide +kernel
theorem dX10_reckon_304 : decode cX10_reckon 304 = .ok (.iload_n 2, 1) := by decide +kernel
theorem dX10_reckon_305 : decode cX10_reckon 305 = .ok (.laload, 1) := by decide +kernel
theorem dX10_reckon_306 : decode cX10_reckon 306 = .ok (.iconst 0, 1) := by decide +kernel
theorem dX10_reckon_307 : decode cX10_reckon 307 = .ok (.invokevirtual 236, 3) := by decide +kernel
theorem dX10_reckon_310 : decode cX10_reckon 310 = .ok (.ladd, 1) := by decide +kernel
theorem dX10_reckon_311 : decode cX10_reckon 311 = .ok (.lastore, 1) := by decide +kernel
theorem dX10_reckon_312 : decode cX10_reckon 312 = .ok (.aload_n 0, 1) := by decide +kernel
theorem dX10_reckon_313 : decode cX10_reckon 313 = .ok (.aload_n 0, 1) := by decide +kernel
theorem dX10_reckon_314 : decode cX10_reckon 314 = .ok (.getfield 75, 3) := by decide +kernel
theorem dX10_reckon_317 : decode cX10_reckon 317 = .ok (.iload_n 2, 1) := by decide +kernel
theorem dX10_reckon_318 : decode cX10_reckon 318 = .ok (.laload, 1) := by decide +kernel
theorem dX10_reckon_319 : decode cX10_reckon 319 = .ok (.iconst 1, 1) := by decide +kernel
theorem dX10_reckon_320 : decode cX10_reckon 320 = .ok (.invokevirtual 236, 3) := by decide +kernel
theorem dX10_reckon_323 : decode cX10_reckon 323 = .ok (.lstore_n 3, 1) := by decide +kernel
theorem dX10_reckon_324 : decode cX10_reckon 324 = .ok (.aload_n 0, 1) := by decide +kernel
theorem dX10_reckon_325 : decode cX10_reckon 325 = .ok (.getfield 78, 3) := by decide +kernel
theorem dX10_reckon_328 : decode cX10_reckon 328 = .ok (.iload_n 2, 1) := by decide +kernel
theorem dX10_reckon_329 : decode cX10_reckon 329 = .ok (.lload_n 3, 1) := by decide +kernel
theorem dX10_reckon_330 : decode cX10_reckon 330 = .ok (.aload_n 0, 1) := by decide +kernel
theorem dX10_reckon_331 : decode cX10_reckon 331 = .ok (.getfield 72, 3) := by decide +kernel
theorem dX10_reckon_334 : decode cX10_reckon 334 = .ok (.iload_n 2, 1) := by decide +kernel
theorem dX10_reckon_335 : decode cX10_reckon 335 = .ok (.laload, 1) := by decide +kernel
theorem dX10_reckon_336 : decode cX10_reckon 336 = .ok (.lcmp, 1) := by decide +kernel
theorem dX10_reckon_337 : decode cX10_reckon 337 = .ok (.ifCond .ge 7, 3) := by decide +kernel
theorem dX10_reckon_340 : decode cX10_reckon 340 = .ok (.lload_n 3, 1) := by decide +kernel
theorem dX10_reckon_341 : decode cX10_reckon 341 = .ok (.goto 9, 3) := by decide +kernel
theorem dX10_reckon_344 : decode cX10_reckon 344 = .ok (.aload_n 0, 1) := by decide +kernel
theorem dX10_reckon_345 : decode cX10_reckon 345 = .ok (.getfield 72, 3) := by decide +kernel
theorem dX10_reckon_348 : decode cX10_reckon 348 = .ok (.iload_n 2, 1) := by decide +kernel
theorem dX10_reckon_349 : decode cX10_reckon 349 = .ok (.laload, 1) := by decide +kernel
theorem dX10_reckon_350 : decode cX10_reckon 350 = .ok (.lastore, 1) := by decide +kernel
theorem dX10_reckon_351 : decode cX10_reckon 351 = .ok (.aload_n 0, 1) := by decide +kernel
theorem dX10_reckon_352 : decode cX10_reckon 352 = .ok (.getfield 87, 3) := by decide +kernel
theorem dX10_reckon_355 : decode cX10_reckon 355 = .ok (.iload_n 2, 1) := by decide +kernel
theorem dX10_reckon_356 : decode cX10_reckon 356 = .ok (.aload_n 0, 1) := by decide +kernel
theorem dX10_reckon_357 : decode cX10_reckon 357 = .ok (.aload_n 0, 1) := by decide +kernel
theorem dX10_reckon_358 : decode cX10_reckon 358 = .ok (.getfield 75, 3) := by decide +kernel
theorem dX10_reckon_361 : decode cX10_reckon 361 = .ok (.iload_n 2, 1) := by decide +kernel
theorem dX10_reckon_362 : decode cX10_reckon 362 = .ok (.laload, 1) := by decide +kernel
theorem dX10_reckon_363 : decode cX10_reckon 363 = .ok (.aload_n 0, 1) := by decide +kernel
theorem dX10_reckon_364 : decode cX10_reckon 364 = .ok (.getfield 78, 3) := by decide +kernel
theorem dX10_reckon_367 : decode cX10_reckon 367 = .ok (.iload_n 2, 1) := by decide +kernel
theorem dX10_reckon_368 : decode cX10_reckon 368 = .ok (.laload, 1) := by decide +kernel
theorem dX10_reckon_369 : decode cX10_reckon 369 = .ok (.lsub, 1) := by decide +kernel
theorem dX10_reckon_370 : decode cX10_reckon 370 = .ok (.iconst 2, 1) := by decide +kernel
theorem dX10_reckon_371 : decode cX10_reckon 371 = .ok (.invokevirtual 236, 3) := by decide +kernel
theorem dX10_reckon_374 : decode cX10_reckon 374 = .ok (.lastore, 1) := by decide +kernel
theorem dX10_reckon_375 : decode cX10_reckon 375 = .ok (.aload_n 0, 1) := by decide +kernel
theorem dX10_reckon_376 : decode cX10_reckon 376 = .ok (.getfield 90, 3) := by decide +kernel
theorem dX10_reckon_379 : decode cX10_reckon 379 = .ok (.iload_n 2, 1) := by decide +kernel
theorem dX10_reckon_380 : decode cX10_reckon 380 = .ok (.lconst 0, 1) := by decide +kernel
theorem dX10_reckon_381 : decode cX10_reckon 381 = .ok (.lastore, 1) := by decide +kernel
theorem dX10_reckon_382 : decode cX10_reckon 382 = .ok (.aload_n 0, 1) := by decide +kernel
theorem dX10_reckon_383 : decode cX10_reckon 383 = .ok (.getfield 93, 3) := by decide +kernel
theorem dX10_reckon_386 : decode cX10_reckon 386 = .ok (.iload_n 2, 1) := by decide +kernel
theorem dX10_reckon_387 : decode cX10_reckon 387 = .ok (.aload_n 0, 1) := by decide +kernel
theorem dX10_reckon_388 : decode cX10_reckon 388 = .ok (.getfield 72, 3) := by decide +kernel
theorem dX10_reckon_391 : decode cX10_reckon 391 = .ok (.iload_n 2, 1) := by decide +kernel
theorem dX10_reckon_392 : decode cX10_reckon 392 = .ok (.laload, 1) := by decide +kernel
theorem dX10_reckon_393 : decode cX10_reckon 393 = .ok (.aload_n 0, 1) := by decide +kernel
theorem dX10_reckon_394 : decode cX10_reckon 394 = .ok (.getfield 78, 3) := by decide +kernel
theorem dX10_reckon_397 : decode cX10_reckon 397 = .ok (.iload_n 2, 1) := by decide +kernel
theorem dX10_reckon_398 : decode cX10_reckon 398 = .ok (.laload, 1) := by decide +kernel
theorem dX10_reckon_399 : decode cX10_reckon 399 = .ok (.lsub, 1) := by decide +kernel
theorem dX10_reckon_400 : decode cX10_reckon 400 = .ok (.lastore, 1) := by decide +kernel
theorem dX10_reckon_401 : decode cX10_reckon 401 = .ok (.iinc 2 1, 3) := by decide +kernel
theorem dX10_reckon_404 : decode cX10_reckon 404 = .ok (.goto (-120), 3) := by decide +kernel
theorem dX10_reckon_407 : decode cX10_reckon 407 = .ok (.iconst 0, 1) := by decide +kernel
theorem dX10_reckon_408 : decode cX10_reckon 408 = .ok (.istore_n 2, 1) := by decide +kernel
theorem dX10_reckon_409 : decode cX10_reckon 409 = .ok (.iload_n 2, 1) := by decide +kernel
theorem dX10_reckon_410 : decode cX10_reckon 410 = .ok (.bipush 10, 2) := by decide +kernel
theorem dX10_reckon_412 : decode cX10_reckon 412 = .ok (.if_icmp .ge 14, 3) := by decide +kernel
theorem dX10_reckon_415 : decode cX10_reckon 415 = .ok (.aload_n 0, 1) := by decide +kernel
theorem dX10_reckon_416 : decode cX10_reckon 416 = .ok (.iload_n 2, 1) := by decide +kernel
theorem dX10_reckon_417 : decode cX10_reckon 417 = .ok (.invokevirtual 240, 3) := by decide +kernel
theorem dX10_reckon_420 : decode cX10_reckon 420 = .ok (.iinc 2 1, 3) := by decide +kernel
theorem dX10_reckon_423 : decode cX10_reckon 423 = .ok (.goto (-14), 3) := by decide +kernel
theorem dX10_reckon_426 : decode cX10_reckon 426 = .ok (.return_, 1) := by decide +kernel
theorem dX10_givenAt_0 : decode cX10_givenAt 0 = .ok (.lconst 0, 1) := by decide +kernel
theorem dX10_givenAt_1 : decode cX10_givenAt 1 = .ok (.lstore 4, 2) := by decide +kernel
theorem dX10_givenAt_3 : decode cX10_givenAt 3 = .ok (.iconst 0, 1) := by decide +kernel
theorem dX10_givenAt_4 : decode cX10_givenAt 4 = .ok (.istore 6, 2) := by decide +kernel
theorem dX10_givenAt_6 : decode cX10_givenAt 6 = .ok (.iload 6, 2) := by decide +kernel
theorem dX10_givenAt_8 : decode cX10_givenAt 8 = .ok (.aload_n 0, 1) := by decide +kernel
theorem dX10_givenAt_9 : decode cX10_givenAt 9 = .ok (.getfield 129, 3) := by decide +kernel
theorem dX10_givenAt_12 : decode cX10_givenAt 12 = .ok (.if_icmp .ge 52, 3) := by decide +kernel
theorem dX10_givenAt_15 : decode cX10_givenAt 15 = .ok (.lload 4, 2) := by decide +kernel
theorem dX10_givenAt_17 : decode cX10_givenAt 17 = .ok (.aload_n 0, 1) := by decide +kernel
theorem dX10_givenAt_18 : decode cX10_givenAt 18 = .ok (.getfield 7, 3) := by decide +kernel
theorem dX10_givenAt_21 : decode cX10_givenAt 21 = .ok (.iload 6, 2) := by decide +kernel
theorem dX10_givenAt_23 : decode cX10_givenAt 23 = .ok (.iaload, 1) := by decide +kernel
theorem dX10_givenAt_24 : decode cX10_givenAt 24 = .ok (.iload_n 1, 1) := by decide +kernel
theorem dX10_givenAt_25 : decode cX10_givenAt 25 = .ok (.if_icmp .eq 7, 3) := by decide +kernel
theorem dX10_givenAt_28 : decode cX10_givenAt 28 = .ok (.lconst 0, 1) := by decide +kernel
theorem dX10_givenAt_29 : decode cX10_givenAt 29 = .ok (.goto 26, 3) := by decide +kernel
end
section
theorem dX10_givenAt_32 : decode cX10_givenAt 32 = .ok (.aload_n 0, 1) := by decide +kernel
theorem dX10_givenAt_33 : decode cX10_givenAt 33 = .ok (.getfield 87, 3) := by decide +kernel
theorem dX10_givenAt_36 : decode cX10_givenAt 36 = .ok (.iload 6, 2) := by decide +kernel
theorem dX10_givenAt_38 : decode cX10_givenAt 38 = .ok (.laload, 1) := by decide +kernel
theorem dX10_givenAt_39 : decode cX10_givenAt 39 = .ok (.lload_n 2, 1) := by decide +kernel
theorem dX10_givenAt_40 : decode cX10_givenAt 40 = .ok (.lcmp, 1) := by decide +kernel
theorem dX10_givenAt_41 : decode cX10_givenAt 41 = .ok (.ifCond .ge 13, 3) := by decide +kernel
theorem dX10_givenAt_44 : decode cX10_givenAt 44 = .ok (.aload_n 0, 1) := by decide +kernel
theorem dX10_givenAt_45 : decode cX10_givenAt 45 = .ok (.getfield 87, 3) := by decide +kernel
theorem dX10_givenAt_48 : decode cX10_givenAt 48 = .ok (.iload 6, 2) := by decide +kernel
theorem dX10_givenAt_50 : decode cX10_givenAt 50 = .ok (.laload, 1) := by decide +kernel
theorem dX10_givenAt_51 : decode cX10_givenAt 51 = .ok (.goto 4, 3) := by decide +kernel
theorem dX10_givenAt_54 : decode cX10_givenAt 54 = .ok (.lload_n 2, 1) := by decide +kernel
theorem dX10_givenAt_55 : decode cX10_givenAt 55 = .ok (.ladd, 1) := by decide +kernel
theorem dX10_givenAt_56 : decode cX10_givenAt 56 = .ok (.lstore 4, 2) := by decide +kernel
theorem dX10_givenAt_58 : decode cX10_givenAt 58 = .ok (.iinc 6 1, 3) := by decide +kernel
theorem dX10_givenAt_61 : decode cX10_givenAt 61 = .ok (.goto (-55), 3) := by decide +kernel
theorem dX10_givenAt_64 : decode cX10_givenAt 64 = .ok (.lload 4, 2) := by decide +kernel
theorem dX10_givenAt_66 : decode cX10_givenAt 66 = .ok (.lreturn, 1) := by decide +kernel
theorem dX10_stand_0 : decode cX10_stand 0 = .ok (.lconst 0, 1) := by decide +kernel
theorem dX10_stand_1 : decode cX10_stand 1 = .ok (.lstore_n 2, 1) := by decide +kernel
theorem dX10_stand_2 : decode cX10_stand 2 = .ok (.lconst 0, 1) := by decide +kernel
theorem dX10_stand_3 : decode cX10_stand 3 = .ok (.lstore 4, 2) := by decide +kernel
theorem dX10_stand_5 : decode cX10_stand 5 = .ok (.iconst 0, 1) := by decide +kernel
theorem dX10_stand_6 : decode cX10_stand 6 = .ok (.istore 6, 2) := by decide +kernel
theorem dX10_stand_8 : decode cX10_stand 8 = .ok (.iload 6, 2) := by decide +kernel
theorem dX10_stand_10 : decode cX10_stand 10 = .ok (.aload_n 0, 1) := by decide +kernel
theorem dX10_stand_11 : decode cX10_stand 11 = .ok (.getfield 129, 3) := by decide +kernel
theorem dX10_stand_14 : decode cX10_stand 14 = .ok (.if_icmp .ge 72, 3) := by decide +kernel
theorem dX10_stand_17 : decode cX10_stand 17 = .ok (.lload_n 2, 1) := by decide +kernel
theorem dX10_stand_18 : decode cX10_stand 18 = .ok (.aload_n 0, 1) := by decide +kernel
theorem dX10_stand_19 : decode cX10_stand 19 = .ok (.getfield 7, 3) := by decide +kernel
theorem dX10_stand_22 : decode cX10_stand 22 = .ok (.iload 6, 2) := by decide +kernel
theorem dX10_stand_24 : decode cX10_stand 24 = .ok (.iaload, 1) := by decide +kernel
theorem dX10_stand_25 : decode cX10_stand 25 = .ok (.iload_n 1, 1) := by decide +kernel
theorem dX10_stand_26 : decode cX10_stand 26 = .ok (.if_icmp .ne 13, 3) := by decide +kernel
theorem dX10_stand_29 : decode cX10_stand 29 = .ok (.aload_n 0, 1) := by decide +kernel
theorem dX10_stand_30 : decode cX10_stand 30 = .ok (.getfield 93, 3) := by decide +kernel
theorem dX10_stand_33 : decode cX10_stand 33 = .ok (.iload 6, 2) := by decide +kernel
theorem dX10_stand_35 : decode cX10_stand 35 = .ok (.laload, 1) := by decide +kernel
theorem dX10_stand_36 : decode cX10_stand 36 = .ok (.goto 4, 3) := by decide +kernel
theorem dX10_stand_39 : decode cX10_stand 39 = .ok (.lconst 0, 1) := by decide +kernel
theorem dX10_stand_40 : decode cX10_stand 40 = .ok (.ladd, 1) := by decide +kernel
theorem dX10_stand_41 : decode cX10_stand 41 = .ok (.lstore_n 2, 1) := by decide +kernel
theorem dX10_stand_42 : decode cX10_stand 42 = .ok (.aload_n 0, 1) := by decide +kernel
theorem dX10_stand_43 : decode cX10_stand 43 = .ok (.getfield 7, 3) := by decide +kernel
theorem dX10_stand_46 : decode cX10_stand 46 = .ok (.iload 6, 2) := by decide +kernel
theorem dX10_stand_48 : decode cX10_stand 48 = .ok (.iaload, 1) := by decide +kernel
theorem dX10_stand_49 : decode cX10_stand 49 = .ok (.iload_n 1, 1) := by decide +kernel
theorem dX10_stand_50 : decode cX10_stand 50 = .ok (.if_icmp .ne 26, 3) := by decide +kernel
theorem dX10_stand_53 : decode cX10_stand 53 = .ok (.aload_n 0, 1) := by decide +kernel
theorem dX10_stand_54 : decode cX10_stand 54 = .ok (.getfield 87, 3) := by decide +kernel
theorem dX10_stand_57 : decode cX10_stand 57 = .ok (.iload 6, 2) := by decide +kernel
theorem dX10_stand_59 : decode cX10_stand 59 = .ok (.laload, 1) := by decide +kernel
theorem dX10_stand_60 : decode cX10_stand 60 = .ok (.lload 4, 2) := by decide +kernel
theorem dX10_stand_62 : decode cX10_stand 62 = .ok (.lcmp, 1) := by decide +kernel
theorem dX10_stand_63 : decode cX10_stand 63 = .ok (.ifCond .le 13, 3) := by decide +kernel
theorem dX10_stand_66 : decode cX10_stand 66 = .ok (.aload_n 0, 1) := by decide +kernel
theorem dX10_stand_67 : decode cX10_stand 67 = .ok (.getfield 87, 3) := by decide +kernel
theorem dX10_stand_70 : decode cX10_stand 70 = .ok (.iload 6, 2) := by decide +kernel
theorem dX10_stand_72 : decode cX10_stand 72 = .ok (.laload, 1) := by decide +kernel
theorem dX10_stand_73 : decode cX10_stand 73 = .ok (.goto 5, 3) := by decide +kernel
theorem dX10_stand_76 : decode cX10_stand 76 = .ok (.lload 4, 2) := by decide +kernel
theorem dX10_stand_78 : decode cX10_stand 78 = .ok (.lstore 4, 2) := by decide +kernel
theorem dX10_stand_80 : decode cX10_stand 80 = .ok (.iinc 6 1, 3) := by decide +kernel
theorem dX10_stand_83 : decode cX10_stand 83 = .ok (.goto (-75), 3) := by decide +kernel
theorem dX10_stand_86 : decode cX10_stand 86 = .ok (.lconst 0, 1) := by decide +kernel
theorem dX10_stand_87 : decode cX10_stand 87 = .ok (.lstore 6, 2) := by decide +kernel
theorem dX10_stand_89 : decode cX10_stand 89 = .ok (.lload 4, 2) := by decide +kernel
theorem dX10_stand_91 : decode cX10_stand 91 = .ok (.lconst 1, 1) := by decide +kernel
theorem dX10_stand_92 : decode cX10_stand 92 = .ok (.ladd, 1) := by decide +kernel
theorem dX10_stand_93 : decode cX10_stand 93 = .ok (.lstore 8, 2) := by decide +kernel
theorem dX10_stand_95 : decode cX10_stand 95 = .ok (.lload 8, 2) := by decide +kernel
theorem dX10_stand_97 : decode cX10_stand 97 = .ok (.lload 6, 2) := by decide +kernel
theorem dX10_stand_99 : decode cX10_stand 99 = .ok (.lsub, 1) := by decide +kernel
theorem dX10_stand_100 : decode cX10_stand 100 = .ok (.lconst 1, 1) := by decide +kernel
theorem dX10_stand_101 : decode cX10_stand 101 = .ok (.lcmp, 1) := by decide +kernel
theorem dX10_stand_102 : decode cX10_stand 102 = .ok (.ifCond .le 40, 3) := by decide +kernel
theorem dX10_stand_105 : decode cX10_stand 105 = .ok (.lload 6, 2) := by decide +kernel
theorem dX10_stand_107 : decode cX10_stand 107 = .ok (.lload 8, 2) := by decide +kernel
theorem dX10_stand_109 : decode cX10_stand 109 = .ok (.ladd, 1) := by decide +kernel
theorem dX10_stand_110 : decode cX10_stand 110 = .ok (.ldc2_w 243, 3) := by decide +kernel
theorem dX10_stand_113 : decode cX10_stand 113 = .ok (.ldiv, 1) := by decide +kernel
theorem dX10_stand_114 : decode cX10_stand 114 = .ok (.lstore 10, 2) := by decide +kernel
theorem dX10_stand_116 : decode cX10_stand 116 = .ok (.aload_n 0, 1) := by decide +kernel
theorem dX10_stand_117 : decode cX10_stand 117 = .ok (.iload_n 1, 1) := by decide +kernel
theorem dX10_stand_118 : decode cX10_stand 118 = .ok (.lload 10, 2) := by decide +kernel
theorem dX10_stand_120 : decode cX10_stand 120 = .ok (.invokevirtual 245, 3) := by decide +kernel
theorem dX10_stand_123 : decode cX10_stand 123 = .ok (.lload_n 2, 1) := by decide +kernel
theorem dX10_stand_124 : decode cX10_stand 124 = .ok (.lcmp, 1) := by decide +kernel
theorem dX10_stand_125 : decode cX10_stand 125 = .ok (.ifCond .gt 10, 3) := by decide +kernel
theorem dX10_stand_128 : decode cX10_stand 128 = .ok (.lload 10, 2) := by decide +kernel
theorem dX10_stand_130 : decode cX10_stand 130 = .ok (.lstore 6, 2) := by decide +kernel
theorem dX10_stand_132 : decode cX10_stand 132 = .ok (.goto 7, 3) := by decide +kernel
theorem dX10_stand_135 : decode cX10_stand 135 = .ok (.lload 10, 2) := by decide +kernel
theorem dX10_stand_137 : decode cX10_stand 137 = .ok (.lstore 8, 2) := by decide +kernel
theorem dX10_stand_139 : decode cX10_stand 139 = .ok (.goto (-44), 3) := by decide +kernel
theorem dX10_stand_142 : decode cX10_stand 142 = .ok (.lload_n 2, 1) := by decide +kernel
theorem dX10_stand_143 : decode cX10_stand 143 = .ok (.aload_n 0, 1) := by decide +kernel
theorem dX10_stand_144 : decode cX10_stand 144 = .ok (.iload_n 1, 1) := by decide +kernel
theorem dX10_stand_145 : decode cX10_stand 145 = .ok (.lload 6, 2) := by decide +kernel
theorem dX10_stand_147 : decode cX10_stand 147 = .ok (.invokevirtual 245, 3) := by decide +kernel
theorem dX10_stand_150 : decode cX10_stand 150 = .ok (.lsub, 1) := by decide +kernel
theorem dX10_stand_151 : decode cX10_stand 151 = .ok (.lstore 10, 2) := by decide +kernel
theorem dX10_stand_153 : decode cX10_stand 153 = .ok (.lconst 0, 1) := by decide +kernel
theorem dX10_stand_154 : decode cX10_stand 154 = .ok (.lstore 12, 2) := by decide +kernel
theorem dX10_stand_156 : decode cX10_stand 156 = .ok (.iconst 0, 1) := by decide +kernel
theorem dX10_stand_157 : decode cX10_stand 157 = .ok (.istore 14, 2) := by decide +kernel
theorem dX10_stand_159 : decode cX10_stand 159 = .ok (.iload 14, 2) := by decide +kernel
theorem dX10_stand_161 : decode cX10_stand 161 = .ok (.aload_n 0, 1) := by decide +kernel
theorem dX10_stand_162 : decode cX10_stand 162 = .ok (.getfield 129, 3) := by decide +kernel
theorem dX10_stand_165 : decode cX10_stand 165 = .ok (.if_icmp .ge 117, 3) := by decide +kernel
theorem dX10_stand_168 : decode cX10_stand 168 = .ok (.aload_n 0, 1) := by decide +kernel
theorem dX10_stand_169 : decode cX10_stand 169 = .ok (.getfield 7, 3) := by decide +kernel
theorem dX10_stand_172 : decode cX10_stand 172 = .ok (.iload 14, 2) := by decide +kernel
theorem dX10_stand_174 : decode cX10_stand 174 = .ok (.iaload, 1) := by decide +kernel
theorem dX10_stand_175 : decode cX10_stand 175 = .ok (.iload_n 1, 1) := by decide +kernel
theorem dX10_stand_176 : decode cX10_stand 176 = .ok (.if_icmp .ne 100, 3) := by decide +kernel
theorem dX10_stand_179 : decode cX10_stand 179 = .ok (.aload_n 0, 1) := by decide +kernel
theorem dX10_stand_180 : decode cX10_stand 180 = .ok (.getfield 87, 3) := by decide +kernel
theorem dX10_stand_183 : decode cX10_stand 183 = .ok (.iload 14, 2) := by decide +kernel
theorem dX10_stand_185 : decode cX10_stand 185 = .ok (.laload, 1) := by decide +kernel
theorem dX10_stand_186 : decode cX10_stand 186 = .ok (.lload 6, 2) := by decide +kernel
theorem dX10_stand_188 : decode cX10_stand 188 = .ok (.lcmp, 1) := by decide +kernel
theorem dX10_stand_189 : decode cX10_stand 189 = .ok (.ifCond .le 14, 3) := by decide +kernel
theorem dX10_stand_192 : decode cX10_stand 192 = .ok (.lload 10, 2) := by decide +kernel
theorem dX10_stand_194 : decode cX10_stand 194 = .ok (.lconst 0, 1) := by decide +kernel
theorem dX10_stand_195 : decode cX10_stand 195 = .ok (.lcmp, 1) := by decide +kernel
theorem dX10_stand_196 : decode cX10_stand 196 = .ok (.ifCond .le 7, 3) := by decide +kernel
theorem dX10_stand_199 : decode cX10_stand 199 = .ok (.iconst 1, 1) := by decide +kernel
theorem dX10_stand_200 : decode cX10_stand 200 = .ok (.goto 4, 3) := by decide +kernel
theorem dX10_stand_203 : decode cX10_stand 203 = .ok (.iconst 0, 1) := by decide +kernel
theorem dX10_stand_204 : decode cX10_stand 204 = .ok (.istore 15, 2) := by decide +kernel
theorem dX10_stand_206 : decode cX10_stand 206 = .ok (.aload_n 0, 1) := by decide +kernel
theorem dX10_stand_207 : decode cX10_stand 207 = .ok (.getfield 90, 3) := by decide +kernel
theorem dX10_stand_210 : decode cX10_stand 210 = .ok (.iload 14, 2) := by decide +kernel
theorem dX10_stand_212 : decode cX10_stand 212 = .ok (.aload_n 0, 1) := by decide +kernel
theorem dX10_stand_213 : decode cX10_stand 213 = .ok (.getfield 87, 3) := by decide +kernel
theorem dX10_stand_216 : decode cX10_stand 216 = .ok (.iload 14, 2) := by decide +kernel
theorem dX10_stand_218 : decode cX10_stand 218 = .ok (.laload, 1) := by decide +kernel
theorem dX10_stand_219 : decode cX10_stand 219 = .ok (.lload 6, 2) := by decide +kernel
theorem dX10_stand_221 : decode cX10_stand 221 = .ok (.lcmp, 1) := by decide +kernel
theorem dX10_stand_222 : decode cX10_stand 222 = .ok (.ifCond .ge 13, 3) := by decide +kernel
theorem dX10_stand_225 : decode cX10_stand 225 = .ok (.aload_n 0, 1) := by decide +kernel
theorem dX10_stand_226 : decode cX10_stand 226 = .ok (.getfield 87, 3) := by decide +kernel
theorem dX10_stand_229 : decode cX10_stand 229 = .ok (.iload 14, 2) := by decide +kernel
theorem dX10_stand_231 : decode cX10_stand 231 = .ok (.laload, 1) := by decide +kernel
theorem dX10_stand_232 : decode cX10_stand 232 = .ok (.goto 5, 3) := by decide +kernel
theorem dX10_stand_235 : decode cX10_stand 235 = .ok (.lload 6, 2) := by decide +kernel
theorem dX10_stand_237 : decode cX10_stand 237 = .ok (.iload 15, 2) := by decide +kernel
theorem dX10_stand_239 : decode cX10_stand 239 = .ok (.ifCond .eq 7, 3) := by decide +kernel
theorem dX10_stand_242 : decode cX10_stand 242 = .ok (.lconst 1, 1) := by decide +kernel
theorem dX10_stand_243 : decode cX10_stand 243 = .ok (.goto 4, 3) := by decide +kernel
theorem dX10_stand_246 : decode cX10_stand 246 = .ok (.lconst 0, 1) := by decide +kernel
theorem dX10_stand_247 : decode cX10_stand 247 = .ok (.ladd, 1) := by decide +kernel
theorem dX10_stand_248 : decode cX10_stand 248 = .ok (.lastore, 1) := by decide +kernel
theorem dX10_stand_249 : decode cX10_stand 249 = .ok (.lload 10, 2) := by decide +kernel
theorem dX10_stand_251 : decode cX10_stand 251 = .ok (.iload 15, 2) := by decide +kernel
theorem dX10_stand_253 : decode cX10_stand 253 = .ok (.ifCond .eq 7, 3) := by decide +kernel
theorem dX10_stand_256 : decode cX10_stand 256 = .ok (.lconst 1, 1) := by decide +kernel
theorem dX10_stand_257 : decode cX10_stand 257 = .ok (.goto 4, 3) := by decide +kernel
theorem dX10_stand_260 : decode cX10_stand 260 = .ok (.lconst 0, 1) := by decide +kernel
theorem dX10_stand_261 : decode cX10_stand 261 = .ok (.lsub, 1) := by decide +kernel
theorem dX10_stand_262 : decode cX10_stand 262 = .ok (.lstore 10, 2) := by decide +kernel
theorem dX10_stand_264 : decode cX10_stand 264 = .ok (.lload 12, 2) := by decide +kernel
theorem dX10_stand_266 : decode cX10_stand 266 = .ok (.aload_n 0, 1) := by decide +kernel
theorem dX10_stand_267 : decode cX10_stand 267 = .ok (.getfield 90, 3) := by decide +kernel
theorem dX10_stand_270 : decode cX10_stand 270 = .ok (.iload 14, 2) := by decide +kernel
theorem dX10_stand_272 : decode cX10_stand 272 = .ok (.laload, 1) := by decide +kernel
theorem dX10_stand_273 : decode cX10_stand 273 = .ok (.ladd, 1) := by decide +kernel
theorem dX10_stand_274 : decode cX10_stand 274 = .ok (.lstore 12, 2) := by decide +kernel
theorem dX10_stand_276 : decode cX10_stand 276 = .ok (.iinc 14 1, 3) := by decide +kernel
theorem dX10_stand_279 : decode cX10_stand 279 = .ok (.goto (-120), 3) := by decide +kernel
theorem dX10_stand_282 : decode cX10_stand 282 = .ok (.iconst 0, 1) := by decide +kernel
theorem dX10_stand_283 : decode cX10_stand 283 = .ok (.istore 14, 2) := by decide +kernel
theorem dX10_stand_285 : decode cX10_stand 285 = .ok (.iload 14, 2) := by decide +kernel
theorem dX10_stand_287 : decode cX10_stand 287 = .ok (.aload_n 0, 1) := by decide +kernel
theorem dX10_stand_288 : decode cX10_stand 288 = .ok (.getfield 129, 3) := by decide +kernel
theorem dX10_stand_291 : decode cX10_stand 291 = .ok (.if_icmp .ge 66, 3) := by decide +kernel
theorem dX10_stand_294 : decode cX10_stand 294 = .ok (.aload_n 0, 1) := by decide +kernel
theorem dX10_stand_295 : decode cX10_stand 295 = .ok (.getfield 7, 3) := by decide +kernel
theorem dX10_stand_298 : decode cX10_stand 298 = .ok (.iload 14, 2) := by decide +kernel
theorem dX10_stand_300 : decode cX10_stand 300 = .ok (.iaload, 1) := by decide +kernel
theorem dX10_stand_301 : decode cX10_stand 301 = .ok (.iload_n 1, 1) := by decide +kernel
theorem dX10_stand_302 : decode cX10_stand 302 = .ok (.if_icmp .ne 49, 3) := by decide +kernel
theorem dX10_stand_305 : decode cX10_stand 305 = .ok (.aload_n 0, 1) := by decide +kernel
theorem dX10_stand_306 : decode cX10_stand 306 = .ok (.getfield 93, 3) := by decide +kernel
theorem dX10_stand_309 : decode cX10_stand 309 = .ok (.iload 14, 2) := by decide +kernel
theorem dX10_stand_311 : decode cX10_stand 311 = .ok (.laload, 1) := by decide +kernel
theorem dX10_stand_312 : decode cX10_stand 312 = .ok (.lload 12, 2) := by decide +kernel
theorem dX10_stand_314 : decode cX10_stand 314 = .ok (.lcmp, 1) := by decide +kernel
theorem dX10_stand_315 : decode cX10_stand 315 = .ok (.ifCond .ge 13, 3) := by decide +kernel
theorem dX10_stand_318 : decode cX10_stand 318 = .ok (.aload_n 0, 1) := by decide +kernel
theorem dX10_stand_319 : decode cX10_stand 319 = .ok (.getfield 93, 3) := by decide +kernel
theorem dX10_stand_322 : decode cX10_stand 322 = .ok (.iload 14, 2) := by decide +kernel
theorem dX10_stand_324 : decode cX10_stand 324 = .ok (.laload, 1) := by decide +kernel
theorem dX10_stand_325 : decode cX10_stand 325 = .ok (.goto 5, 3) := by decide +kernel
theorem dX10_stand_328 : decode cX10_stand 328 = .ok (.lload 12, 2) := by decide +kernel
theorem dX10_stand_330 : decode cX10_stand 330 = .ok (.lstore 15, 2) := by decide +kernel
theorem dX10_stand_332 : decode cX10_stand 332 = .ok (.aload_n 0, 1) := by decide +kernel
theorem dX10_stand_333 : decode cX10_stand 333 = .ok (.getfield 93, 3) := by decide +kernel
theorem dX10_stand_336 : decode cX10_stand 336 = .ok (.iload 14, 2) := by decide +kernel
theorem dX10_stand_338 : decode cX10_stand 338 = .ok (.dup2, 1) := by decide +kernel
theorem dX10_stand_339 : decode cX10_stand 339 = .ok (.laload, 1) := by decide +kernel
theorem dX10_stand_340 : decode cX10_stand 340 = .ok (.lload 15, 2) := by decide +kernel
theorem dX10_stand_342 : decode cX10_stand 342 = .ok (.lsub, 1) := by decide +kernel
theorem dX10_stand_343 : decode cX10_stand 343 = .ok (.lastore, 1) := by decide +kernel
theorem dX10_stand_344 : decode cX10_stand 344 = .ok (.lload 12, 2) := by decide +kernel
theorem dX10_stand_346 : decode cX10_stand 346 = .ok (.lload 15, 2) := by decide +kernel
theorem dX10_stand_348 : decode cX10_stand 348 = .ok (.lsub, 1) := by decide +kernel
theorem dX10_stand_349 : decode cX10_stand 349 = .ok (.lstore 12, 2) := by decide +kernel
theorem dX10_stand_351 : decode cX10_stand 351 = .ok (.iinc 14 1, 3) := by decide +kernel
theorem dX10_stand_354 : decode cX10_stand 354 = .ok (.goto (-69), 3) := by decide +kernel
theorem dX10_stand_357 : decode cX10_stand 357 = .ok (.return_, 1) := by decide +kernel
theorem dX10_bears_0 : decode cX10_bears 0 = .ok (.aload_n 0, 1) := by decide +kernel
theorem dX10_bears_1 : decode cX10_bears 1 = .ok (.iconst 0, 1) := by decide +kernel
theorem dX10_bears_2 : decode cX10_bears 2 = .ok (.putfield 117, 3) := by decide +kernel
theorem dX10_bears_5 : decode cX10_bears 5 = .ok (.iload_n 1, 1) := by decide +kernel
theorem dX10_bears_6 : decode cX10_bears 6 = .ok (.i2l, 1) := by decide +kernel
theorem dX10_bears_7 : decode cX10_bears 7 = .ok (.lconst 0, 1) := by decide +kernel
theorem dX10_bears_8 : decode cX10_bears 8 = .ok (.ldc2_w 191, 3) := by decide +kernel
theorem dX10_bears_11 : decode cX10_bears 11 = .ok (.invokestatic 125, 3) := by decide +kernel
theorem dX10_bears_14 : decode cX10_bears 14 = .ok (.ifCond .ne 9, 3) := by decide +kernel
theorem dX10_bears_17 : decode cX10_bears 17 = .ok (.aload_n 0, 1) := by decide +kernel
theorem dX10_bears_18 : decode cX10_bears 18 = .ok (.iconst (-1), 1) := by decide +kernel
theorem dX10_bears_19 : decode cX10_bears 19 = .ok (.invokevirtual 138, 3) := by decide +kernel
theorem dX10_bears_22 : decode cX10_bears 22 = .ok (.ireturn, 1) := by decide +kernel
theorem dX10_bears_23 : decode cX10_bears 23 = .ok (.aload_n 0, 1) := by decide +kernel
theorem dX10_bears_24 : decode cX10_bears 24 = .ok (.getfield 249, 3) := by decide +kernel
theorem dX10_bears_27 : decode cX10_bears 27 = .ok (.istore_n 2, 1) := by decide +kernel
theorem dX10_bears_28 : decode cX10_bears 28 = .ok (.aload_n 0, 1) := by decide +kernel
theorem dX10_bears_29 : decode cX10_bears 29 = .ok (.iload_n 1, 1) := by decide +kernel
theorem dX10_bears_30 : decode cX10_bears 30 = .ok (.putfield 249, 3) := by decide +kernel
theorem dX10_bears_33 : decode cX10_bears 33 = .ok (.aload_n 0, 1) := by decide +kernel
theorem dX10_bears_34 : decode cX10_bears 34 = .ok (.iload_n 2, 1) := by decide +kernel
theorem dX10_bears_35 : decode cX10_bears 35 = .ok (.invokevirtual 138, 3) := by decide +kernel
theorem dX10_bears_38 : decode cX10_bears 38 = .ok (.ireturn, 1) := by decide +kernel
theorem dX10_drought_0 : decode cX10_drought 0 = .ok (.aload_n 0, 1) := by decide +kernel
theorem dX10_drought_1 : decode cX10_drought 1 = .ok (.iconst 0, 1) := by decide +kernel
theorem dX10_drought_2 : decode cX10_drought 2 = .ok (.putfield 117, 3) := by decide +kernel
theorem dX10_drought_5 : decode cX10_drought 5 = .ok (.iload_n 1, 1) := by decide +kernel
theorem dX10_drought_6 : decode cX10_drought 6 = .ok (.i2l, 1) := by decide +kernel
theorem dX10_drought_7 : decode cX10_drought 7 = .ok (.lconst 0, 1) := by decide +kernel
theorem dX10_drought_8 : decode cX10_drought 8 = .ok (.ldc2_w 134, 3) := by decide +kernel
theorem dX10_drought_11 : decode cX10_drought 11 = .ok (.invokestatic 125, 3) := by decide +kernel
theorem dX10_drought_14 : decode cX10_drought 14 = .ok (.ifCond .eq 28, 3) := by decide +kernel
theorem dX10_drought_17 : decode cX10_drought 17 = .ok (.iload_n 2, 1) := by decide +kernel
theorem dX10_drought_18 : decode cX10_drought 18 = .ok (.i2l, 1) := by decide +kernel
theorem dX10_drought_19 : decode cX10_drought 19 = .ok (.iload_n 1, 1) := by decide +kernel
theorem dX10_drought_20 : decode cX10_drought 20 = .ok (.i2l, 1) := by decide +kernel
theorem dX10_drought_21 : decode cX10_drought 21 = .ok (.ldc2_w 134, 3) := by decide +kernel
theorem dX10_drought_24 : decode cX10_drought 24 = .ok (.invokestatic 125, 3) := by decide +kernel
theorem dX10_drought_27 : decode cX10_drought 27 = .ok (.ifCond .eq 15, 3) := by decide +kernel
theorem dX10_drought_30 : decode cX10_drought 30 = .ok (.iload_n 3, 1) := by decide +kernel
theorem dX10_drought_31 : decode cX10_drought 31 = .ok (.i2l, 1) := by decide +kernel
theorem dX10_drought_32 : decode cX10_drought 32 = .ok (.lconst 0, 1) := by decide +kernel
theorem dX10_drought_33 : decode cX10_drought 33 = .ok (.ldc2_w 252, 3) := by decide +kernel
theorem dX10_drought_36 : decode cX10_drought 36 = .ok (.invokestatic 125, 3) := by decide +kernel
theorem dX10_drought_39 : decode cX10_drought 39 = .ok (.ifCond .ne 9, 3) := by decide +kernel
theorem dX10_drought_42 : decode cX10_drought 42 = .ok (.aload_n 0, 1) := by decide +kernel
theorem dX10_drought_43 : decode cX10_drought 43 = .ok (.iconst (-1), 1) := by decide +kernel
theorem dX10_drought_44 : decode cX10_drought 44 = .ok (.invokevirtual 138, 3) := by decide +kernel
theorem dX10_drought_47 : decode cX10_drought 47 = .ok (.ireturn, 1) := by decide +kernel
theorem dX10_drought_48 : decode cX10_drought 48 = .ok (.aload_n 0, 1) := by decide +kernel
theorem dX10_drought_49 : decode cX10_drought 49 = .ok (.getfield 254, 3) := by decide +kernel
theorem dX10_drought_52 : decode cX10_drought 52 = .ok (.bipush 60, 2) := by decide +kernel
theorem dX10_drought_54 : decode cX10_drought 54 = .ok (.if_icmp .ne 10, 3) := by decide +kernel
theorem dX10_drought_57 : decode cX10_drought 57 = .ok (.aload_n 0, 1) := by decide +kernel
theorem dX10_drought_58 : decode cX10_drought 58 = .ok (.bipush (-5), 2) := by decide +kernel
theorem dX10_drought_60 : decode cX10_drought 60 = .ok (.invokevirtual 138, 3) := by decide +kernel
theorem dX10_drought_63 : decode cX10_drought 63 = .ok (.ireturn, 1) := by decide +kernel
theorem dX10_drought_64 : decode cX10_drought 64 = .ok (.aload_n 0, 1) := by decide +kernel
theorem dX10_drought_65 : decode cX10_drought 65 = .ok (.getfield 96, 3) := by decide +kernel
theorem dX10_drought_68 : decode cX10_drought 68 = .ok (.aload_n 0, 1) := by decide +kernel
theorem dX10_drought_69 : decode cX10_drought 69 = .ok (.getfield 254, 3) := by decide +kernel
theorem dX10_drought_72 : decode cX10_drought 72 = .ok (.iload_n 1, 1) := by decide +kernel
theorem dX10_drought_73 : decode cX10_drought 73 = .ok (.iastore, 1) := by decide +kernel
theorem dX10_drought_74 : decode cX10_drought 74 = .ok (.aload_n 0, 1) := by decide +kernel
theorem dX10_drought_75 : decode cX10_drought 75 = .ok (.getfield 99, 3) := by decide +kernel
theorem dX10_drought_78 : decode cX10_drought 78 = .ok (.aload_n 0, 1) := by decide +kernel
theorem dX10_drought_79 : decode cX10_drought 79 = .ok (.getfield 254, 3) := by decide +kernel
theorem dX10_drought_82 : decode cX10_drought 82 = .ok (.iload_n 2, 1) := by decide +kernel
theorem dX10_drought_83 : decode cX10_drought 83 = .ok (.iastore, 1) := by decide +kernel
theorem dX10_drought_84 : decode cX10_drought 84 = .ok (.aload_n 0, 1) := by decide +kernel
theorem dX10_drought_85 : decode cX10_drought 85 = .ok (.getfield 102, 3) := by decide +kernel
theorem dX10_drought_88 : decode cX10_drought 88 = .ok (.aload_n 0, 1) := by decide +kernel
theorem dX10_drought_89 : decode cX10_drought 89 = .ok (.getfield 254, 3) := by decide +kernel
theorem dX10_drought_92 : decode cX10_drought 92 = .ok (.iload_n 3, 1) := by decide +kernel
theorem dX10_drought_93 : decode cX10_drought 93 = .ok (.iastore, 1) := by decide +kernel
theorem dX10_drought_94 : decode cX10_drought 94 = .ok (.aload_n 0, 1) := by decide +kernel
theorem dX10_drought_95 : decode cX10_drought 95 = .ok (.dup, 1) := by decide +kernel
theorem dX10_drought_96 : decode cX10_drought 96 = .ok (.getfield 254, 3) := by decide +kernel
theorem dX10_drought_99 : decode cX10_drought 99 = .ok (.iconst 1, 1) := by decide +kernel
theorem dX10_drought_100 : decode cX10_drought 100 = .ok (.iadd, 1) := by decide +kernel
theorem dX10_drought_101 : decode cX10_drought 101 = .ok (.putfield 254, 3) := by decide +kernel
theorem dX10_drought_104 : decode cX10_drought 104 = .ok (.aload_n 0, 1) := by decide +kernel
theorem dX10_drought_105 : decode cX10_drought 105 = .ok (.aload_n 0, 1) := by decide +kernel
theorem dX10_drought_106 : decode cX10_drought 106 = .ok (.getfield 254, 3) := by decide +kernel
theorem dX10_drought_109 : decode cX10_drought 109 = .ok (.invokevirtual 138, 3) := by decide +kernel
theorem dX10_drought_112 : decode cX10_drought 112 = .ok (.ireturn, 1) := by decide +kernel
theorem dX10_foretold_0 : decode cX10_foretold 0 = .ok (.iconst 0, 1) := by decide +kernel
theorem dX10_foretold_1 : decode cX10_foretold 1 = .ok (.istore_n 2, 1) := by decide +kernel
theorem dX10_foretold_2 : decode cX10_foretold 2 = .ok (.iconst 0, 1) := by decide +kernel
theorem dX10_foretold_3 : decode cX10_foretold 3 = .ok (.istore_n 3, 1) := by decide +kernel
theorem dX10_foretold_4 : decode cX10_foretold 4 = .ok (.iload_n 3, 1) := by decide +kernel
theorem dX10_foretold_5 : decode cX10_foretold 5 = .ok (.aload_n 0, 1) := by decide +kernel
theorem dX10_foretold_6 : decode cX10_foretold 6 = .ok (.getfield 254, 3) := by decide +kernel
theorem dX10_foretold_9 : decode cX10_foretold 9 = .ok (.if_icmp .ge 47, 3) := by decide +kernel
theorem dX10_foretold_12 : decode cX10_foretold 12 = .ok (.aload_n 0, 1) := by decide +kernel
theorem dX10_foretold_13 : decode cX10_foretold 13 = .ok (.getfield 13, 3) := by decide +kernel
theorem dX10_foretold_16 : decode cX10_foretold 16 = .ok (.iload_n 1, 1) := by decide +kernel
theorem dX10_foretold_17 : decode cX10_foretold 17 = .ok (.iaload, 1) := by decide +kernel
theorem dX10_foretold_18 : decode cX10_foretold 18 = .ok (.i2l, 1) := by decide +kernel
theorem dX10_foretold_19 : decode cX10_foretold 19 = .ok (.aload_n 0, 1) := by decide +kernel
theorem dX10_foretold_20 : decode cX10_foretold 20 = .ok (.getfield 96, 3) := by decide +kernel
theorem dX10_foretold_23 : decode cX10_foretold 23 = .ok (.iload_n 3, 1) := by decide +kernel
theorem dX10_foretold_24 : decode cX10_foretold 24 = .ok (.iaload, 1) := by decide +kernel
theorem dX10_foretold_25 : decode cX10_foretold 25 = .ok (.i2l, 1) := by decide +kernel
theorem dX10_foretold_26 : decode cX10_foretold 26 = .ok (.aload_n 0, 1) := by decide +kernel
theorem dX10_foretold_27 : decode cX10_foretold 27 = .ok (.getfield 99, 3) := by decide +kernel
theorem dX10_foretold_30 : decode cX10_foretold 30 = .ok (.iload_n 3, 1) := by decide +kernel
theorem dX10_foretold_31 : decode cX10_foretold 31 = .ok (.iaload, 1) := by decide +kernel
theorem dX10_foretold_32 : decode cX10_foretold 32 = .ok (.i2l, 1) := by decide +kernel
theorem dX10_foretold_33 : decode cX10_foretold 33 = .ok (.invokestatic 125, 3) := by decide +kernel
theorem dX10_foretold_36 : decode cX10_foretold 36 = .ok (.ifCond .eq 12, 3) := by decide +kernel
theorem dX10_foretold_39 : decode cX10_foretold 39 = .ok (.aload_n 0, 1) := by decide +kernel
theorem dX10_foretold_40 : decode cX10_foretold 40 = .ok (.getfield 102, 3) := by decide +kernel
theorem dX10_foretold_43 : decode cX10_foretold 43 = .ok (.iload_n 3, 1) := by decide +kernel
theorem dX10_foretold_44 : decode cX10_foretold 44 = .ok (.iaload, 1) := by decide +kernel
theorem dX10_foretold_45 : decode cX10_foretold 45 = .ok (.goto 4, 3) := by decide +kernel
theorem dX10_foretold_48 : decode cX10_foretold 48 = .ok (.iload_n 2, 1) := by decide +kernel
theorem dX10_foretold_49 : decode cX10_foretold 49 = .ok (.istore_n 2, 1) := by decide +kernel
theorem dX10_foretold_50 : decode cX10_foretold 50 = .ok (.iinc 3 1, 3) := by decide +kernel
theorem dX10_foretold_53 : decode cX10_foretold 53 = .ok (.goto (-49), 3) := by decide +kernel
theorem dX10_foretold_56 : decode cX10_foretold 56 = .ok (.aload_n 0, 1) := by decide +kernel
theorem dX10_foretold_57 : decode cX10_foretold 57 = .ok (.getfield 16, 3) := by decide +kernel
theorem dX10_foretold_60 : decode cX10_foretold 60 = .ok (.iload_n 1, 1) := by decide +kernel
theorem dX10_foretold_61 : decode cX10_foretold 61 = .ok (.iaload, 1) := by decide +kernel
theorem dX10_foretold_62 : decode cX10_foretold 62 = .ok (.i2l, 1) := by decide +kernel
theorem dX10_foretold_63 : decode cX10_foretold 63 = .ok (.aload_n 0, 1) := by decide +kernel
theorem dX10_foretold_64 : decode cX10_foretold 64 = .ok (.getfield 249, 3) := by decide +kernel
theorem dX10_foretold_67 : decode cX10_foretold 67 = .ok (.i2l, 1) := by decide +kernel
theorem dX10_foretold_68 : decode cX10_foretold 68 = .ok (.lmul, 1) := by decide +kernel
theorem dX10_foretold_69 : decode cX10_foretold 69 = .ok (.bipush 100, 2) := by decide +kernel
theorem dX10_foretold_71 : decode cX10_foretold 71 = .ok (.iload_n 2, 1) := by decide +kernel
theorem dX10_foretold_72 : decode cX10_foretold 72 = .ok (.isub, 1) := by decide +kernel
theorem dX10_foretold_73 : decode cX10_foretold 73 = .ok (.i2l, 1) := by decide +kernel
theorem dX10_foretold_74 : decode cX10_foretold 74 = .ok (.lmul, 1) := by decide +kernel
theorem dX10_foretold_75 : decode cX10_foretold 75 = .ok (.ldc2_w 252, 3) := by decide +kernel
theorem dX10_foretold_78 : decode cX10_foretold 78 = .ok (.ldiv, 1) := by decide +kernel
theorem dX10_foretold_79 : decode cX10_foretold 79 = .ok (.lreturn, 1) := by decide +kernel
theorem dX10_of_0 : decode cX10_of 0 = .ok (.aload_n 0, 1) := by decide +kernel
theorem dX10_of_1 : decode cX10_of 1 = .ok (.iconst 0, 1) := by decide +kernel
theorem dX10_of_2 : decode cX10_of 2 = .ok (.putfield 117, 3) := by decide +kernel
theorem dX10_of_5 : decode cX10_of 5 = .ok (.aload_n 0, 1) := by decide +kernel
theorem dX10_of_6 : decode cX10_of 6 = .ok (.iload_n 1, 1) := by decide +kernel
theorem dX10_of_7 : decode cX10_of 7 = .ok (.invokevirtual 148, 3) := by decide +kernel
theorem dX10_of_10 : decode cX10_of 10 = .ok (.ifCond .eq 10, 3) := by decide +kernel
theorem dX10_of_13 : decode cX10_of 13 = .ok (.iload_n 2, 1) := by decide +kernel
theorem dX10_of_14 : decode cX10_of 14 = .ok (.invokestatic 144, 3) := by decide +kernel
theorem dX10_of_17 : decode cX10_of 17 = .ok (.ifCond .ne 7, 3) := by decide +kernel
theorem dX10_of_20 : decode cX10_of 20 = .ok (.ldc2_w 189, 3) := by decide +kernel
theorem dX10_of_23 : decode cX10_of 23 = .ok (.lreturn, 1) := by decide +kernel
theorem dX10_of_24 : decode cX10_of 24 = .ok (.aload_n 0, 1) := by decide +kernel
theorem dX10_of_25 : decode cX10_of 25 = .ok (.iload_n 2, 1) := by decide +kernel
theorem dX10_of_26 : decode cX10_of 26 = .ok (.invokevirtual 257, 3) := by decide +kernel
theorem dX10_of_29 : decode cX10_of 29 = .ok (.iload_n 3, 1) := by decide +kernel
theorem dX10_of_30 : decode cX10_of 30 = .ok (.tableswitch 181 0 10 #[58, 65, 72, 79, 86, 100, 114, 121, 142, 149, 155], 58) := by decide +kernel
theorem dX10_of_88 : decode cX10_of 88 = .ok (.aload_n 0, 1) := by decide +kernel
theorem dX10_of_89 : decode cX10_of 89 = .ok (.getfield 68, 3) := by decide +kernel
theorem dX10_of_92 : decode cX10_of 92 = .ok (.iload_n 1, 1) := by decide +kernel
theorem dX10_of_93 : decode cX10_of 93 = .ok (.laload, 1) := by decide +kernel
theorem dX10_of_94 : decode cX10_of 94 = .ok (.lreturn, 1) := by decide +kernel
theorem dX10_of_95 : decode cX10_of 95 = .ok (.aload_n 0, 1) := by decide +kernel
theorem dX10_of_96 : decode cX10_of 96 = .ok (.getfield 72, 3) := by decide +kernel
theorem dX10_of_99 : decode cX10_of 99 = .ok (.iload_n 1, 1) := by decide +kernel
theorem dX10_of_100 : decode cX10_of 100 = .ok (.laload, 1) := by decide +kernel
theorem dX10_of_101 : decode cX10_of 101 = .ok (.lreturn, 1) := by decide +kernel
theorem dX10_of_102 : decode cX10_of 102 = .ok (.aload_n 0, 1) := by decide +kernel
theorem dX10_of_103 : decode cX10_of 103 = .ok (.getfield 75, 3) := by decide +kernel
theorem dX10_of_106 : decode cX10_of 106 = .ok (.iload_n 1, 1) := by decide +kernel
theorem dX10_of_107 : decode cX10_of 107 = .ok (.laload, 1) := by decide +kernel
theorem dX10_of_108 : decode cX10_of 108 = .ok (.lreturn, 1) := by decide +kernel
theorem dX10_of_109 : decode cX10_of 109 = .ok (.aload_n 0, 1) := by decide +kernel
theorem dX10_of_110 : decode cX10_of 110 = .ok (.getfield 78, 3) := by decide +kernel
theorem dX10_of_113 : decode cX10_of 113 = .ok (.iload_n 1, 1) := by decide +kernel
theorem dX10_of_114 : decode cX10_of 114 = .ok (.laload, 1) := by decide +kernel
theorem dX10_of_115 : decode cX10_of 115 = .ok (.lreturn, 1) := by decide +kernel
theorem dX10_of_116 : decode cX10_of 116 = .ok (.aload_n 0, 1) := by decide +kernel
theorem dX10_of_117 : decode cX10_of 117 = .ok (.getfield 75, 3) := by decide +kernel
theorem dX10_of_120 : decode cX10_of 120 = .ok (.iload_n 1, 1) := by decide +kernel
theorem dX10_of_121 : decode cX10_of 121 = .ok (.laload, 1) := by decide +kernel
theorem dX10_of_122 : decode cX10_of 122 = .ok (.aload_n 0, 1) := by decide +kernel
theorem dX10_of_123 : decode cX10_of 123 = .ok (.getfield 78, 3) := by decide +kernel
theorem dX10_of_126 : decode cX10_of 126 = .ok (.iload_n 1, 1) := by decide +kernel
theorem dX10_of_127 : decode cX10_of 127 = .ok (.laload, 1) := by decide +kernel
theorem dX10_of_128 : decode cX10_of 128 = .ok (.lsub, 1) := by decide +kernel
theorem dX10_of_129 : decode cX10_of 129 = .ok (.lreturn, 1) := by decide +kernel
theorem dX10_of_130 : decode cX10_of 130 = .ok (.aload_n 0, 1) := by decide +kernel
theorem dX10_of_131 : decode cX10_of 131 = .ok (.getfield 72, 3) := by decide +kernel
theorem dX10_of_134 : decode cX10_of 134 = .ok (.iload_n 1, 1) := by decide +kernel
theorem dX10_of_135 : decode cX10_of 135 = .ok (.laload, 1) := by decide +kernel
theorem dX10_of_136 : decode cX10_of 136 = .ok (.aload_n 0, 1) := by decide +kernel
theorem dX10_of_137 : decode cX10_of 137 = .ok (.getfield 78, 3) := by decide +kernel
theorem dX10_of_140 : decode cX10_of 140 = .ok (.iload_n 1, 1) := by decide +kernel
theorem dX10_of_141 : decode cX10_of 141 = .ok (.laload, 1) := by decide +kernel
theorem dX10_of_142 : decode cX10_of 142 = .ok (.lsub, 1) := by decide +kernel
theorem dX10_of_143 : decode cX10_of 143 = .ok (.lreturn, 1) := by decide +kernel
theorem dX10_of_144 : decode cX10_of 144 = .ok (.aload_n 0, 1) := by decide +kernel
theorem dX10_of_145 : decode cX10_of 145 = .ok (.getfield 90, 3) := by decide +kernel
theorem dX10_of_148 : decode cX10_of 148 = .ok (.iload_n 1, 1) := by decide +kernel
theorem dX10_of_149 : decode cX10_of 149 = .ok (.laload, 1) := by decide +kernel
theorem dX10_of_150 : decode cX10_of 150 = .ok (.lreturn, 1) := by decide +kernel
theorem dX10_of_151 : decode cX10_of 151 = .ok (.aload_n 0, 1) := by decide +kernel
theorem dX10_of_152 : decode cX10_of 152 = .ok (.getfield 75, 3) := by decide +kernel
theorem dX10_of_155 : decode cX10_of 155 = .ok (.iload_n 1, 1) := by decide +kernel
theorem dX10_of_156 : decode cX10_of 156 = .ok (.laload, 1) := by decide +kernel
theorem dX10_of_157 : decode cX10_of 157 = .ok (.aload_n 0, 1) := by decide +kernel
theorem dX10_of_158 : decode cX10_of 158 = .ok (.getfield 78, 3) := by decide +kernel
theorem dX10_of_161 : decode cX10_of 161 = .ok (.iload_n 1, 1) := by decide +kernel
theorem dX10_of_162 : decode cX10_of 162 = .ok (.laload, 1) := by decide +kernel
theorem dX10_of_163 : decode cX10_of 163 = .ok (.lsub, 1) := by decide +kernel
theorem dX10_of_164 : decode cX10_of 164 = .ok (.aload_n 0, 1) := by decide +kernel
theorem dX10_of_165 : decode cX10_of 165 = .ok (.getfield 90, 3) := by decide +kernel
theorem dX10_of_168 : decode cX10_of 168 = .ok (.iload_n 1, 1) := by decide +kernel
theorem dX10_of_169 : decode cX10_of 169 = .ok (.laload, 1) := by decide +kernel
theorem dX10_of_170 : decode cX10_of 170 = .ok (.lsub, 1) := by decide +kernel
theorem dX10_of_171 : decode cX10_of 171 = .ok (.lreturn, 1) := by decide +kernel
theorem dX10_of_172 : decode cX10_of 172 = .ok (.aload_n 0, 1) := by decide +kernel
theorem dX10_of_173 : decode cX10_of 173 = .ok (.getfield 93, 3) := by decide +kernel
theorem dX10_of_176 : decode cX10_of 176 = .ok (.iload_n 1, 1) := by decide +kernel
theorem dX10_of_177 : decode cX10_of 177 = .ok (.laload, 1) := by decide +kernel
theorem dX10_of_178 : decode cX10_of 178 = .ok (.lreturn, 1) := by decide +kernel
theorem dX10_of_179 : decode cX10_of 179 = .ok (.aload_n 0, 1) := by decide +kernel
theorem dX10_of_180 : decode cX10_of 180 = .ok (.iload_n 1, 1) := by decide +kernel
theorem dX10_of_181 : decode cX10_of 181 = .ok (.invokevirtual 260, 3) := by decide +kernel
theorem dX10_of_184 : decode cX10_of 184 = .ok (.lreturn, 1) := by decide +kernel
theorem dX10_of_185 : decode cX10_of 185 = .ok (.aload_n 0, 1) := by decide +kernel
theorem dX10_of_186 : decode cX10_of 186 = .ok (.getfield 68, 3) := by decide +kernel
theorem dX10_of_189 : decode cX10_of 189 = .ok (.iload_n 1, 1) := by decide +kernel
theorem dX10_of_190 : decode cX10_of 190 = .ok (.laload, 1) := by decide +kernel
theorem dX10_of_191 : decode cX10_of 191 = .ok (.aload_n 0, 1) := by decide +kernel
theorem dX10_of_192 : decode cX10_of 192 = .ok (.aload_n 0, 1) := by decide +kernel
theorem dX10_of_193 : decode cX10_of 193 = .ok (.iload_n 1, 1) := by decide +kernel
theorem dX10_of_194 : decode cX10_of 194 = .ok (.invokevirtual 260, 3) := by decide +kernel
theorem dX10_of_197 : decode cX10_of 197 = .ok (.iconst 3, 1) := by decide +kernel
theorem dX10_of_198 : decode cX10_of 198 = .ok (.invokevirtual 236, 3) := by decide +kernel
theorem dX10_of_201 : decode cX10_of 201 = .ok (.lcmp, 1) := by decide +kernel
theorem dX10_of_202 : decode cX10_of 202 = .ok (.ifCond .ge 7, 3) := by decide +kernel
theorem dX10_of_205 : decode cX10_of 205 = .ok (.lconst 1, 1) := by decide +kernel
theorem dX10_of_206 : decode cX10_of 206 = .ok (.goto 4, 3) := by decide +kernel
theorem dX10_of_209 : decode cX10_of 209 = .ok (.lconst 0, 1) := by decide +kernel
theorem dX10_of_210 : decode cX10_of 210 = .ok (.lreturn, 1) := by decide +kernel
theorem dX10_of_211 : decode cX10_of 211 = .ok (.ldc2_w 189, 3) := by decide +kernel
theorem dX10_of_214 : decode cX10_of 214 = .ok (.lreturn, 1) := by decide +kernel
theorem dX10_group_0 : decode cX10_group 0 = .ok (.aload_n 0, 1) := by decide +kernel
theorem dX10_group_1 : decode cX10_group 1 = .ok (.iconst 0, 1) := by decide +kernel
theorem dX10_group_2 : decode cX10_group 2 = .ok (.putfield 117, 3) := by decide +kernel
theorem dX10_group_5 : decode cX10_group 5 = .ok (.iload_n 1, 1) := by decide +kernel
theorem dX10_group_6 : decode cX10_group 6 = .ok (.i2l, 1) := by decide +kernel
theorem dX10_group_7 : decode cX10_group 7 = .ok (.lconst 0, 1) := by decide +kernel
theorem dX10_group_8 : decode cX10_group 8 = .ok (.ldc2_w 132, 3) := by decide +kernel
theorem dX10_group_11 : decode cX10_group 11 = .ok (.invokestatic 125, 3) := by decide +kernel
theorem dX10_group_14 : decode cX10_group 14 = .ok (.ifCond .eq 22, 3) := by decide +kernel
theorem dX10_group_17 : decode cX10_group 17 = .ok (.iload_n 2, 1) := by decide +kernel
theorem dX10_group_18 : decode cX10_group 18 = .ok (.invokestatic 144, 3) := by decide +kernel
theorem dX10_group_21 : decode cX10_group 21 = .ok (.ifCond .eq 15, 3) := by decide +kernel
theorem dX10_group_24 : decode cX10_group 24 = .ok (.iload_n 3, 1) := by decide +kernel
theorem dX10_group_25 : decode cX10_group 25 = .ok (.i2l, 1) := by decide +kernel
theorem dX10_group_26 : decode cX10_group 26 = .ok (.lconst 0, 1) := by decide +kernel
theorem dX10_group_27 : decode cX10_group 27 = .ok (.ldc2_w 264, 3) := by decide +kernel
theorem dX10_group_30 : decode cX10_group 30 = .ok (.invokestatic 125, 3) := by decide +kernel
theorem dX10_group_33 : decode cX10_group 33 = .ok (.ifCond .ne 7, 3) := by decide +kernel
theorem dX10_group_36 : decode cX10_group 36 = .ok (.ldc2_w 189, 3) := by decide +kernel
theorem dX10_group_39 : decode cX10_group 39 = .ok (.lreturn, 1) := by decide +kernel
theorem dX10_group_40 : decode cX10_group 40 = .ok (.aload_n 0, 1) := by decide +kernel
theorem dX10_group_41 : decode cX10_group 41 = .ok (.iload_n 2, 1) := by decide +kernel
theorem dX10_group_42 : decode cX10_group 42 = .ok (.invokevirtual 257, 3) := by decide +kernel
theorem dX10_group_45 : decode cX10_group 45 = .ok (.lconst 0, 1) := by decide +kernel
theorem dX10_group_46 : decode cX10_group 46 = .ok (.lstore 4, 2) := by decide +kernel
theorem dX10_group_48 : decode cX10_group 48 = .ok (.iconst 0, 1) := by decide +kernel
theorem dX10_group_49 : decode cX10_group 49 = .ok (.istore 6, 2) := by decide +kernel
theorem dX10_group_51 : decode cX10_group 51 = .ok (.iload 6, 2) := by decide +kernel
theorem dX10_group_53 : decode cX10_group 53 = .ok (.aload_n 0, 1) := by decide +kernel
theorem dX10_group_54 : decode cX10_group 54 = .ok (.getfield 129, 3) := by decide +kernel
theorem dX10_group_57 : decode cX10_group 57 = .ok (.if_icmp .ge 78, 3) := by decide +kernel
theorem dX10_group_60 : decode cX10_group 60 = .ok (.aload_n 0, 1) := by decide +kernel
theorem dX10_group_61 : decode cX10_group 61 = .ok (.getfield 7, 3) := by decide +kernel
theorem dX10_group_64 : decode cX10_group 64 = .ok (.iload 6, 2) := by decide +kernel
theorem dX10_group_66 : decode cX10_group 66 = .ok (.iaload, 1) := by decide +kernel
theorem dX10_group_67 : decode cX10_group 67 = .ok (.iload_n 1, 1) := by decide +kernel
theorem dX10_group_68 : decode cX10_group 68 = .ok (.if_icmp .ne 61, 3) := by decide +kernel
theorem dX10_group_71 : decode cX10_group 71 = .ok (.lload 4, 2) := by decide +kernel
theorem dX10_group_73 : decode cX10_group 73 = .ok (.iload_n 3, 1) := by decide +kernel
theorem dX10_group_74 : decode cX10_group 74 = .ok (.ifCond .ne 7, 3) := by decide +kernel
theorem dX10_group_77 : decode cX10_group 77 = .ok (.lconst 1, 1) := by decide +kernel
theorem dX10_group_78 : decode cX10_group 78 = .ok (.goto 48, 3) := by decide +kernel
theorem dX10_group_81 : decode cX10_group 81 = .ok (.iload_n 3, 1) := by decide +kernel
theorem dX10_group_82 : decode cX10_group 82 = .ok (.iconst 1, 1) := by decide +kernel
theorem dX10_group_83 : decode cX10_group 83 = .ok (.if_icmp .ne 21, 3) := by decide +kernel
theorem dX10_group_86 : decode cX10_group 86 = .ok (.aload_n 0, 1) := by decide +kernel
theorem dX10_group_87 : decode cX10_group 87 = .ok (.getfield 72, 3) := by decide +kernel
theorem dX10_group_90 : decode cX10_group 90 = .ok (.iload 6, 2) := by decide +kernel
theorem dX10_group_92 : decode cX10_group 92 = .ok (.laload, 1) := by decide +kernel
theorem dX10_group_93 : decode cX10_group 93 = .ok (.aload_n 0, 1) := by decide +kernel
theorem dX10_group_94 : decode cX10_group 94 = .ok (.getfield 78, 3) := by decide +kernel
theorem dX10_group_97 : decode cX10_group 97 = .ok (.iload 6, 2) := by decide +kernel
theorem dX10_group_99 : decode cX10_group 99 = .ok (.laload, 1) := by decide +kernel
theorem dX10_group_100 : decode cX10_group 100 = .ok (.lsub, 1) := by decide +kernel
theorem dX10_group_101 : decode cX10_group 101 = .ok (.goto 25, 3) := by decide +kernel
theorem dX10_group_104 : decode cX10_group 104 = .ok (.iload_n 3, 1) := by decide +kernel
theorem dX10_group_105 : decode cX10_group 105 = .ok (.iconst 2, 1) := by decide +kernel
theorem dX10_group_106 : decode cX10_group 106 = .ok (.if_icmp .ne 13, 3) := by decide +kernel
theorem dX10_group_109 : decode cX10_group 109 = .ok (.aload_n 0, 1) := by decide +kernel
theorem dX10_group_110 : decode cX10_group 110 = .ok (.getfield 90, 3) := by decide +kernel
theorem dX10_group_113 : decode cX10_group 113 = .ok (.iload 6, 2) := by decide +kernel
theorem dX10_group_115 : decode cX10_group 115 = .ok (.laload, 1) := by decide +kernel
theorem dX10_group_116 : decode cX10_group 116 = .ok (.goto 10, 3) := by decide +kernel
theorem dX10_group_119 : decode cX10_group 119 = .ok (.aload_n 0, 1) := by decide +kernel
theorem dX10_group_120 : decode cX10_group 120 = .ok (.getfield 93, 3) := by decide +kernel
theorem dX10_group_123 : decode cX10_group 123 = .ok (.iload 6, 2) := by decide +kernel
theorem dX10_group_125 : decode cX10_group 125 = .ok (.laload, 1) := by decide +kernel
theorem dX10_group_126 : decode cX10_group 126 = .ok (.ladd, 1) := by decide +kernel
theorem dX10_group_127 : decode cX10_group 127 = .ok (.lstore 4, 2) := by decide +kernel
theorem dX10_group_129 : decode cX10_group 129 = .ok (.iinc 6 1, 3) := by decide +kernel
theorem dX10_group_132 : decode cX10_group 132 = .ok (.goto (-81), 3) := by decide +kernel
theorem dX10_group_135 : decode cX10_group 135 = .ok (.lload 4, 2) := by decide +kernel
theorem dX10_group_137 : decode cX10_group 137 = .ok (.lreturn, 1) := by decide +kernel
theorem dX10_visit_0 : decode cX10_visit 0 = .ok (.aload_n 0, 1) := by decide +kernel
theorem dX10_visit_1 : decode cX10_visit 1 = .ok (.iconst 0, 1) := by decide +kernel
theorem dX10_visit_2 : decode cX10_visit 2 = .ok (.putfield 117, 3) := by decide +kernel
theorem dX10_visit_5 : decode cX10_visit 5 = .ok (.iload_n 2, 1) := by decide +kernel
theorem dX10_visit_6 : decode cX10_visit 6 = .ok (.i2l, 1) := by decide +kernel
theorem dX10_visit_7 : decode cX10_visit 7 = .ok (.lconst 0, 1) := by decide +kernel
theorem dX10_visit_8 : decode cX10_visit 8 = .ok (.ldc2_w 266, 3) := by decide +kernel
theorem dX10_visit_11 : decode cX10_visit 11 = .ok (.invokestatic 125, 3) := by decide +kernel
theorem dX10_visit_14 : decode cX10_visit 14 = .ok (.ifCond .ne 9, 3) := by decide +kernel
theorem dX10_visit_17 : decode cX10_visit 17 = .ok (.aload_n 0, 1) := by decide +kernel
theorem dX10_visit_18 : decode cX10_visit 18 = .ok (.iconst (-1), 1) := by decide +kernel
theorem dX10_visit_19 : decode cX10_visit 19 = .ok (.invokevirtual 138, 3) := by decide +kernel
theorem dX10_visit_22 : decode cX10_visit 22 = .ok (.ireturn, 1) := by decide +kernel
theorem dX10_visit_23 : decode cX10_visit 23 = .ok (.aload_n 0, 1) := by decide +kernel
theorem dX10_visit_24 : decode cX10_visit 24 = .ok (.iload_n 1, 1) := by decide +kernel
theorem dX10_visit_25 : decode cX10_visit 25 = .ok (.invokevirtual 148, 3) := by decide +kernel
theorem dX10_visit_28 : decode cX10_visit 28 = .ok (.ifCond .ne 10, 3) := by decide +kernel
theorem dX10_visit_31 : decode cX10_visit 31 = .ok (.aload_n 0, 1) := by decide +kernel
theorem dX10_visit_32 : decode cX10_visit 32 = .ok (.bipush (-2), 2) := by decide +kernel
theorem dX10_visit_34 : decode cX10_visit 34 = .ok (.invokevirtual 138, 3) := by decide +kernel
theorem dX10_visit_37 : decode cX10_visit 37 = .ok (.ireturn, 1) := by decide +kernel
theorem dX10_visit_38 : decode cX10_visit 38 = .ok (.aload_n 0, 1) := by decide +kernel
theorem dX10_visit_39 : decode cX10_visit 39 = .ok (.getfield 268, 3) := by decide +kernel
theorem dX10_visit_42 : decode cX10_visit 42 = .ok (.bipush 16, 2) := by decide +kernel
theorem dX10_visit_44 : decode cX10_visit 44 = .ok (.if_icmp .ne 10, 3) := by decide +kernel
theorem dX10_visit_47 : decode cX10_visit 47 = .ok (.aload_n 0, 1) := by decide +kernel
theorem dX10_visit_48 : decode cX10_visit 48 = .ok (.bipush (-5), 2) := by decide +kernel
theorem dX10_visit_50 : decode cX10_visit 50 = .ok (.invokevirtual 138, 3) := by decide +kernel
theorem dX10_visit_53 : decode cX10_visit 53 = .ok (.ireturn, 1) := by decide +kernel
theorem dX10_visit_54 : decode cX10_visit 54 = .ok (.aload_n 0, 1) := by decide +kernel
theorem dX10_visit_55 : decode cX10_visit 55 = .ok (.getfield 105, 3) := by decide +kernel
theorem dX10_visit_58 : decode cX10_visit 58 = .ok (.aload_n 0, 1) := by decide +kernel
theorem dX10_visit_59 : decode cX10_visit 59 = .ok (.getfield 268, 3) := by decide +kernel
theorem dX10_visit_62 : decode cX10_visit 62 = .ok (.iload_n 1, 1) := by decide +kernel
theorem dX10_visit_63 : decode cX10_visit 63 = .ok (.iastore, 1) := by decide +kernel
theorem dX10_visit_64 : decode cX10_visit 64 = .ok (.aload_n 0, 1) := by decide +kernel
theorem dX10_visit_65 : decode cX10_visit 65 = .ok (.getfield 108, 3) := by decide +kernel
theorem dX10_visit_68 : decode cX10_visit 68 = .ok (.aload_n 0, 1) := by decide +kernel
theorem dX10_visit_69 : decode cX10_visit 69 = .ok (.getfield 268, 3) := by decide +kernel
theorem dX10_visit_72 : decode cX10_visit 72 = .ok (.iload_n 2, 1) := by decide +kernel
theorem dX10_visit_73 : decode cX10_visit 73 = .ok (.iastore, 1) := by decide +kernel
theorem dX10_visit_74 : decode cX10_visit 74 = .ok (.aload_n 0, 1) := by decide +kernel
theorem dX10_visit_75 : decode cX10_visit 75 = .ok (.dup, 1) := by decide +kernel
theorem dX10_visit_76 : decode cX10_visit 76 = .ok (.getfield 268, 3) := by decide +kernel
theorem dX10_visit_79 : decode cX10_visit 79 = .ok (.iconst 1, 1) := by decide +kernel
theorem dX10_visit_80 : decode cX10_visit 80 = .ok (.iadd, 1) := by decide +kernel
theorem dX10_visit_81 : decode cX10_visit 81 = .ok (.putfield 268, 3) := by decide +kernel
theorem dX10_visit_84 : decode cX10_visit 84 = .ok (.aload_n 0, 1) := by decide +kernel
theorem dX10_visit_85 : decode cX10_visit 85 = .ok (.aload_n 0, 1) := by decide +kernel
theorem dX10_visit_86 : decode cX10_visit 86 = .ok (.getfield 268, 3) := by decide +kernel
theorem dX10_visit_89 : decode cX10_visit 89 = .ok (.invokevirtual 138, 3) := by decide +kernel
theorem dX10_visit_92 : decode cX10_visit 92 = .ok (.ireturn, 1) := by decide +kernel
theorem dX10_clear_0 : decode cX10_clear 0 = .ok (.aload_n 0, 1) := by decide +kernel
theorem dX10_clear_1 : decode cX10_clear 1 = .ok (.iconst 0, 1) := by decide +kernel
theorem dX10_clear_2 : decode cX10_clear 2 = .ok (.putfield 117, 3) := by decide +kernel
theorem dX10_clear_5 : decode cX10_clear 5 = .ok (.aload_n 0, 1) := by decide +kernel
theorem dX10_clear_6 : decode cX10_clear 6 = .ok (.getfield 268, 3) := by decide +kernel
theorem dX10_clear_9 : decode cX10_clear 9 = .ok (.istore_n 1, 1) := by decide +kernel
theorem dX10_clear_10 : decode cX10_clear 10 = .ok (.aload_n 0, 1) := by decide +kernel
theorem dX10_clear_11 : decode cX10_clear 11 = .ok (.iconst 0, 1) := by decide +kernel
theorem dX10_clear_12 : decode cX10_clear 12 = .ok (.putfield 268, 3) := by decide +kernel
theorem dX10_clear_15 : decode cX10_clear 15 = .ok (.iload_n 1, 1) := by decide +kernel
theorem dX10_clear_16 : decode cX10_clear 16 = .ok (.ireturn, 1) := by decide +kernel
theorem dX10_addPlace_0 : decode cX10_addPlace 0 = .ok (.iconst 0, 1) := by decide +kernel
theorem dX10_addPlace_1 : decode cX10_addPlace 1 = .ok (.istore_n 2, 1) := by decide +kernel
theorem dX10_addPlace_2 : decode cX10_addPlace 2 = .ok (.iload_n 2, 1) := by decide +kernel
theorem dX10_addPlace_3 : decode cX10_addPlace 3 = .ok (.aload_n 0, 1) := by decide +kernel
theorem dX10_addPlace_4 : decode cX10_addPlace 4 = .ok (.getfield 271, 3) := by decide +kernel
theorem dX10_addPlace_7 : decode cX10_addPlace 7 = .ok (.if_icmp .ge 19, 3) := by decide +kernel
theorem dX10_addPlace_10 : decode cX10_addPlace 10 = .ok (.aload_n 0, 1) := by decide +kernel
theorem dX10_addPlace_11 : decode cX10_addPlace 11 = .ok (.getfield 111, 3) := by decide +kernel
theorem dX10_addPlace_14 : decode cX10_addPlace 14 = .ok (.iload_n 2, 1) := by decide +kernel
theorem dX10_addPlace_15 : decode cX10_addPlace 15 = .ok (.iaload, 1) := by decide +kernel
theorem dX10_addPlace_16 : decode cX10_addPlace 16 = .ok (.iload_n 1, 1) := by decide +kernel
theorem dX10_addPlace_17 : decode cX10_addPlace 17 = .ok (.if_icmp .ge 9, 3) := by decide +kernel
theorem dX10_addPlace_20 : decode cX10_addPlace 20 = .ok (.iinc 2 1, 3) := by decide +kernel
theorem dX10_addPlace_23 : decode cX10_addPlace 23 = .ok (.goto (-21), 3) := by decide +kernel
theorem dX10_addPlace_26 : decode cX10_addPlace 26 = .ok (.iload_n 2, 1) := by decide +kernel
theorem dX10_addPlace_27 : decode cX10_addPlace 27 = .ok (.aload_n 0, 1) := by decide +kernel
theorem dX10_addPlace_28 : decode cX10_addPlace 28 = .ok (.getfield 271, 3) := by decide +kernel
theorem dX10_addPlace_31 : decode cX10_addPlace 31 = .ok (.if_icmp .ge 14, 3) := by decide +kernel
theorem dX10_addPlace_34 : decode cX10_addPlace 34 = .ok (.aload_n 0, 1) := by decide +kernel
theorem dX10_addPlace_35 : decode cX10_addPlace 35 = .ok (.getfield 111, 3) := by decide +kernel
theorem dX10_addPlace_38 : decode cX10_addPlace 38 = .ok (.iload_n 2, 1) := by decide +kernel
theorem dX10_addPlace_39 : decode cX10_addPlace 39 = .ok (.iaload, 1) := by decide +kernel
theorem dX10_addPlace_40 : decode cX10_addPlace 40 = .ok (.iload_n 1, 1) := by decide +kernel
theorem dX10_addPlace_41 : decode cX10_addPlace 41 = .ok (.if_icmp .ne 4, 3) := by decide +kernel
theorem dX10_addPlace_44 : decode cX10_addPlace 44 = .ok (.return_, 1) := by decide +kernel
theorem dX10_addPlace_45 : decode cX10_addPlace 45 = .ok (.aload_n 0, 1) := by decide +kernel
theorem dX10_addPlace_46 : decode cX10_addPlace 46 = .ok (.getfield 271, 3) := by decide +kernel
theorem dX10_addPlace_49 : decode cX10_addPlace 49 = .ok (.istore_n 3, 1) := by decide +kernel
theorem dX10_addPlace_50 : decode cX10_addPlace 50 = .ok (.iload_n 3, 1) := by decide +kernel
theorem dX10_addPlace_51 : decode cX10_addPlace 51 = .ok (.iload_n 2, 1) := by decide +kernel
theorem dX10_addPlace_52 : decode cX10_addPlace 52 = .ok (.if_icmp .le 23, 3) := by decide +kernel
theorem dX10_addPlace_55 : decode cX10_addPlace 55 = .ok (.aload_n 0, 1) := by decide +kernel
theorem dX10_addPlace_56 : decode cX10_addPlace 56 = .ok (.getfield 111, 3) := by decide +kernel
theorem dX10_addPlace_59 : decode cX10_addPlace 59 = .ok (.iload_n 3, 1) := by decide +kernel
theorem dX10_addPlace_60 : decode cX10_addPlace 60 = .ok (.aload_n 0, 1) := by decide +kernel
theorem dX10_addPlace_61 : decode cX10_addPlace 61 = .ok (.getfield 111, 3) := by decide +kernel
theorem dX10_addPlace_64 : decode cX10_addPlace 64 = .ok (.iload_n 3, 1) := by decide +kernel
theorem dX10_addPlace_65 : decode cX10_addPlace 65 = .ok (.iconst 1, 1) := by decide +kernel
theorem dX10_addPlace_66 : decode cX10_addPlace 66 = .ok (.isub, 1) := by decide +kernel
theorem dX10_addPlace_67 : decode cX10_addPlace 67 = .ok (.iaload, 1) := by decide +kernel
theorem dX10_addPlace_68 : decode cX10_addPlace 68 = .ok (.iastore, 1) := by decide +kernel
theorem dX10_addPlace_69 : decode cX10_addPlace 69 = .ok (.iinc 3 (-1), 3) := by decide +kernel
theorem dX10_addPlace_72 : decode cX10_addPlace 72 = .ok (.goto (-22), 3) := by decide +kernel
theorem dX10_addPlace_75 : decode cX10_addPlace 75 = .ok (.aload_n 0, 1) := by decide +kernel
theorem dX10_addPlace_76 : decode cX10_addPlace 76 = .ok (.getfield 111, 3) := by decide +kernel
theorem dX10_addPlace_79 : decode cX10_addPlace 79 = .ok (.iload_n 2, 1) := by decide +kernel
theorem dX10_addPlace_80 : decode cX10_addPlace 80 = .ok (.iload_n 1, 1) := by decide +kernel
theorem dX10_addPlace_81 : decode cX10_addPlace 81 = .ok (.iastore, 1) := by decide +kernel
theorem dX10_addPlace_82 : decode cX10_addPlace 82 = .ok (.aload_n 0, 1) := by decide +kernel
theorem dX10_addPlace_83 : decode cX10_addPlace 83 = .ok (.dup, 1) := by decide +kernel
theorem dX10_addPlace_84 : decode cX10_addPlace 84 = .ok (.getfield 271, 3) := by decide +kernel
theorem dX10_addPlace_87 : decode cX10_addPlace 87 = .ok (.iconst 1, 1) := by decide +kernel
theorem dX10_addPlace_88 : decode cX10_addPlace 88 = .ok (.iadd, 1) := by decide +kernel
theorem dX10_addPlace_89 : decode cX10_addPlace 89 = .ok (.putfield 271, 3) := by decide +kernel
theorem dX10_addPlace_92 : decode cX10_addPlace 92 = .ok (.return_, 1) := by decide +kernel
theorem dX10_metAt_0 : decode cX10_metAt 0 = .ok (.iconst 0, 1) := by decide +kernel
theorem dX10_metAt_1 : decode cX10_metAt 1 = .ok (.istore_n 3, 1) := by decide +kernel
theorem dX10_metAt_2 : decode cX10_metAt 2 = .ok (.iconst 0, 1) := by decide +kernel
theorem dX10_metAt_3 : decode cX10_metAt 3 = .ok (.istore 4, 2) := by decide +kernel
theorem dX10_metAt_5 : decode cX10_metAt 5 = .ok (.iload 4, 2) := by decide +kernel
theorem dX10_metAt_7 : decode cX10_metAt 7 = .ok (.aload_n 0, 1) := by decide +kernel
theorem dX10_metAt_8 : decode cX10_metAt 8 = .ok (.getfield 268, 3) := by decide +kernel
theorem dX10_metAt_11 : decode cX10_metAt 11 = .ok (.if_icmp .ge 44, 3) := by decide +kernel
theorem dX10_metAt_14 : decode cX10_metAt 14 = .ok (.iload_n 3, 1) := by decide +kernel
theorem dX10_metAt_15 : decode cX10_metAt 15 = .ok (.aload_n 0, 1) := by decide +kernel
theorem dX10_metAt_16 : decode cX10_metAt 16 = .ok (.getfield 13, 3) := by decide +kernel
theorem dX10_metAt_19 : decode cX10_metAt 19 = .ok (.aload_n 0, 1) := by decide +kernel
theorem dX10_metAt_20 : decode cX10_metAt 20 = .ok (.getfield 105, 3) := by decide +kernel
theorem dX10_metAt_23 : decode cX10_metAt 23 = .ok (.iload 4, 2) := by decide +kernel
theorem dX10_metAt_25 : decode cX10_metAt 25 = .ok (.iaload, 1) := by decide +kernel
theorem dX10_metAt_26 : decode cX10_metAt 26 = .ok (.iaload, 1) := by decide +kernel
theorem dX10_metAt_27 : decode cX10_metAt 27 = .ok (.iload_n 1, 1) := by decide +kernel
theorem dX10_metAt_28 : decode cX10_metAt 28 = .ok (.if_icmp .ne 18, 3) := by decide +kernel
theorem dX10_metAt_31 : decode cX10_metAt 31 = .ok (.iload_n 2, 1) := by decide +kernel
theorem dX10_metAt_32 : decode cX10_metAt 32 = .ok (.aload_n 0, 1) := by decide +kernel
theorem dX10_metAt_33 : decode cX10_metAt 33 = .ok (.getfield 108, 3) := by decide +kernel
theorem dX10_metAt_36 : decode cX10_metAt 36 = .ok (.iload 4, 2) := by decide +kernel
theorem dX10_metAt_38 : decode cX10_metAt 38 = .ok (.iaload, 1) := by decide +kernel
theorem dX10_metAt_39 : decode cX10_metAt 39 = .ok (.if_icmp .gt 7, 3) := by decide +kernel
theorem dX10_metAt_42 : decode cX10_metAt 42 = .ok (.iconst 1, 1) := by decide +kernel
theorem dX10_metAt_43 : decode cX10_metAt 43 = .ok (.goto 4, 3) := by decide +kernel
theorem dX10_metAt_46 : decode cX10_metAt 46 = .ok (.iconst 0, 1) := by decide +kernel
theorem dX10_metAt_47 : decode cX10_metAt 47 = .ok (.iadd, 1) := by decide +kernel
theorem dX10_metAt_48 : decode cX10_metAt 48 = .ok (.istore_n 3, 1) := by decide +kernel
theorem dX10_metAt_49 : decode cX10_metAt 49 = .ok (.iinc 4 1, 3) := by decide +kernel
theorem dX10_metAt_52 : decode cX10_metAt 52 = .ok (.goto (-47), 3) := by decide +kernel
theorem dX10_metAt_55 : decode cX10_metAt 55 = .ok (.iload_n 3, 1) := by decide +kernel
theorem dX10_metAt_56 : decode cX10_metAt 56 = .ok (.ireturn, 1) := by decide +kernel
theorem dX10_at_0 : decode cX10_at 0 = .ok (.bipush 17, 2) := by decide +kernel
theorem dX10_at_2 : decode cX10_at 2 = .ok (.iload_n 0, 1) := by decide +kernel
theorem dX10_at_3 : decode cX10_at 3 = .ok (.imul, 1) := by decide +kernel
theorem dX10_at_4 : decode cX10_at 4 = .ok (.iload_n 1, 1) := by decide +kernel
theorem dX10_at_5 : decode cX10_at 5 = .ok (.iadd, 1) := by decide +kernel
theorem dX10_at_6 : decode cX10_at 6 = .ok (.iconst 2, 1) := by decide +kernel
theorem dX10_at_7 : decode cX10_at 7 = .ok (.imul, 1) := by decide +kernel
theorem dX10_at_8 : decode cX10_at 8 = .ok (.iload_n 2, 1) := by decide +kernel
theorem dX10_at_9 : decode cX10_at 9 = .ok (.iadd, 1) := by decide +kernel
theorem dX10_at_10 : decode cX10_at 10 = .ok (.bipush 17, 2) := by decide +kernel
theorem dX10_at_12 : decode cX10_at 12 = .ok (.imul, 1) := by decide +kernel
theorem dX10_at_13 : decode cX10_at 13 = .ok (.iload_n 3, 1) := by decide +kernel
theorem dX10_at_14 : decode cX10_at 14 = .ok (.iadd, 1) := by decide +kernel
theorem dX10_at_15 : decode cX10_at 15 = .ok (.ireturn, 1) := by decide +kernel
theorem dX10_widen_0 : decode cX10_widen 0 = .ok (.aload_n 0, 1) := by decide +kernel
theorem dX10_widen_1 : decode cX10_widen 1 = .ok (.getfield 114, 3) := by decide +kernel
theorem dX10_widen_4 : decode cX10_widen 4 = .ok (.iload_n 1, 1) := by decide +kernel
theorem dX10_widen_5 : decode cX10_widen 5 = .ok (.iload_n 2, 1) := by decide +kernel
theorem dX10_widen_6 : decode cX10_widen 6 = .ok (.iload_n 3, 1) := by decide +kernel
theorem dX10_widen_7 : decode cX10_widen 7 = .ok (.iload 4, 2) := by decide +kernel
theorem dX10_widen_9 : decode cX10_widen 9 = .ok (.invokestatic 274, 3) := by decide +kernel
theorem dX10_widen_12 : decode cX10_widen 12 = .ok (.iaload, 1) := by decide +kernel
theorem dX10_widen_13 : decode cX10_widen 13 = .ok (.istore 7, 2) := by decide +kernel
theorem dX10_widen_15 : decode cX10_widen 15 = .ok (.iload 5, 2) := by decide +kernel
theorem dX10_widen_17 : decode cX10_widen 17 = .ok (.iload_n 1, 1) := by decide +kernel
theorem dX10_widen_18 : decode cX10_widen 18 = .ok (.if_icmp .ge 8, 3) := by decide +kernel
theorem dX10_widen_21 : decode cX10_widen 21 = .ok (.iload 5, 2) := by decide +kernel
theorem dX10_widen_23 : decode cX10_widen 23 = .ok (.goto 5, 3) := by decide +kernel
theorem dX10_widen_26 : decode cX10_widen 26 = .ok (.iload 6, 2) := by decide +kernel
theorem dX10_widen_28 : decode cX10_widen 28 = .ok (.istore 8, 2) := by decide +kernel
theorem dX10_widen_30 : decode cX10_widen 30 = .ok (.iload 7, 2) := by decide +kernel
theorem dX10_widen_32 : decode cX10_widen 32 = .ok (.ldc_w 278, 3) := by decide +kernel
theorem dX10_widen_35 : decode cX10_widen 35 = .ok (.if_icmp .eq 17, 3) := by decide +kernel
theorem dX10_widen_38 : decode cX10_widen 38 = .ok (.iload 5, 2) := by decide +kernel
theorem dX10_widen_40 : decode cX10_widen 40 = .ok (.ifCond .lt 12, 3) := by decide +kernel
theorem dX10_widen_43 : decode cX10_widen 43 = .ok (.iload 6, 2) := by decide +kernel
theorem dX10_widen_45 : decode cX10_widen 45 = .ok (.aload_n 0, 1) := by decide +kernel
theorem dX10_widen_46 : decode cX10_widen 46 = .ok (.getfield 271, 3) := by decide +kernel
theorem dX10_widen_49 : decode cX10_widen 49 = .ok (.if_icmp .ne 4, 3) := by decide +kernel
theorem dX10_widen_52 : decode cX10_widen 52 = .ok (.return_, 1) := by decide +kernel
theorem dX10_widen_53 : decode cX10_widen 53 = .ok (.aload_n 0, 1) := by decide +kernel
theorem dX10_widen_54 : decode cX10_widen 54 = .ok (.getfield 111, 3) := by decide +kernel
theorem dX10_widen_57 : decode cX10_widen 57 = .ok (.iload 8, 2) := by decide +kernel
theorem dX10_widen_59 : decode cX10_widen 59 = .ok (.iaload, 1) := by decide +kernel
theorem dX10_widen_60 : decode cX10_widen 60 = .ok (.aload_n 0, 1) := by decide +kernel
theorem dX10_widen_61 : decode cX10_widen 61 = .ok (.getfield 111, 3) := by decide +kernel
theorem dX10_widen_64 : decode cX10_widen 64 = .ok (.iload_n 3, 1) := by decide +kernel
theorem dX10_widen_65 : decode cX10_widen 65 = .ok (.ifCond .ne 7, 3) := by decide +kernel
theorem dX10_widen_68 : decode cX10_widen 68 = .ok (.iload_n 1, 1) := by decide +kernel
theorem dX10_widen_69 : decode cX10_widen 69 = .ok (.goto 4, 3) := by decide +kernel
theorem dX10_widen_72 : decode cX10_widen 72 = .ok (.iload_n 2, 1) := by decide +kernel
theorem dX10_widen_73 : decode cX10_widen 73 = .ok (.iaload, 1) := by decide +kernel
theorem dX10_widen_74 : decode cX10_widen 74 = .ok (.isub, 1) := by decide +kernel
theorem dX10_widen_75 : decode cX10_widen 75 = .ok (.istore 9, 2) := by decide +kernel
theorem dX10_widen_77 : decode cX10_widen 77 = .ok (.iload 7, 2) := by decide +kernel
theorem dX10_widen_79 : decode cX10_widen 79 = .ok (.iload 9, 2) := by decide +kernel
theorem dX10_widen_81 : decode cX10_widen 81 = .ok (.ifCond .ge 9, 3) := by decide +kernel
theorem dX10_widen_84 : decode cX10_widen 84 = .ok (.iload 9, 2) := by decide +kernel
theorem dX10_widen_86 : decode cX10_widen 86 = .ok (.ineg, 1) := by decide +kernel
theorem dX10_widen_87 : decode cX10_widen 87 = .ok (.goto 5, 3) := by decide +kernel
theorem dX10_widen_90 : decode cX10_widen 90 = .ok (.iload 9, 2) := by decide +kernel
theorem dX10_widen_92 : decode cX10_widen 92 = .ok (.iadd, 1) := by decide +kernel
theorem dX10_widen_93 : decode cX10_widen 93 = .ok (.istore 10, 2) := by decide +kernel
theorem dX10_widen_95 : decode cX10_widen 95 = .ok (.iload 5, 2) := by decide +kernel
theorem dX10_widen_97 : decode cX10_widen 97 = .ok (.iload 6, 2) := by decide +kernel
theorem dX10_widen_99 : decode cX10_widen 99 = .ok (.iload 5, 2) := by decide +kernel
theorem dX10_widen_101 : decode cX10_widen 101 = .ok (.iload_n 1, 1) := by decide +kernel
theorem dX10_widen_102 : decode cX10_widen 102 = .ok (.if_icmp .ge 7, 3) := by decide +kernel
theorem dX10_widen_105 : decode cX10_widen 105 = .ok (.iconst 0, 1) := by decide +kernel
theorem dX10_widen_106 : decode cX10_widen 106 = .ok (.goto 4, 3) := by decide +kernel
theorem dX10_widen_109 : decode cX10_widen 109 = .ok (.iconst 1, 1) := by decide +kernel
theorem dX10_widen_110 : decode cX10_widen 110 = .ok (.iload 4, 2) := by decide +kernel
theorem dX10_widen_112 : decode cX10_widen 112 = .ok (.aload_n 0, 1) := by decide +kernel
theorem dX10_widen_113 : decode cX10_widen 113 = .ok (.aload_n 0, 1) := by decide +kernel
theorem dX10_widen_114 : decode cX10_widen 114 = .ok (.getfield 111, 3) := by decide +kernel
theorem dX10_widen_117 : decode cX10_widen 117 = .ok (.iload 8, 2) := by decide +kernel
theorem dX10_widen_119 : decode cX10_widen 119 = .ok (.iaload, 1) := by decide +kernel
theorem dX10_widen_120 : decode cX10_widen 120 = .ok (.iload 10, 2) := by decide +kernel
theorem dX10_widen_122 : decode cX10_widen 122 = .ok (.invokevirtual 279, 3) := by decide +kernel
theorem dX10_widen_125 : decode cX10_widen 125 = .ok (.iadd, 1) := by decide +kernel
theorem dX10_widen_126 : decode cX10_widen 126 = .ok (.invokestatic 274, 3) := by decide +kernel
theorem dX10_widen_129 : decode cX10_widen 129 = .ok (.istore 11, 2) := by decide +kernel
theorem dX10_widen_131 : decode cX10_widen 131 = .ok (.aload_n 0, 1) := by decide +kernel
theorem dX10_widen_132 : decode cX10_widen 132 = .ok (.getfield 114, 3) := by decide +kernel
theorem dX10_widen_135 : decode cX10_widen 135 = .ok (.iload 11, 2) := by decide +kernel
theorem dX10_widen_137 : decode cX10_widen 137 = .ok (.iload 10, 2) := by decide +kernel
theorem dX10_widen_139 : decode cX10_widen 139 = .ok (.aload_n 0, 1) := by decide +kernel
theorem dX10_widen_140 : decode cX10_widen 140 = .ok (.getfield 114, 3) := by decide +kernel
theorem dX10_widen_143 : decode cX10_widen 143 = .ok (.iload 11, 2) := by decide +kernel
theorem dX10_widen_145 : decode cX10_widen 145 = .ok (.iaload, 1) := by decide +kernel
theorem dX10_widen_146 : decode cX10_widen 146 = .ok (.if_icmp .ge 8, 3) := by decide +kernel
theorem dX10_widen_149 : decode cX10_widen 149 = .ok (.iload 10, 2) := by decide +kernel
theorem dX10_widen_151 : decode cX10_widen 151 = .ok (.goto 10, 3) := by decide +kernel
theorem dX10_widen_154 : decode cX10_widen 154 = .ok (.aload_n 0, 1) := by decide +kernel
theorem dX10_widen_155 : decode cX10_widen 155 = .ok (.getfield 114, 3) := by decide +kernel
theorem dX10_widen_158 : decode cX10_widen 158 = .ok (.iload 11, 2) := by decide +kernel
theorem dX10_widen_160 : decode cX10_widen 160 = .ok (.iaload, 1) := by decide +kernel
theorem dX10_widen_161 : decode cX10_widen 161 = .ok (.iastore, 1) := by decide +kernel
theorem dX10_widen_162 : decode cX10_widen 162 = .ok (.return_, 1) := by decide +kernel
theorem dX10_walk_0 : decode cX10_walk 0 = .ok (.aload_n 0, 1) := by decide +kernel
theorem dX10_walk_1 : decode cX10_walk 1 = .ok (.iconst 0, 1) := by decide +kernel
theorem dX10_walk_2 : decode cX10_walk 2 = .ok (.putfield 271, 3) := by decide +kernel
theorem dX10_walk_5 : decode cX10_walk 5 = .ok (.aload_n 0, 1) := by decide +kernel
theorem dX10_walk_6 : decode cX10_walk 6 = .ok (.iload_n 1, 1) := by decide +kernel
theorem dX10_walk_7 : decode cX10_walk 7 = .ok (.invokevirtual 283, 3) := by decide +kernel
theorem dX10_walk_10 : decode cX10_walk 10 = .ok (.iconst 0, 1) := by decide +kernel
theorem dX10_walk_11 : decode cX10_walk 11 = .ok (.istore_n 2, 1) := by decide +kernel
theorem dX10_walk_12 : decode cX10_walk 12 = .ok (.iload_n 2, 1) := by decide +kernel
theorem dX10_walk_13 : decode cX10_walk 13 = .ok (.aload_n 0, 1) := by decide +kernel
theorem dX10_walk_14 : decode cX10_walk 14 = .ok (.getfield 268, 3) := by decide +kernel
theorem dX10_walk_17 : decode cX10_walk 17 = .ok (.if_icmp .ge 24, 3) := by decide +kernel
theorem dX10_walk_20 : decode cX10_walk 20 = .ok (.aload_n 0, 1) := by decide +kernel
theorem dX10_walk_21 : decode cX10_walk 21 = .ok (.aload_n 0, 1) := by decide +kernel
theorem dX10_walk_22 : decode cX10_walk 22 = .ok (.getfield 13, 3) := by decide +kernel
theorem dX10_walk_25 : decode cX10_walk 25 = .ok (.aload_n 0, 1) := by decide +kernel
theorem dX10_walk_26 : decode cX10_walk 26 = .ok (.getfield 105, 3) := by decide +kernel
theorem dX10_walk_29 : decode cX10_walk 29 = .ok (.iload_n 2, 1) := by decide +kernel
theorem dX10_walk_30 : decode cX10_walk 30 = .ok (.iaload, 1) := by decide +kernel
theorem dX10_walk_31 : decode cX10_walk 31 = .ok (.iaload, 1) := by decide +kernel
theorem dX10_walk_32 : decode cX10_walk 32 = .ok (.invokevirtual 283, 3) := by decide +kernel
theorem dX10_walk_35 : decode cX10_walk 35 = .ok (.iinc 2 1, 3) := by decide +kernel
theorem dX10_walk_38 : decode cX10_walk 38 = .ok (.goto (-26), 3) := by decide +kernel
theorem dX10_walk_41 : decode cX10_walk 41 = .ok (.iconst 0, 1) := by decide +kernel
theorem dX10_walk_42 : decode cX10_walk 42 = .ok (.istore_n 2, 1) := by decide +kernel
theorem dX10_walk_43 : decode cX10_walk 43 = .ok (.iload_n 2, 1) := by decide +kernel
theorem dX10_walk_44 : decode cX10_walk 44 = .ok (.sipush 9826, 3) := by decide +kernel
theorem dX10_walk_47 : decode cX10_walk 47 = .ok (.if_icmp .ge 18, 3) := by decide +kernel
theorem dX10_walk_50 : decode cX10_walk 50 = .ok (.aload_n 0, 1) := by decide +kernel
theorem dX10_walk_51 : decode cX10_walk 51 = .ok (.getfield 114, 3) := by decide +kernel
theorem dX10_walk_54 : decode cX10_walk 54 = .ok (.iload_n 2, 1) := by decide +kernel
theorem dX10_walk_55 : decode cX10_walk 55 = .ok (.ldc_w 278, 3) := by decide +kernel
theorem dX10_walk_58 : decode cX10_walk 58 = .ok (.iastore, 1) := by decide +kernel
theorem dX10_walk_59 : decode cX10_walk 59 = .ok (.iinc 2 1, 3) := by decide +kernel
theorem dX10_walk_62 : decode cX10_walk 62 = .ok (.goto (-19), 3) := by decide +kernel
theorem dX10_walk_65 : decode cX10_walk 65 = .ok (.iconst 0, 1) := by decide +kernel
theorem dX10_walk_66 : decode cX10_walk 66 = .ok (.istore_n 2, 1) := by decide +kernel
theorem dX10_walk_67 : decode cX10_walk 67 = .ok (.aload_n 0, 1) := by decide +kernel
theorem dX10_walk_68 : decode cX10_walk 68 = .ok (.getfield 111, 3) := by decide +kernel
theorem dX10_walk_71 : decode cX10_walk 71 = .ok (.iload_n 2, 1) := by decide +kernel
theorem dX10_walk_72 : decode cX10_walk 72 = .ok (.iaload, 1) := by decide +kernel
theorem dX10_walk_73 : decode cX10_walk 73 = .ok (.iload_n 1, 1) := by decide +kernel
theorem dX10_walk_74 : decode cX10_walk 74 = .ok (.if_icmp .eq 9, 3) := by decide +kernel
theorem dX10_walk_77 : decode cX10_walk 77 = .ok (.iinc 2 1, 3) := by decide +kernel
theorem dX10_walk_80 : decode cX10_walk 80 = .ok (.goto (-13), 3) := by decide +kernel
theorem dX10_walk_83 : decode cX10_walk 83 = .ok (.aload_n 0, 1) := by decide +kernel
theorem dX10_walk_84 : decode cX10_walk 84 = .ok (.getfield 114, 3) := by decide +kernel
theorem dX10_walk_87 : decode cX10_walk 87 = .ok (.iload_n 2, 1) := by decide +kernel
theorem dX10_walk_88 : decode cX10_walk 88 = .ok (.iload_n 2, 1) := by decide +kernel
theorem dX10_walk_89 : decode cX10_walk 89 = .ok (.iconst 0, 1) := by decide +kernel
theorem dX10_walk_90 : decode cX10_walk 90 = .ok (.aload_n 0, 1) := by decide +kernel
theorem dX10_walk_91 : decode cX10_walk 91 = .ok (.iload_n 1, 1) := by decide +kernel
theorem dX10_walk_92 : decode cX10_walk 92 = .ok (.iconst 0, 1) := by decide +kernel
theorem dX10_walk_93 : decode cX10_walk 93 = .ok (.invokevirtual 279, 3) := by decide +kernel
theorem dX10_walk_96 : decode cX10_walk 96 = .ok (.invokestatic 274, 3) := by decide +kernel
theorem dX10_walk_99 : decode cX10_walk 99 = .ok (.iconst 0, 1) := by decide +kernel
theorem dX10_walk_100 : decode cX10_walk 100 = .ok (.iastore, 1) := by decide +kernel
theorem dX10_walk_101 : decode cX10_walk 101 = .ok (.iconst 1, 1) := by decide +kernel
theorem dX10_walk_102 : decode cX10_walk 102 = .ok (.istore_n 3, 1) := by decide +kernel
theorem dX10_walk_103 : decode cX10_walk 103 = .ok (.iload_n 3, 1) := by decide +kernel
theorem dX10_walk_104 : decode cX10_walk 104 = .ok (.aload_n 0, 1) := by decide +kernel
theorem dX10_walk_105 : decode cX10_walk 105 = .ok (.getfield 271, 3) := by decide +kernel
theorem dX10_walk_108 : decode cX10_walk 108 = .ok (.if_icmp .ge 106, 3) := by decide +kernel
theorem dX10_walk_111 : decode cX10_walk 111 = .ok (.iconst 0, 1) := by decide +kernel
theorem dX10_walk_112 : decode cX10_walk 112 = .ok (.istore 4, 2) := by decide +kernel
theorem dX10_walk_114 : decode cX10_walk 114 = .ok (.iload 4, 2) := by decide +kernel
theorem dX10_walk_116 : decode cX10_walk 116 = .ok (.iload_n 3, 1) := by decide +kernel
theorem dX10_walk_117 : decode cX10_walk 117 = .ok (.iadd, 1) := by decide +kernel
theorem dX10_walk_118 : decode cX10_walk 118 = .ok (.aload_n 0, 1) := by decide +kernel
theorem dX10_walk_119 : decode cX10_walk 119 = .ok (.getfield 271, 3) := by decide +kernel
theorem dX10_walk_122 : decode cX10_walk 122 = .ok (.if_icmp .gt 86, 3) := by decide +kernel
theorem dX10_walk_125 : decode cX10_walk 125 = .ok (.iload 4, 2) := by decide +kernel
theorem dX10_walk_127 : decode cX10_walk 127 = .ok (.iload_n 3, 1) := by decide +kernel
theorem dX10_walk_128 : decode cX10_walk 128 = .ok (.iadd, 1) := by decide +kernel
theorem dX10_walk_129 : decode cX10_walk 129 = .ok (.iconst 1, 1) := by decide +kernel
theorem dX10_walk_130 : decode cX10_walk 130 = .ok (.isub, 1) := by decide +kernel
theorem dX10_walk_131 : decode cX10_walk 131 = .ok (.istore 5, 2) := by decide +kernel
theorem dX10_walk_133 : decode cX10_walk 133 = .ok (.iconst 0, 1) := by decide +kernel
theorem dX10_walk_134 : decode cX10_walk 134 = .ok (.istore 6, 2) := by decide +kernel
theorem dX10_walk_136 : decode cX10_walk 136 = .ok (.iload 6, 2) := by decide +kernel
theorem dX10_walk_138 : decode cX10_walk 138 = .ok (.iconst 2, 1) := by decide +kernel
theorem dX10_walk_139 : decode cX10_walk 139 = .ok (.if_icmp .ge 63, 3) := by decide +kernel
theorem dX10_walk_142 : decode cX10_walk 142 = .ok (.iconst 0, 1) := by decide +kernel
theorem dX10_walk_143 : decode cX10_walk 143 = .ok (.istore 7, 2) := by decide +kernel
theorem dX10_walk_145 : decode cX10_walk 145 = .ok (.iload 7, 2) := by decide +kernel
theorem dX10_walk_147 : decode cX10_walk 147 = .ok (.aload_n 0, 1) := by decide +kernel
theorem dX10_walk_148 : decode cX10_walk 148 = .ok (.getfield 268, 3) := by decide +kernel
theorem dX10_walk_151 : decode cX10_walk 151 = .ok (.if_icmp .gt 45, 3) := by decide +kernel
theorem dX10_walk_154 : decode cX10_walk 154 = .ok (.aload_n 0, 1) := by decide +kernel
theorem dX10_walk_155 : decode cX10_walk 155 = .ok (.iload 4, 2) := by decide +kernel
theorem dX10_walk_157 : decode cX10_walk 157 = .ok (.iload 5, 2) := by decide +kernel
theorem dX10_walk_159 : decode cX10_walk 159 = .ok (.iload 6, 2) := by decide +kernel
theorem dX10_walk_161 : decode cX10_walk 161 = .ok (.iload 7, 2) := by decide +kernel
theorem dX10_walk_163 : decode cX10_walk 163 = .ok (.iload 4, 2) := by decide +kernel
theorem dX10_walk_165 : decode cX10_walk 165 = .ok (.iconst 1, 1) := by decide +kernel
theorem dX10_walk_166 : decode cX10_walk 166 = .ok (.isub, 1) := by decide +kernel
theorem dX10_walk_167 : decode cX10_walk 167 = .ok (.iload 5, 2) := by decide +kernel
theorem dX10_walk_169 : decode cX10_walk 169 = .ok (.invokevirtual 286, 3) := by decide +kernel
theorem dX10_walk_172 : decode cX10_walk 172 = .ok (.aload_n 0, 1) := by decide +kernel
theorem dX10_walk_173 : decode cX10_walk 173 = .ok (.iload 4, 2) := by decide +kernel
theorem dX10_walk_175 : decode cX10_walk 175 = .ok (.iload 5, 2) := by decide +kernel
theorem dX10_walk_177 : decode cX10_walk 177 = .ok (.iload 6, 2) := by decide +kernel
theorem dX10_walk_179 : decode cX10_walk 179 = .ok (.iload 7, 2) := by decide +kernel
theorem dX10_walk_181 : decode cX10_walk 181 = .ok (.iload 4, 2) := by decide +kernel
theorem dX10_walk_183 : decode cX10_walk 183 = .ok (.iload 5, 2) := by decide +kernel
theorem dX10_walk_185 : decode cX10_walk 185 = .ok (.iconst 1, 1) := by decide +kernel
theorem dX10_walk_186 : decode cX10_walk 186 = .ok (.iadd, 1) := by decide +kernel
theorem dX10_walk_187 : decode cX10_walk 187 = .ok (.invokevirtual 286, 3) := by decide +kernel
theorem dX10_walk_190 : decode cX10_walk 190 = .ok (.iinc 7 1, 3) := by decide +kernel
theorem dX10_walk_193 : decode cX10_walk 193 = .ok (.goto (-48), 3) := by decide +kernel
theorem dX10_walk_196 : decode cX10_walk 196 = .ok (.iinc 6 1, 3) := by decide +kernel
theorem dX10_walk_199 : decode cX10_walk 199 = .ok (.goto (-63), 3) := by decide +kernel
theorem dX10_walk_202 : decode cX10_walk 202 = .ok (.iinc 4 1, 3) := by decide +kernel
theorem dX10_walk_205 : decode cX10_walk 205 = .ok (.goto (-91), 3) := by decide +kernel
theorem dX10_walk_208 : decode cX10_walk 208 = .ok (.iinc 3 1, 3) := by decide +kernel
theorem dX10_walk_211 : decode cX10_walk 211 = .ok (.goto (-108), 3) := by decide +kernel
theorem dX10_walk_214 : decode cX10_walk 214 = .ok (.return_, 1) := by decide +kernel
theorem dX10_leastOf_0 : decode cX10_leastOf 0 = .ok (.ldc_w 278, 3) := by decide +kernel
theorem dX10_leastOf_3 : decode cX10_leastOf 3 = .ok (.istore_n 2, 1) := by decide +kernel
theorem dX10_leastOf_4 : decode cX10_leastOf 4 = .ok (.iconst 0, 1) := by decide +kernel
theorem dX10_leastOf_5 : decode cX10_leastOf 5 = .ok (.istore_n 3, 1) := by decide +kernel
theorem dX10_leastOf_6 : decode cX10_leastOf 6 = .ok (.iload_n 3, 1) := by decide +kernel
theorem dX10_leastOf_7 : decode cX10_leastOf 7 = .ok (.aload_n 0, 1) := by decide +kernel
theorem dX10_leastOf_8 : decode cX10_leastOf 8 = .ok (.getfield 271, 3) := by decide +kernel
theorem dX10_leastOf_11 : decode cX10_leastOf 11 = .ok (.if_icmp .ge 90, 3) := by decide +kernel
theorem dX10_leastOf_14 : decode cX10_leastOf 14 = .ok (.iload_n 3, 1) := by decide +kernel
theorem dX10_leastOf_15 : decode cX10_leastOf 15 = .ok (.istore 4, 2) := by decide +kernel
theorem dX10_leastOf_17 : decode cX10_leastOf 17 = .ok (.iload 4, 2) := by decide +kernel
theorem dX10_leastOf_19 : decode cX10_leastOf 19 = .ok (.aload_n 0, 1) := by decide +kernel
theorem dX10_leastOf_20 : decode cX10_leastOf 20 = .ok (.getfield 271, 3) := by decide +kernel
theorem dX10_leastOf_23 : decode cX10_leastOf 23 = .ok (.if_icmp .ge 72, 3) := by decide +kernel
theorem dX10_leastOf_26 : decode cX10_leastOf 26 = .ok (.iload_n 1, 1) := by decide +kernel
theorem dX10_leastOf_27 : decode cX10_leastOf 27 = .ok (.istore 5, 2) := by decide +kernel
theorem dX10_leastOf_29 : decode cX10_leastOf 29 = .ok (.iload 5, 2) := by decide +kernel
theorem dX10_leastOf_31 : decode cX10_leastOf 31 = .ok (.aload_n 0, 1) := by decide +kernel
theorem dX10_leastOf_32 : decode cX10_leastOf 32 = .ok (.getfield 268, 3) := by decide +kernel
theorem dX10_leastOf_35 : decode cX10_leastOf 35 = .ok (.if_icmp .gt 54, 3) := by decide +kernel
theorem dX10_leastOf_38 : decode cX10_leastOf 38 = .ok (.iconst 0, 1) := by decide +kernel
theorem dX10_leastOf_39 : decode cX10_leastOf 39 = .ok (.istore 6, 2) := by decide +kernel
theorem dX10_leastOf_41 : decode cX10_leastOf 41 = .ok (.iload 6, 2) := by decide +kernel
theorem dX10_leastOf_43 : decode cX10_leastOf 43 = .ok (.iconst 2, 1) := by decide +kernel
theorem dX10_leastOf_44 : decode cX10_leastOf 44 = .ok (.if_icmp .ge 39, 3) := by decide +kernel
theorem dX10_leastOf_47 : decode cX10_leastOf 47 = .ok (.aload_n 0, 1) := by decide +kernel
theorem dX10_leastOf_48 : decode cX10_leastOf 48 = .ok (.getfield 114, 3) := by decide +kernel
theorem dX10_leastOf_51 : decode cX10_leastOf 51 = .ok (.iload_n 3, 1) := by decide +kernel
theorem dX10_leastOf_52 : decode cX10_leastOf 52 = .ok (.iload 4, 2) := by decide +kernel
theorem dX10_leastOf_54 : decode cX10_leastOf 54 = .ok (.iload 6, 2) := by decide +kernel
theorem dX10_leastOf_56 : decode cX10_leastOf 56 = .ok (.iload 5, 2) := by decide +kernel
theorem dX10_leastOf_58 : decode cX10_leastOf 58 = .ok (.invokestatic 274, 3) := by decide +kernel
theorem dX10_leastOf_61 : decode cX10_leastOf 61 = .ok (.iaload, 1) := by decide +kernel
theorem dX10_leastOf_62 : decode cX10_leastOf 62 = .ok (.istore 7, 2) := by decide +kernel
theorem dX10_leastOf_64 : decode cX10_leastOf 64 = .ok (.iload 7, 2) := by decide +kernel
theorem dX10_leastOf_66 : decode cX10_leastOf 66 = .ok (.iload_n 2, 1) := by decide +kernel
theorem dX10_leastOf_67 : decode cX10_leastOf 67 = .ok (.if_icmp .ge 8, 3) := by decide +kernel
theorem dX10_leastOf_70 : decode cX10_leastOf 70 = .ok (.iload 7, 2) := by decide +kernel
theorem dX10_leastOf_72 : decode cX10_leastOf 72 = .ok (.goto 4, 3) := by decide +kernel
theorem dX10_leastOf_75 : decode cX10_leastOf 75 = .ok (.iload_n 2, 1) := by decide +kernel
theorem dX10_leastOf_76 : decode cX10_leastOf 76 = .ok (.istore_n 2, 1) := by decide +kernel
theorem dX10_leastOf_77 : decode cX10_leastOf 77 = .ok (.iinc 6 1, 3) := by decide +kernel
theorem dX10_leastOf_80 : decode cX10_leastOf 80 = .ok (.goto (-39), 3) := by decide +kernel
theorem dX10_leastOf_83 : decode cX10_leastOf 83 = .ok (.iinc 5 1, 3) := by decide +kernel
theorem dX10_leastOf_86 : decode cX10_leastOf 86 = .ok (.goto (-57), 3) := by decide +kernel
theorem dX10_leastOf_89 : decode cX10_leastOf 89 = .ok (.iinc 4 1, 3) := by decide +kernel
theorem dX10_leastOf_92 : decode cX10_leastOf 92 = .ok (.goto (-75), 3) := by decide +kernel
theorem dX10_leastOf_95 : decode cX10_leastOf 95 = .ok (.iinc 3 1, 3) := by decide +kernel
theorem dX10_leastOf_98 : decode cX10_leastOf 98 = .ok (.goto (-92), 3) := by decide +kernel
theorem dX10_leastOf_101 : decode cX10_leastOf 101 = .ok (.iload_n 2, 1) := by decide +kernel
theorem dX10_leastOf_102 : decode cX10_leastOf 102 = .ok (.ireturn, 1) := by decide +kernel
theorem dX10_most_0 : decode cX10_most 0 = .ok (.aload_n 0, 1) := by decide +kernel
theorem dX10_most_1 : decode cX10_most 1 = .ok (.iconst 0, 1) := by decide +kernel
theorem dX10_most_2 : decode cX10_most 2 = .ok (.putfield 117, 3) := by decide +kernel
theorem dX10_most_5 : decode cX10_most 5 = .ok (.iload_n 1, 1) := by decide +kernel
theorem dX10_most_6 : decode cX10_most 6 = .ok (.i2l, 1) := by decide +kernel
theorem dX10_most_7 : decode cX10_most 7 = .ok (.lconst 0, 1) := by decide +kernel
theorem dX10_most_8 : decode cX10_most 8 = .ok (.ldc2_w 134, 3) := by decide +kernel
theorem dX10_most_11 : decode cX10_most 11 = .ok (.invokestatic 125, 3) := by decide +kernel
theorem dX10_most_14 : decode cX10_most 14 = .ok (.ifCond .ne 5, 3) := by decide +kernel
theorem dX10_most_17 : decode cX10_most 17 = .ok (.iconst (-1), 1) := by decide +kernel
theorem dX10_most_18 : decode cX10_most 18 = .ok (.ireturn, 1) := by decide +kernel
theorem dX10_most_19 : decode cX10_most 19 = .ok (.aload_n 0, 1) := by decide +kernel
theorem dX10_most_20 : decode cX10_most 20 = .ok (.iload_n 1, 1) := by decide +kernel
theorem dX10_most_21 : decode cX10_most 21 = .ok (.invokevirtual 290, 3) := by decide +kernel
theorem dX10_most_24 : decode cX10_most 24 = .ok (.aload_n 0, 1) := by decide +kernel
theorem dX10_most_25 : decode cX10_most 25 = .ok (.getfield 268, 3) := by decide +kernel
theorem dX10_most_28 : decode cX10_most 28 = .ok (.istore_n 2, 1) := by decide +kernel
theorem dX10_most_29 : decode cX10_most 29 = .ok (.aload_n 0, 1) := by decide +kernel
theorem dX10_most_30 : decode cX10_most 30 = .ok (.iload_n 2, 1) := by decide +kernel
theorem dX10_most_31 : decode cX10_most 31 = .ok (.invokevirtual 293, 3) := by decide +kernel
theorem dX10_most_34 : decode cX10_most 34 = .ok (.ldc_w 278, 3) := by decide +kernel
theorem dX10_most_37 : decode cX10_most 37 = .ok (.if_icmp .ne 9, 3) := by decide +kernel
theorem dX10_most_40 : decode cX10_most 40 = .ok (.iinc 2 (-1), 3) := by decide +kernel
theorem dX10_most_43 : decode cX10_most 43 = .ok (.goto (-14), 3) := by decide +kernel
theorem dX10_most_46 : decode cX10_most 46 = .ok (.iload_n 2, 1) := by decide +kernel
theorem dX10_most_47 : decode cX10_most 47 = .ok (.ireturn, 1) := by decide +kernel
theorem dX10_least_0 : decode cX10_least 0 = .ok (.aload_n 0, 1) := by decide +kernel
theorem dX10_least_1 : decode cX10_least 1 = .ok (.iconst 0, 1) := by decide +kernel
theorem dX10_least_2 : decode cX10_least 2 = .ok (.putfield 117, 3) := by decide +kernel
theorem dX10_least_5 : decode cX10_least 5 = .ok (.iload_n 1, 1) := by decide +kernel
theorem dX10_least_6 : decode cX10_least 6 = .ok (.i2l, 1) := by decide +kernel
theorem dX10_least_7 : decode cX10_least 7 = .ok (.lconst 0, 1) := by decide +kernel
theorem dX10_least_8 : decode cX10_least 8 = .ok (.ldc2_w 134, 3) := by decide +kernel
theorem dX10_least_11 : decode cX10_least 11 = .ok (.invokestatic 125, 3) := by decide +kernel
theorem dX10_least_14 : decode cX10_least 14 = .ok (.ifCond .eq 17, 3) := by decide +kernel
theorem dX10_least_17 : decode cX10_least 17 = .ok (.iload_n 2, 1) := by decide +kernel
theorem dX10_least_18 : decode cX10_least 18 = .ok (.i2l, 1) := by decide +kernel
theorem dX10_least_19 : decode cX10_least 19 = .ok (.lconst 0, 1) := by decide +kernel
theorem dX10_least_20 : decode cX10_least 20 = .ok (.aload_n 0, 1) := by decide +kernel
theorem dX10_least_21 : decode cX10_least 21 = .ok (.getfield 268, 3) := by decide +kernel
theorem dX10_least_24 : decode cX10_least 24 = .ok (.i2l, 1) := by decide +kernel
theorem dX10_least_25 : decode cX10_least 25 = .ok (.invokestatic 125, 3) := by decide +kernel
theorem dX10_least_28 : decode cX10_least 28 = .ok (.ifCond .ne 5, 3) := by decide +kernel
theorem dX10_least_31 : decode cX10_least 31 = .ok (.iconst (-1), 1) := by decide +kernel
theorem dX10_least_32 : decode cX10_least 32 = .ok (.ireturn, 1) := by decide +kernel
theorem dX10_least_33 : decode cX10_least 33 = .ok (.aload_n 0, 1) := by decide +kernel
theorem dX10_least_34 : decode cX10_least 34 = .ok (.iload_n 1, 1) := by decide +kernel
theorem dX10_least_35 : decode cX10_least 35 = .ok (.invokevirtual 290, 3) := by decide +kernel
theorem dX10_least_38 : decode cX10_least 38 = .ok (.aload_n 0, 1) := by decide +kernel
theorem dX10_least_39 : decode cX10_least 39 = .ok (.iload_n 2, 1) := by decide +kernel
theorem dX10_least_40 : decode cX10_least 40 = .ok (.invokevirtual 293, 3) := by decide +kernel
theorem dX10_least_43 : decode cX10_least 43 = .ok (.istore_n 3, 1) := by decide +kernel
theorem dX10_least_44 : decode cX10_least 44 = .ok (.iload_n 3, 1) := by decide +kernel
theorem dX10_least_45 : decode cX10_least 45 = .ok (.ldc_w 278, 3) := by decide +kernel
theorem dX10_least_48 : decode cX10_least 48 = .ok (.if_icmp .ne 7, 3) := by decide +kernel
theorem dX10_least_51 : decode cX10_least 51 = .ok (.iconst (-1), 1) := by decide +kernel
theorem dX10_least_52 : decode cX10_least 52 = .ok (.goto 4, 3) := by decide +kernel
theorem dX10_least_55 : decode cX10_least 55 = .ok (.iload_n 3, 1) := by decide +kernel
theorem dX10_least_56 : decode cX10_least 56 = .ok (.ireturn, 1) := by decide +kernel
theorem dX10_led_0 : decode cX10_led 0 = .ok (.aload_n 0, 1) := by decide +kernel
theorem dX10_led_1 : decode cX10_led 1 = .ok (.iconst 0, 1) := by decide +kernel
theorem dX10_led_2 : decode cX10_led 2 = .ok (.putfield 117, 3) := by decide +kernel
theorem dX10_led_5 : decode cX10_led 5 = .ok (.iload_n 1, 1) := by decide +kernel
theorem dX10_led_6 : decode cX10_led 6 = .ok (.ifCond .lt 10, 3) := by decide +kernel
theorem dX10_led_9 : decode cX10_led 9 = .ok (.iload_n 2, 1) := by decide +kernel
theorem dX10_led_10 : decode cX10_led 10 = .ok (.invokestatic 144, 3) := by decide +kernel
theorem dX10_led_13 : decode cX10_led 13 = .ok (.ifCond .ne 5, 3) := by decide +kernel
theorem dX10_led_16 : decode cX10_led 16 = .ok (.iconst (-1), 1) := by decide +kernel
theorem dX10_led_17 : decode cX10_led 17 = .ok (.ireturn, 1) := by decide +kernel
theorem dX10_led_18 : decode cX10_led 18 = .ok (.iload_n 1, 1) := by decide +kernel
theorem dX10_led_19 : decode cX10_led 19 = .ok (.istore_n 3, 1) := by decide +kernel
theorem dX10_led_20 : decode cX10_led 20 = .ok (.iconst 0, 1) := by decide +kernel
theorem dX10_led_21 : decode cX10_led 21 = .ok (.istore 4, 2) := by decide +kernel
theorem dX10_led_23 : decode cX10_led 23 = .ok (.iload 4, 2) := by decide +kernel
theorem dX10_led_25 : decode cX10_led 25 = .ok (.aload_n 0, 1) := by decide +kernel
theorem dX10_led_26 : decode cX10_led 26 = .ok (.getfield 156, 3) := by decide +kernel
theorem dX10_led_29 : decode cX10_led 29 = .ok (.if_icmp .ge 49, 3) := by decide +kernel
theorem dX10_led_32 : decode cX10_led 32 = .ok (.aload_n 0, 1) := by decide +kernel
theorem dX10_led_33 : decode cX10_led 33 = .ok (.getfield 37, 3) := by decide +kernel
theorem dX10_led_36 : decode cX10_led 36 = .ok (.iload 4, 2) := by decide +kernel
theorem dX10_led_38 : decode cX10_led 38 = .ok (.iaload, 1) := by decide +kernel
theorem dX10_led_39 : decode cX10_led 39 = .ok (.iload_n 2, 1) := by decide +kernel
theorem dX10_led_40 : decode cX10_led 40 = .ok (.if_icmp .gt 32, 3) := by decide +kernel
theorem dX10_led_43 : decode cX10_led 43 = .ok (.iload_n 3, 1) := by decide +kernel
theorem dX10_led_44 : decode cX10_led 44 = .ok (.aload_n 0, 1) := by decide +kernel
theorem dX10_led_45 : decode cX10_led 45 = .ok (.getfield 31, 3) := by decide +kernel
theorem dX10_led_48 : decode cX10_led 48 = .ok (.iload 4, 2) := by decide +kernel
theorem dX10_led_50 : decode cX10_led 50 = .ok (.iaload, 1) := by decide +kernel
theorem dX10_led_51 : decode cX10_led 51 = .ok (.if_icmp .ge 11, 3) := by decide +kernel
theorem dX10_led_54 : decode cX10_led 54 = .ok (.aload_n 0, 1) := by decide +kernel
theorem dX10_led_55 : decode cX10_led 55 = .ok (.getfield 28, 3) := by decide +kernel
theorem dX10_led_58 : decode cX10_led 58 = .ok (.iload 4, 2) := by decide +kernel
theorem dX10_led_60 : decode cX10_led 60 = .ok (.iaload, 1) := by decide +kernel
theorem dX10_led_61 : decode cX10_led 61 = .ok (.ireturn, 1) := by decide +kernel
theorem dX10_led_62 : decode cX10_led 62 = .ok (.iload_n 3, 1) := by decide +kernel
theorem dX10_led_63 : decode cX10_led 63 = .ok (.aload_n 0, 1) := by decide +kernel
theorem dX10_led_64 : decode cX10_led 64 = .ok (.getfield 31, 3) := by decide +kernel
theorem dX10_led_67 : decode cX10_led 67 = .ok (.iload 4, 2) := by decide +kernel
theorem dX10_led_69 : decode cX10_led 69 = .ok (.iaload, 1) := by decide +kernel
theorem dX10_led_70 : decode cX10_led 70 = .ok (.isub, 1) := by decide +kernel
theorem dX10_led_71 : decode cX10_led 71 = .ok (.istore_n 3, 1) := by decide +kernel
theorem dX10_led_72 : decode cX10_led 72 = .ok (.iinc 4 1, 3) := by decide +kernel
theorem dX10_led_75 : decode cX10_led 75 = .ok (.goto (-52), 3) := by decide +kernel
theorem dX10_led_78 : decode cX10_led 78 = .ok (.iconst (-1), 1) := by decide +kernel
theorem dX10_led_79 : decode cX10_led 79 = .ok (.ireturn, 1) := by decide +kernel
theorem dX10_count_0 : decode cX10_count 0 = .ok (.aload_n 0, 1) := by decide +kernel
theorem dX10_count_1 : decode cX10_count 1 = .ok (.iconst 0, 1) := by decide +kernel
theorem dX10_count_2 : decode cX10_count 2 = .ok (.putfield 117, 3) := by decide +kernel
theorem dX10_count_5 : decode cX10_count 5 = .ok (.iload_n 1, 1) := by decide +kernel
theorem dX10_count_6 : decode cX10_count 6 = .ok (.tableswitch 110 0 7 #[46, 51, 56, 61, 66, 71, 76, 81], 46) := by decide +kernel
theorem dX10_count_52 : decode cX10_count 52 = .ok (.aload_n 0, 1) := by decide +kernel
theorem dX10_count_53 : decode cX10_count 53 = .ok (.getfield 129, 3) := by decide +kernel
theorem dX10_count_56 : decode cX10_count 56 = .ok (.ireturn, 1) := by decide +kernel
theorem dX10_count_57 : decode cX10_count 57 = .ok (.aload_n 0, 1) := by decide +kernel
theorem dX10_count_58 : decode cX10_count 58 = .ok (.getfield 151, 3) := by decide +kernel
theorem dX10_count_61 : decode cX10_count 61 = .ok (.ireturn, 1) := by decide +kernel
theorem dX10_count_62 : decode cX10_count 62 = .ok (.aload_n 0, 1) := by decide +kernel
theorem dX10_count_63 : decode cX10_count 63 = .ok (.getfield 156, 3) := by decide +kernel
theorem dX10_count_66 : decode cX10_count 66 = .ok (.ireturn, 1) := by decide +kernel
theorem dX10_count_67 : decode cX10_count 67 = .ok (.aload_n 0, 1) := by decide +kernel
theorem dX10_count_68 : decode cX10_count 68 = .ok (.getfield 231, 3) := by decide +kernel
theorem dX10_count_71 : decode cX10_count 71 = .ok (.ireturn, 1) := by decide +kernel
theorem dX10_count_72 : decode cX10_count 72 = .ok (.aload_n 0, 1) := by decide +kernel
theorem dX10_count_73 : decode cX10_count 73 = .ok (.getfield 254, 3) := by decide +kernel
theorem dX10_count_76 : decode cX10_count 76 = .ok (.ireturn, 1) := by decide +kernel
theorem dX10_count_77 : decode cX10_count 77 = .ok (.aload_n 0, 1) := by decide +kernel
theorem dX10_count_78 : decode cX10_count 78 = .ok (.getfield 268, 3) := by decide +kernel
theorem dX10_count_81 : decode cX10_count 81 = .ok (.ireturn, 1) := by decide +kernel
theorem dX10_count_82 : decode cX10_count 82 = .ok (.aload_n 0, 1) := by decide +kernel
theorem dX10_count_83 : decode cX10_count 83 = .ok (.getfield 159, 3) := by decide +kernel
theorem dX10_count_86 : decode cX10_count 86 = .ok (.ireturn, 1) := by decide +kernel
theorem dX10_count_87 : decode cX10_count 87 = .ok (.iconst 0, 1) := by decide +kernel
theorem dX10_count_88 : decode cX10_count 88 = .ok (.istore_n 2, 1) := by decide +kernel
theorem dX10_count_89 : decode cX10_count 89 = .ok (.iconst 0, 1) := by decide +kernel
theorem dX10_count_90 : decode cX10_count 90 = .ok (.istore_n 3, 1) := by decide +kernel
theorem dX10_count_91 : decode cX10_count 91 = .ok (.iload_n 3, 1) := by decide +kernel
theorem dX10_count_92 : decode cX10_count 92 = .ok (.aload_n 0, 1) := by decide +kernel
theorem dX10_count_93 : decode cX10_count 93 = .ok (.getfield 156, 3) := by decide +kernel
theorem dX10_count_96 : decode cX10_count 96 = .ok (.if_icmp .ge 18, 3) := by decide +kernel
theorem dX10_count_99 : decode cX10_count 99 = .ok (.iload_n 2, 1) := by decide +kernel
theorem dX10_count_100 : decode cX10_count 100 = .ok (.aload_n 0, 1) := by decide +kernel
theorem dX10_count_101 : decode cX10_count 101 = .ok (.getfield 31, 3) := by decide +kernel
theorem dX10_count_104 : decode cX10_count 104 = .ok (.iload_n 3, 1) := by decide +kernel
theorem dX10_count_105 : decode cX10_count 105 = .ok (.iaload, 1) := by decide +kernel
theorem dX10_count_106 : decode cX10_count 106 = .ok (.iadd, 1) := by decide +kernel
theorem dX10_count_107 : decode cX10_count 107 = .ok (.istore_n 2, 1) := by decide +kernel
theorem dX10_count_108 : decode cX10_count 108 = .ok (.iinc 3 1, 3) := by decide +kernel
theorem dX10_count_111 : decode cX10_count 111 = .ok (.goto (-20), 3) := by decide +kernel
theorem dX10_count_114 : decode cX10_count 114 = .ok (.iload_n 2, 1) := by decide +kernel
theorem dX10_count_115 : decode cX10_count 115 = .ok (.ireturn, 1) := by decide +kernel
theorem dX10_count_116 : decode cX10_count 116 = .ok (.iconst (-1), 1) := by decide +kernel
theorem dX10_count_117 : decode cX10_count 117 = .ok (.ireturn, 1) := by decide +kernel
theorem dX10_status_0 : decode cX10_status 0 = .ok (.aload_n 0, 1) := by decide +kernel
theorem dX10_status_1 : decode cX10_status 1 = .ok (.iconst 0, 1) := by decide +kernel
theorem dX10_status_2 : decode cX10_status 2 = .ok (.putfield 117, 3) := by decide +kernel
theorem dX10_status_5 : decode cX10_status 5 = .ok (.aload_n 0, 1) := by decide +kernel
theorem dX10_status_6 : decode cX10_status 6 = .ok (.getfield 120, 3) := by decide +kernel
theorem dX10_status_9 : decode cX10_status 9 = .ok (.ireturn, 1) := by decide +kernel
end
section
/-- what a call answers: an int, a long, nothing; and the cells behind it -/
def RI (x : Int32) (S : St) : Option Value → List va_E → Prop := fun v hp => v = some (.int x) ∧ hp = hC S
def RJl (x : Int64) (S : St) : Option Value → List va_E → Prop := fun v hp => v = some (.long x) ∧ hp = hC S
def RV (S : St) : Option Value → List va_E → Prop := fun v hp => v = none ∧ hp = hC S
def b2i (b : Bool) : Int32 := match b with
  | true => 1
  | false => 0
theorem nb {b : Bool} : narrow .boolean (.int (b2i b)) = .int (b2i b) := by cases b <;> rfl
theorem b2i_0 {b : Bool} : b2i b = 0 ↔ b = false := by cases b <;> simp [b2i]
theorem nI_inc (k : Nat) : nI k + Int32.ofInt 1 = nI (k + 1) := (nI_succ k).symm
section EVM
variable {g : GG} {M M' : MD} {pc : Nat} {lv : List (Nat × Value)} {st : List Value} {hp : List va_E} {S S' : St} {Post Post' : Option Value → List va_E → Prop}
theorem ri {x : Int32} : RI x S (some (.int x)) (hC S) := ⟨rfl, rfl⟩
theorem rl {x : Int64} : RJl x S (some (.long x)) (hC S) := ⟨rfl, rfl⟩
theorem rv : RV S none (hC S) := ⟨rfl, rfl⟩
theorem ri' {x y : Int32} {hp : List va_E} (h : y = x) (hh : hp = hC S) : RI x S (some (.int y)) hp := ⟨by rw [h], hh⟩
theorem rl' {x y : Int64} {hp : List va_E} (h : y = x) (hh : hp = hC S) : RJl x S (some (.long y)) hp := ⟨by rw [h], hh⟩
theorem rv' {hp : List va_E} (hh : hp = hC S) : RV S none hp := ⟨rfl, hh⟩
theorem ev_if_eqB {b : Bool} {off : Int} {tgt : Nat} (d : decode M.2.1 pc = .ok (.ifCond .eq off, 3)) (ht : (pc : Int) + off = (tgt : Int)) (kt : b = false → Ev g M tgt lv st hp Post) (kf : b = true → Ev g M (pc + 3) lv st hp Post) : Ev g M pc lv (.int (b2i b) :: st) hp Post := ev_if_eq d ht (fun q => kt (b2i_0.mp q)) (fun q => kf (by cases b; exact absurd rfl q; rfl))
theorem ev_if_neB {b : Bool} {off : Int} {tgt : Nat} (d : decode M.2.1 pc = .ok (.ifCond .ne off, 3)) (ht : (pc : Int) + off = (tgt : Int)) (kt : b = true → Ev g M tgt lv st hp Post) (kf : b = false → Ev g M (pc + 3) lv st hp Post) : Ev g M pc lv (.int (b2i b) :: st) hp Post := ev_if_ne d ht (fun q => kt (by cases b; exact absurd rfl q; rfl)) (fun q => kf (b2i_0.mp q))
theorem ev_iincN {i k : Nat} {lv' : List (Nat × Value)} (d : decode M.2.1 pc = .ok (.iinc i 1, 3)) (hx : lvGet lv i = some (.int (nI k))) (hn : i < M.2.2.1) (h : lvSt1 lv i (.int (nI (k + 1))) = lv') (kk : Ev g M (pc + 3) lv' st hp Post) : Ev g M pc lv st hp Post := ev_iinc d hx hn (by rw [nI_inc]; exact h) kk
theorem ev_icmp_ltN {a b : Nat} {off : Int} {tgt : Nat} (ha : a < 2 ^ 31) (hb : b < 2 ^ 31) (d : decode M.2.1 pc = .ok (.if_icmp .lt off, 3)) (ht : (pc : Int) + off = (tgt : Int)) (kt : a < b → Ev g M tgt lv st hp Post) (kf : ¬ (a < b) → Ev g M (pc + 3) lv st hp Post) : Ev g M pc lv (.int (nI b) :: .int (nI a) :: st) hp Post := ev_icmp_lt d ht (fun q => kt ((nI_ltI ha hb).mp q)) (fun q => kf (fun z => q ((nI_ltI ha hb).mpr z)))
theorem ev_icmp_geN {a b : Nat} {off : Int} {tgt : Nat} (ha : a < 2 ^ 31) (hb : b < 2 ^ 31) (d : decode M.2.1 pc = .ok (.if_icmp .ge off, 3)) (ht : (pc : Int) + off = (tgt : Int)) (kt : b ≤ a → Ev g M tgt lv st hp Post) (kf : ¬ (b ≤ a) → Ev g M (pc + 3) lv st hp Post) : Ev g M pc lv (.int (nI b) :: .int (nI a) :: st) hp Post := ev_icmp_ge d ht (fun q => kt ((nI_leI hb ha).mp q)) (fun q => kf (fun z => q ((nI_leI hb ha).mpr z)))
theorem ev_icmp_gtN {a b : Nat} {off : Int} {tgt : Nat} (ha : a < 2 ^ 31) (hb : b < 2 ^ 31) (d : decode M.2.1 pc = .ok (.if_icmp .gt off, 3)) (ht : (pc : Int) + off = (tgt : Int)) (kt : b < a → Ev g M tgt lv st hp Post) (kf : ¬ (b < a) → Ev g M (pc + 3) lv st hp Post) : Ev g M pc lv (.int (nI b) :: .int (nI a) :: st) hp Post := ev_icmp_gt d ht (fun q => kt ((nI_ltI hb ha).mp q)) (fun q => kf (fun z => q ((nI_ltI hb ha).mpr z)))
theorem ev_icmp_leN {a b : Nat} {off : Int} {tgt : Nat} (ha : a < 2 ^ 31) (hb : b < 2 ^ 31) (d : decode M.2.1 pc = .ok (.if_icmp .le off, 3)) (ht : (pc : Int) + off = (tgt : Int)) (kt : a ≤ b → Ev g M tgt lv st hp Post) (kf : ¬ (a ≤ b) → Ev g M (pc + 3) lv st hp Post) : Ev g M pc lv (.int (nI b) :: .int (nI a) :: st) hp Post := ev_icmp_le d ht (fun q => kt ((nI_leI ha hb).mp q)) (fun q => kf (fun z => q ((nI_leI ha hb).mpr z)))
theorem ev_icmp_eqN {a b : Nat} {off : Int} {tgt : Nat} (ha : a < 2 ^ 31) (hb : b < 2 ^ 31) (d : decode M.2.1 pc = .ok (.if_icmp .eq off, 3)) (ht : (pc : Int) + off = (tgt : Int)) (kt : a = b → Ev g M tgt lv st hp Post) (kf : ¬ (a = b) → Ev g M (pc + 3) lv st hp Post) : Ev g M pc lv (.int (nI b) :: .int (nI a) :: st) hp Post := ev_icmp_eq d ht (fun q => kt ((nI_eq ha hb).mp q)) (fun q => kf (fun z => q ((nI_eq ha hb).mpr z)))
theorem ev_icmp_neN {a b : Nat} {off : Int} {tgt : Nat} (ha : a < 2 ^ 31) (hb : b < 2 ^ 31) (d : decode M.2.1 pc = .ok (.if_icmp .ne off, 3)) (ht : (pc : Int) + off = (tgt : Int)) (kt : ¬ a = b → Ev g M tgt lv st hp Post) (kf : a = b → Ev g M (pc + 3) lv st hp Post) : Ev g M pc lv (.int (nI b) :: .int (nI a) :: st) hp Post := ev_icmp_ne d ht (fun q => kt (fun z => q ((nI_eq ha hb).mpr z))) (fun q => kf ((nI_eq ha hb).mp q))
theorem callV0I {idx q : Nat} {x : Int32} (d : decode M.2.1 pc = .ok (.invokevirtual idx, 3)) (ml : Ml M.1.cls idx M') (mv : Mv M' 0) (hr : (Nat.ble (M'.2.2.2.2.frames + 1) M.2.2.2.2.frames && Nat.ble (8 + (M'.2.2.1 + 11) + M'.2.2.2.2.locals) M.2.2.2.2.locals) = true) (hw : Nat.ble (st.map fun v => v.category).sum 8 = true) {ci : Nat} {fs : List Value} (hq : hp[q]? = some (.inr (ci, fs))) (hci : (vwCl[ci]?).map (fun z => z.1) = some M'.1.cls) (ct : Ct g M' (.ref q :: []) hp (RI x S')) (kk : Ev g M (pc + 3) lv (.int x :: st) (hC S') Post) : Ev g M pc lv (.ref q :: st) hp Post := ev_callV (as := []) (rest := st) d ml mv hr rfl hw hq hci ct (fun v hp' h => by obtain ⟨rfl, rfl⟩ := h; exact kk)
theorem callS0I {idx : Nat} {x : Int32} (d : decode M.2.1 pc = .ok (.invokestatic idx, 3)) (ml : Ml M.1.cls idx M') (mv : Ms M' 0) (hr : (Nat.ble (M'.2.2.2.2.frames + 1) M.2.2.2.2.frames && Nat.ble (8 + (M'.2.2.1 + 11) + M'.2.2.2.2.locals) M.2.2.2.2.locals) = true) (hw : Nat.ble (st.map fun v => v.category).sum 8 = true) (ct : Ct g M' [] hp (RI x S')) (kk : Ev g M (pc + 3) lv (.int x :: st) (hC S') Post) : Ev g M pc lv (st) hp Post := ev_callS (as := []) (rest := st) d ml mv hr rfl hw ct (fun v hp' h => by obtain ⟨rfl, rfl⟩ := h; exact kk)
theorem callV0L {idx q : Nat} {x : Int64} (d : decode M.2.1 pc = .ok (.invokevirtual idx, 3)) (ml : Ml M.1.cls idx M') (mv : Mv M' 0) (hr : (Nat.ble (M'.2.2.2.2.frames + 1) M.2.2.2.2.frames && Nat.ble (8 + (M'.2.2.1 + 11) + M'.2.2.2.2.locals) M.2.2.2.2.locals) = true) (hw : Nat.ble (st.map fun v => v.category).sum 8 = true) {ci : Nat} {fs : List Value} (hq : hp[q]? = some (.inr (ci, fs))) (hci : (vwCl[ci]?).map (fun z => z.1) = some M'.1.cls) (ct : Ct g M' (.ref q :: []) hp (RJl x S')) (kk : Ev g M (pc + 3) lv (.long x :: st) (hC S') Post) : Ev g M pc lv (.ref q :: st) hp Post := ev_callV (as := []) (rest := st) d ml mv hr rfl hw hq hci ct (fun v hp' h => by obtain ⟨rfl, rfl⟩ := h; exact kk)
theorem callS0L {idx : Nat} {x : Int64} (d : decode M.2.1 pc = .ok (.invokestatic idx, 3)) (ml : Ml M.1.cls idx M') (mv : Ms M' 0) (hr : (Nat.ble (M'.2.2.2.2.frames + 1) M.2.2.2.2.frames && Nat.ble (8 + (M'.2.2.1 + 11) + M'.2.2.2.2.locals) M.2.2.2.2.locals) = true) (hw : Nat.ble (st.map fun v => v.category).sum 8 = true) (ct : Ct g M' [] hp (RJl x S')) (kk : Ev g M (pc + 3) lv (.long x :: st) (hC S') Post) : Ev g M pc lv (st) hp Post := ev_callS (as := []) (rest := st) d ml mv hr rfl hw ct (fun v hp' h => by obtain ⟨rfl, rfl⟩ := h; exact kk)
theorem callV0V {idx q : Nat} (d : decode M.2.1 pc = .ok (.invokevirtual idx, 3)) (ml : Ml M.1.cls idx M') (mv : Mv M' 0) (hr : (Nat.ble (M'.2.2.2.2.frames + 1) M.2.2.2.2.frames && Nat.ble (8 + (M'.2.2.1 + 11) + M'.2.2.2.2.locals) M.2.2.2.2.locals) = true) (hw : Nat.ble (st.map fun v => v.category).sum 8 = true) {ci : Nat} {fs : List Value} (hq : hp[q]? = some (.inr (ci, fs))) (hci : (vwCl[ci]?).map (fun z => z.1) = some M'.1.cls) (ct : Ct g M' (.ref q :: []) hp (RV S')) (kk : Ev g M (pc + 3) lv (st) (hC S') Post) : Ev g M pc lv (.ref q :: st) hp Post := ev_callV (as := []) (rest := st) d ml mv hr rfl hw hq hci ct (fun v hp' h => by obtain ⟨rfl, rfl⟩ := h; exact kk)
theorem callS0V {idx : Nat} (d : decode M.2.1 pc = .ok (.invokestatic idx, 3)) (ml : Ml M.1.cls idx M') (mv : Ms M' 0) (hr : (Nat.ble (M'.2.2.2.2.frames + 1) M.2.2.2.2.frames && Nat.ble (8 + (M'.2.2.1 + 11) + M'.2.2.2.2.locals) M.2.2.2.2.locals) = true) (hw : Nat.ble (st.map fun v => v.category).sum 8 = true) (ct : Ct g M' [] hp (RV S')) (kk : Ev g M (pc + 3) lv (st) (hC S') Post) : Ev g M pc lv (st) hp Post := ev_callS (as := []) (rest := st) d ml mv hr rfl hw ct (fun v hp' h => by obtain ⟨rfl, rfl⟩ := h; exact kk)
theorem callT0I {idx i : Nat} {x : Int32} (d : decode M.2.1 pc = .ok (.invokevirtual idx, 3)) (ml : Ml M.1.cls idx M') (mv : Mv M' 0) (hr : (Nat.ble (M'.2.2.2.2.frames + 1) M.2.2.2.2.frames && Nat.ble (8 + (M'.2.2.1 + 11) + M'.2.2.2.2.locals) M.2.2.2.2.locals) = true) (hw : Nat.ble (st.map fun v => v.category).sum 8 = true) (hi : i < 7) (hci : M'.1.cls = "java/lang/String") (ct : Ct g M' (.ref (100 + i) :: []) hp (RI x S')) (kk : Ev g M (pc + 3) lv (.int x :: st) (hC S') Post) : Ev g M pc lv (.ref (100 + i) :: st) hp Post := ev_callT (as := []) (rest := st) d ml mv hr rfl hw hi hci ct (fun v hp' h => by obtain ⟨rfl, rfl⟩ := h; exact kk)
theorem callV0P {idx q : Nat} (d : decode M.2.1 pc = .ok (.invokevirtual idx, 3)) (ml : Ml M.1.cls idx M') (mv : Mv M' 0) (hr : (Nat.ble (M'.2.2.2.2.frames + 1) M.2.2.2.2.frames && Nat.ble (8 + (M'.2.2.1 + 11) + M'.2.2.2.2.locals) M.2.2.2.2.locals) = true) (hw : Nat.ble (st.map fun v => v.category).sum 8 = true) {ci : Nat} {fs : List Value} (hq : hp[q]? = some (.inr (ci, fs))) (hci : (vwCl[ci]?).map (fun z => z.1) = some M'.1.cls) (ct : Ct g M' (.ref q :: []) hp Post') (kk : ∀ v hp', Post' v hp' → Ev g M (pc + 3) lv (v.toList ++ st) hp' Post) : Ev g M pc lv (.ref q :: st) hp Post := ev_callV (as := []) (rest := st) d ml mv hr rfl hw hq hci ct kk
theorem callV1I {idx q : Nat} {v1 : Value} {x : Int32} (d : decode M.2.1 pc = .ok (.invokevirtual idx, 3)) (ml : Ml M.1.cls idx M') (mv : Mv M' 1) (hr : (Nat.ble (M'.2.2.2.2.frames + 1) M.2.2.2.2.frames && Nat.ble (8 + (M'.2.2.1 + 11) + M'.2.2.2.2.locals) M.2.2.2.2.locals) = true) (hw : Nat.ble (st.map fun v => v.category).sum 8 = true) {ci : Nat} {fs : List Value} (hq : hp[q]? = some (.inr (ci, fs))) (hci : (vwCl[ci]?).map (fun z => z.1) = some M'.1.cls) (ct : Ct g M' (.ref q :: [v1]) hp (RI x S')) (kk : Ev g M (pc + 3) lv (.int x :: st) (hC S') Post) : Ev g M pc lv (v1 :: .ref q :: st) hp Post := ev_callV (as := [v1]) (rest := st) d ml mv hr rfl hw hq hci ct (fun v hp' h => by obtain ⟨rfl, rfl⟩ := h; exact kk)
theorem callS1I {idx : Nat} {v1 : Value} {x : Int32} (d : decode M.2.1 pc = .ok (.invokestatic idx, 3)) (ml : Ml M.1.cls idx M') (mv : Ms M' 1) (hr : (Nat.ble (M'.2.2.2.2.frames + 1) M.2.2.2.2.frames && Nat.ble (8 + (M'.2.2.1 + 11) + M'.2.2.2.2.locals) M.2.2.2.2.locals) = true) (hw : Nat.ble (st.map fun v => v.category).sum 8 = true) (ct : Ct g M' [v1] hp (RI x S')) (kk : Ev g M (pc + 3) lv (.int x :: st) (hC S') Post) : Ev g M pc lv (v1 :: st) hp Post := ev_callS (as := [v1]) (rest := st) d ml mv hr rfl hw ct (fun v hp' h => by obtain ⟨rfl, rfl⟩ := h; exact kk)
theorem callV1L {idx q : Nat} {v1 : Value} {x : Int64} (d : decode M.2.1 pc = .ok (.invokevirtual idx, 3)) (ml : Ml M.1.cls idx M') (mv : Mv M' 1) (hr : (Nat.ble (M'.2.2.2.2.frames + 1) M.2.2.2.2.frames && Nat.ble (8 + (M'.2.2.1 + 11) + M'.2.2.2.2.locals) M.2.2.2.2.locals) = true) (hw : Nat.ble (st.map fun v => v.category).sum 8 = true) {ci : Nat} {fs : List Value} (hq : hp[q]? = some (.inr (ci, fs))) (hci : (vwCl[ci]?).map (fun z => z.1) = some M'.1.cls) (ct : Ct g M' (.ref q :: [v1]) hp (RJl x S')) (kk : Ev g M (pc + 3) lv (.long x :: st) (hC S') Post) : Ev g M pc lv (v1 :: .ref q :: st) hp Post := ev_callV (as := [v1]) (rest := st) d ml mv hr rfl hw hq hci ct (fun v hp' h => by obtain ⟨rfl, rfl⟩ := h; exact kk)
theorem callS1L {idx : Nat} {v1 : Value} {x : Int64} (d : decode M.2.1 pc = .ok (.invokestatic idx, 3)) (ml : Ml M.1.cls idx M') (mv : Ms M' 1) (hr : (Nat.ble (M'.2.2.2.2.frames + 1) M.2.2.2.2.frames && Nat.ble (8 + (M'.2.2.1 + 11) + M'.2.2.2.2.locals) M.2.2.2.2.locals) = true) (hw : Nat.ble (st.map fun v => v.category).sum 8 = true) (ct : Ct g M' [v1] hp (RJl x S')) (kk : Ev g M (pc + 3) lv (.long x :: st) (hC S') Post) : Ev g M pc lv (v1 :: st) hp Post := ev_callS (as := [v1]) (rest := st) d ml mv hr rfl hw ct (fun v hp' h => by obtain ⟨rfl, rfl⟩ := h; exact kk)
theorem callV1V {idx q : Nat} {v1 : Value} (d : decode M.2.1 pc = .ok (.invokevirtual idx, 3)) (ml : Ml M.1.cls idx M') (mv : Mv M' 1) (hr : (Nat.ble (M'.2.2.2.2.frames + 1) M.2.2.2.2.frames && Nat.ble (8 + (M'.2.2.1 + 11) + M'.2.2.2.2.locals) M.2.2.2.2.locals) = true) (hw : Nat.ble (st.map fun v => v.category).sum 8 = true) {ci : Nat} {fs : List Value} (hq : hp[q]? = some (.inr (ci, fs))) (hci : (vwCl[ci]?).map (fun z => z.1) = some M'.1.cls) (ct : Ct g M' (.ref q :: [v1]) hp (RV S')) (kk : Ev g M (pc + 3) lv (st) (hC S') Post) : Ev g M pc lv (v1 :: .ref q :: st) hp Post := ev_callV (as := [v1]) (rest := st) d ml mv hr rfl hw hq hci ct (fun v hp' h => by obtain ⟨rfl, rfl⟩ := h; exact kk)
theorem callS1V {idx : Nat} {v1 : Value} (d : decode M.2.1 pc = .ok (.invokestatic idx, 3)) (ml : Ml M.1.cls idx M') (mv : Ms M' 1) (hr : (Nat.ble (M'.2.2.2.2.frames + 1) M.2.2.2.2.frames && Nat.ble (8 + (M'.2.2.1 + 11) + M'.2.2.2.2.locals) M.2.2.2.2.locals) = true) (hw : Nat.ble (st.map fun v => v.category).sum 8 = true) (ct : Ct g M' [v1] hp (RV S')) (kk : Ev g M (pc + 3) lv (st) (hC S') Post) : Ev g M pc lv (v1 :: st) hp Post := ev_callS (as := [v1]) (rest := st) d ml mv hr rfl hw ct (fun v hp' h => by obtain ⟨rfl, rfl⟩ := h; exact kk)
theorem callT1I {idx i : Nat} {v1 : Value} {x : Int32} (d : decode M.2.1 pc = .ok (.invokevirtual idx, 3)) (ml : Ml M.1.cls idx M') (mv : Mv M' 1) (hr : (Nat.ble (M'.2.2.2.2.frames + 1) M.2.2.2.2.frames && Nat.ble (8 + (M'.2.2.1 + 11) + M'.2.2.2.2.locals) M.2.2.2.2.locals) = true) (hw : Nat.ble (st.map fun v => v.category).sum 8 = true) (hi : i < 7) (hci : M'.1.cls = "java/lang/String") (ct : Ct g M' (.ref (100 + i) :: [v1]) hp (RI x S')) (kk : Ev g M (pc + 3) lv (.int x :: st) (hC S') Post) : Ev g M pc lv (v1 :: .ref (100 + i) :: st) hp Post := ev_callT (as := [v1]) (rest := st) d ml mv hr rfl hw hi hci ct (fun v hp' h => by obtain ⟨rfl, rfl⟩ := h; exact kk)
theorem callV1P {idx q : Nat} {v1 : Value} (d : decode M.2.1 pc = .ok (.invokevirtual idx, 3)) (ml : Ml M.1.cls idx M') (mv : Mv M' 1) (hr : (Nat.ble (M'.2.2.2.2.frames + 1) M.2.2.2.2.frames && Nat.ble (8 + (M'.2.2.1 + 11) + M'.2.2.2.2.locals) M.2.2.2.2.locals) = true) (hw : Nat.ble (st.map fun v => v.category).sum 8 = true) {ci : Nat} {fs : List Value} (hq : hp[q]? = some (.inr (ci, fs))) (hci : (vwCl[ci]?).map (fun z => z.1) = some M'.1.cls) (ct : Ct g M' (.ref q :: [v1]) hp Post') (kk : ∀ v hp', Post' v hp' → Ev g M (pc + 3) lv (v.toList ++ st) hp' Post) : Ev g M pc lv (v1 :: .ref q :: st) hp Post := ev_callV (as := [v1]) (rest := st) d ml mv hr rfl hw hq hci ct kk
theorem callV2I {idx q : Nat} {v1 v2 : Value} {x : Int32} (d : decode M.2.1 pc = .ok (.invokevirtual idx, 3)) (ml : Ml M.1.cls idx M') (mv : Mv M' 2) (hr : (Nat.ble (M'.2.2.2.2.frames + 1) M.2.2.2.2.frames && Nat.ble (8 + (M'.2.2.1 + 11) + M'.2.2.2.2.locals) M.2.2.2.2.locals) = true) (hw : Nat.ble (st.map fun v => v.category).sum 8 = true) {ci : Nat} {fs : List Value} (hq : hp[q]? = some (.inr (ci, fs))) (hci : (vwCl[ci]?).map (fun z => z.1) = some M'.1.cls) (ct : Ct g M' (.ref q :: [v1, v2]) hp (RI x S')) (kk : Ev g M (pc + 3) lv (.int x :: st) (hC S') Post) : Ev g M pc lv (v2 :: v1 :: .ref q :: st) hp Post := ev_callV (as := [v1, v2]) (rest := st) d ml mv hr rfl hw hq hci ct (fun v hp' h => by obtain ⟨rfl, rfl⟩ := h; exact kk)
theorem callS2I {idx : Nat} {v1 v2 : Value} {x : Int32} (d : decode M.2.1 pc = .ok (.invokestatic idx, 3)) (ml : Ml M.1.cls idx M') (mv : Ms M' 2) (hr : (Nat.ble (M'.2.2.2.2.frames + 1) M.2.2.2.2.frames && Nat.ble (8 + (M'.2.2.1 + 11) + M'.2.2.2.2.locals) M.2.2.2.2.locals) = true) (hw : Nat.ble (st.map fun v => v.category).sum 8 = true) (ct : Ct g M' [v1, v2] hp (RI x S')) (kk : Ev g M (pc + 3) lv (.int x :: st) (hC S') Post) : Ev g M pc lv (v2 :: v1 :: st) hp Post := ev_callS (as := [v1, v2]) (rest := st) d ml mv hr rfl hw ct (fun v hp' h => by obtain ⟨rfl, rfl⟩ := h; exact kk)
theorem callV2L {idx q : Nat} {v1 v2 : Value} {x : Int64} (d : decode M.2.1 pc = .ok (.invokevirtual idx, 3)) (ml : Ml M.1.cls idx M') (mv : Mv M' 2) (hr : (Nat.ble (M'.2.2.2.2.frames + 1) M.2.2.2.2.frames && Nat.ble (8 + (M'.2.2.1 + 11) + M'.2.2.2.2.locals) M.2.2.2.2.locals) = true) (hw : Nat.ble (st.map fun v => v.category).sum 8 = true) {ci : Nat} {fs : List Value} (hq : hp[q]? = some (.inr (ci, fs))) (hci : (vwCl[ci]?).map (fun z => z.1) = some M'.1.cls) (ct : Ct g M' (.ref q :: [v1, v2]) hp (RJl x S')) (kk : Ev g M (pc + 3) lv (.long x :: st) (hC S') Post) : Ev g M pc lv (v2 :: v1 :: .ref q :: st) hp Post := ev_callV (as := [v1, v2]) (rest := st) d ml mv hr rfl hw hq hci ct (fun v hp' h => by obtain ⟨rfl, rfl⟩ := h; exact kk)
theorem callS2L {idx : Nat} {v1 v2 : Value} {x : Int64} (d : decode M.2.1 pc = .ok (.invokestatic idx, 3)) (ml : Ml M.1.cls idx M') (mv : Ms M' 2) (hr : (Nat.ble (M'.2.2.2.2.frames + 1) M.2.2.2.2.frames && Nat.ble (8 + (M'.2.2.1 + 11) + M'.2.2.2.2.locals) M.2.2.2.2.locals) = true) (hw : Nat.ble (st.map fun v => v.category).sum 8 = true) (ct : Ct g M' [v1, v2] hp (RJl x S')) (kk : Ev g M (pc + 3) lv (.long x :: st) (hC S') Post) : Ev g M pc lv (v2 :: v1 :: st) hp Post := ev_callS (as := [v1, v2]) (rest := st) d ml mv hr rfl hw ct (fun v hp' h => by obtain ⟨rfl, rfl⟩ := h; exact kk)
theorem callV2V {idx q : Nat} {v1 v2 : Value} (d : decode M.2.1 pc = .ok (.invokevirtual idx, 3)) (ml : Ml M.1.cls idx M') (mv : Mv M' 2) (hr : (Nat.ble (M'.2.2.2.2.frames + 1) M.2.2.2.2.frames && Nat.ble (8 + (M'.2.2.1 + 11) + M'.2.2.2.2.locals) M.2.2.2.2.locals) = true) (hw : Nat.ble (st.map fun v => v.category).sum 8 = true) {ci : Nat} {fs : List Value} (hq : hp[q]? = some (.inr (ci, fs))) (hci : (vwCl[ci]?).map (fun z => z.1) = some M'.1.cls) (ct : Ct g M' (.ref q :: [v1, v2]) hp (RV S')) (kk : Ev g M (pc + 3) lv (st) (hC S') Post) : Ev g M pc lv (v2 :: v1 :: .ref q :: st) hp Post := ev_callV (as := [v1, v2]) (rest := st) d ml mv hr rfl hw hq hci ct (fun v hp' h => by obtain ⟨rfl, rfl⟩ := h; exact kk)
theorem callS2V {idx : Nat} {v1 v2 : Value} (d : decode M.2.1 pc = .ok (.invokestatic idx, 3)) (ml : Ml M.1.cls idx M') (mv : Ms M' 2) (hr : (Nat.ble (M'.2.2.2.2.frames + 1) M.2.2.2.2.frames && Nat.ble (8 + (M'.2.2.1 + 11) + M'.2.2.2.2.locals) M.2.2.2.2.locals) = true) (hw : Nat.ble (st.map fun v => v.category).sum 8 = true) (ct : Ct g M' [v1, v2] hp (RV S')) (kk : Ev g M (pc + 3) lv (st) (hC S') Post) : Ev g M pc lv (v2 :: v1 :: st) hp Post := ev_callS (as := [v1, v2]) (rest := st) d ml mv hr rfl hw ct (fun v hp' h => by obtain ⟨rfl, rfl⟩ := h; exact kk)
theorem callV2P {idx q : Nat} {v1 v2 : Value} (d : decode M.2.1 pc = .ok (.invokevirtual idx, 3)) (ml : Ml M.1.cls idx M') (mv : Mv M' 2) (hr : (Nat.ble (M'.2.2.2.2.frames + 1) M.2.2.2.2.frames && Nat.ble (8 + (M'.2.2.1 + 11) + M'.2.2.2.2.locals) M.2.2.2.2.locals) = true) (hw : Nat.ble (st.map fun v => v.category).sum 8 = true) {ci : Nat} {fs : List Value} (hq : hp[q]? = some (.inr (ci, fs))) (hci : (vwCl[ci]?).map (fun z => z.1) = some M'.1.cls) (ct : Ct g M' (.ref q :: [v1, v2]) hp Post') (kk : ∀ v hp', Post' v hp' → Ev g M (pc + 3) lv (v.toList ++ st) hp' Post) : Ev g M pc lv (v2 :: v1 :: .ref q :: st) hp Post := ev_callV (as := [v1, v2]) (rest := st) d ml mv hr rfl hw hq hci ct kk
theorem callV3I {idx q : Nat} {v1 v2 v3 : Value} {x : Int32} (d : decode M.2.1 pc = .ok (.invokevirtual idx, 3)) (ml : Ml M.1.cls idx M') (mv : Mv M' 3) (hr : (Nat.ble (M'.2.2.2.2.frames + 1) M.2.2.2.2.frames && Nat.ble (8 + (M'.2.2.1 + 11) + M'.2.2.2.2.locals) M.2.2.2.2.locals) = true) (hw : Nat.ble (st.map fun v => v.category).sum 8 = true) {ci : Nat} {fs : List Value} (hq : hp[q]? = some (.inr (ci, fs))) (hci : (vwCl[ci]?).map (fun z => z.1) = some M'.1.cls) (ct : Ct g M' (.ref q :: [v1, v2, v3]) hp (RI x S')) (kk : Ev g M (pc + 3) lv (.int x :: st) (hC S') Post) : Ev g M pc lv (v3 :: v2 :: v1 :: .ref q :: st) hp Post := ev_callV (as := [v1, v2, v3]) (rest := st) d ml mv hr rfl hw hq hci ct (fun v hp' h => by obtain ⟨rfl, rfl⟩ := h; exact kk)
theorem callS3I {idx : Nat} {v1 v2 v3 : Value} {x : Int32} (d : decode M.2.1 pc = .ok (.invokestatic idx, 3)) (ml : Ml M.1.cls idx M') (mv : Ms M' 3) (hr : (Nat.ble (M'.2.2.2.2.frames + 1) M.2.2.2.2.frames && Nat.ble (8 + (M'.2.2.1 + 11) + M'.2.2.2.2.locals) M.2.2.2.2.locals) = true) (hw : Nat.ble (st.map fun v => v.category).sum 8 = true) (ct : Ct g M' [v1, v2, v3] hp (RI x S')) (kk : Ev g M (pc + 3) lv (.int x :: st) (hC S') Post) : Ev g M pc lv (v3 :: v2 :: v1 :: st) hp Post := ev_callS (as := [v1, v2, v3]) (rest := st) d ml mv hr rfl hw ct (fun v hp' h => by obtain ⟨rfl, rfl⟩ := h; exact kk)
theorem callV3L {idx q : Nat} {v1 v2 v3 : Value} {x : Int64} (d : decode M.2.1 pc = .ok (.invokevirtual idx, 3)) (ml : Ml M.1.cls idx M') (mv : Mv M' 3) (hr : (Nat.ble (M'.2.2.2.2.frames + 1) M.2.2.2.2.frames && Nat.ble (8 + (M'.2.2.1 + 11) + M'.2.2.2.2.locals) M.2.2.2.2.locals) = true) (hw : Nat.ble (st.map fun v => v.category).sum 8 = true) {ci : Nat} {fs : List Value} (hq : hp[q]? = some (.inr (ci, fs))) (hci : (vwCl[ci]?).map (fun z => z.1) = some M'.1.cls) (ct : Ct g M' (.ref q :: [v1, v2, v3]) hp (RJl x S')) (kk : Ev g M (pc + 3) lv (.long x :: st) (hC S') Post) : Ev g M pc lv (v3 :: v2 :: v1 :: .ref q :: st) hp Post := ev_callV (as := [v1, v2, v3]) (rest := st) d ml mv hr rfl hw hq hci ct (fun v hp' h => by obtain ⟨rfl, rfl⟩ := h; exact kk)
theorem callS3L {idx : Nat} {v1 v2 v3 : Value} {x : Int64} (d : decode M.2.1 pc = .ok (.invokestatic idx, 3)) (ml : Ml M.1.cls idx M') (mv : Ms M' 3) (hr : (Nat.ble (M'.2.2.2.2.frames + 1) M.2.2.2.2.frames && Nat.ble (8 + (M'.2.2.1 + 11) + M'.2.2.2.2.locals) M.2.2.2.2.locals) = true) (hw : Nat.ble (st.map fun v => v.category).sum 8 = true) (ct : Ct g M' [v1, v2, v3] hp (RJl x S')) (kk : Ev g M (pc + 3) lv (.long x :: st) (hC S') Post) : Ev g M pc lv (v3 :: v2 :: v1 :: st) hp Post := ev_callS (as := [v1, v2, v3]) (rest := st) d ml mv hr rfl hw ct (fun v hp' h => by obtain ⟨rfl, rfl⟩ := h; exact kk)
theorem callV3V {idx q : Nat} {v1 v2 v3 : Value} (d : decode M.2.1 pc = .ok (.invokevirtual idx, 3)) (ml : Ml M.1.cls idx M') (mv : Mv M' 3) (hr : (Nat.ble (M'.2.2.2.2.frames + 1) M.2.2.2.2.frames && Nat.ble (8 + (M'.2.2.1 + 11) + M'.2.2.2.2.locals) M.2.2.2.2.locals) = true) (hw : Nat.ble (st.map fun v => v.category).sum 8 = true) {ci : Nat} {fs : List Value} (hq : hp[q]? = some (.inr (ci, fs))) (hci : (vwCl[ci]?).map (fun z => z.1) = some M'.1.cls) (ct : Ct g M' (.ref q :: [v1, v2, v3]) hp (RV S')) (kk : Ev g M (pc + 3) lv (st) (hC S') Post) : Ev g M pc lv (v3 :: v2 :: v1 :: .ref q :: st) hp Post := ev_callV (as := [v1, v2, v3]) (rest := st) d ml mv hr rfl hw hq hci ct (fun v hp' h => by obtain ⟨rfl, rfl⟩ := h; exact kk)
theorem callS3V {idx : Nat} {v1 v2 v3 : Value} (d : decode M.2.1 pc = .ok (.invokestatic idx, 3)) (ml : Ml M.1.cls idx M') (mv : Ms M' 3) (hr : (Nat.ble (M'.2.2.2.2.frames + 1) M.2.2.2.2.frames && Nat.ble (8 + (M'.2.2.1 + 11) + M'.2.2.2.2.locals) M.2.2.2.2.locals) = true) (hw : Nat.ble (st.map fun v => v.category).sum 8 = true) (ct : Ct g M' [v1, v2, v3] hp (RV S')) (kk : Ev g M (pc + 3) lv (st) (hC S') Post) : Ev g M pc lv (v3 :: v2 :: v1 :: st) hp Post := ev_callS (as := [v1, v2, v3]) (rest := st) d ml mv hr rfl hw ct (fun v hp' h => by obtain ⟨rfl, rfl⟩ := h; exact kk)
theorem callV3P {idx q : Nat} {v1 v2 v3 : Value} (d : decode M.2.1 pc = .ok (.invokevirtual idx, 3)) (ml : Ml M.1.cls idx M') (mv : Mv M' 3) (hr : (Nat.ble (M'.2.2.2.2.frames + 1) M.2.2.2.2.frames && Nat.ble (8 + (M'.2.2.1 + 11) + M'.2.2.2.2.locals) M.2.2.2.2.locals) = true) (hw : Nat.ble (st.map fun v => v.category).sum 8 = true) {ci : Nat} {fs : List Value} (hq : hp[q]? = some (.inr (ci, fs))) (hci : (vwCl[ci]?).map (fun z => z.1) = some M'.1.cls) (ct : Ct g M' (.ref q :: [v1, v2, v3]) hp Post') (kk : ∀ v hp', Post' v hp' → Ev g M (pc + 3) lv (v.toList ++ st) hp' Post) : Ev g M pc lv (v3 :: v2 :: v1 :: .ref q :: st) hp Post := ev_callV (as := [v1, v2, v3]) (rest := st) d ml mv hr rfl hw hq hci ct kk
theorem callV4I {idx q : Nat} {v1 v2 v3 v4 : Value} {x : Int32} (d : decode M.2.1 pc = .ok (.invokevirtual idx, 3)) (ml : Ml M.1.cls idx M') (mv : Mv M' 4) (hr : (Nat.ble (M'.2.2.2.2.frames + 1) M.2.2.2.2.frames && Nat.ble (8 + (M'.2.2.1 + 11) + M'.2.2.2.2.locals) M.2.2.2.2.locals) = true) (hw : Nat.ble (st.map fun v => v.category).sum 8 = true) {ci : Nat} {fs : List Value} (hq : hp[q]? = some (.inr (ci, fs))) (hci : (vwCl[ci]?).map (fun z => z.1) = some M'.1.cls) (ct : Ct g M' (.ref q :: [v1, v2, v3, v4]) hp (RI x S')) (kk : Ev g M (pc + 3) lv (.int x :: st) (hC S') Post) : Ev g M pc lv (v4 :: v3 :: v2 :: v1 :: .ref q :: st) hp Post := ev_callV (as := [v1, v2, v3, v4]) (rest := st) d ml mv hr rfl hw hq hci ct (fun v hp' h => by obtain ⟨rfl, rfl⟩ := h; exact kk)
theorem callS4I {idx : Nat} {v1 v2 v3 v4 : Value} {x : Int32} (d : decode M.2.1 pc = .ok (.invokestatic idx, 3)) (ml : Ml M.1.cls idx M') (mv : Ms M' 4) (hr : (Nat.ble (M'.2.2.2.2.frames + 1) M.2.2.2.2.frames && Nat.ble (8 + (M'.2.2.1 + 11) + M'.2.2.2.2.locals) M.2.2.2.2.locals) = true) (hw : Nat.ble (st.map fun v => v.category).sum 8 = true) (ct : Ct g M' [v1, v2, v3, v4] hp (RI x S')) (kk : Ev g M (pc + 3) lv (.int x :: st) (hC S') Post) : Ev g M pc lv (v4 :: v3 :: v2 :: v1 :: st) hp Post := ev_callS (as := [v1, v2, v3, v4]) (rest := st) d ml mv hr rfl hw ct (fun v hp' h => by obtain ⟨rfl, rfl⟩ := h; exact kk)
theorem callV4L {idx q : Nat} {v1 v2 v3 v4 : Value} {x : Int64} (d : decode M.2.1 pc = .ok (.invokevirtual idx, 3)) (ml : Ml M.1.cls idx M') (mv : Mv M' 4) (hr : (Nat.ble (M'.2.2.2.2.frames + 1) M.2.2.2.2.frames && Nat.ble (8 + (M'.2.2.1 + 11) + M'.2.2.2.2.locals) M.2.2.2.2.locals) = true) (hw : Nat.ble (st.map fun v => v.category).sum 8 = true) {ci : Nat} {fs : List Value} (hq : hp[q]? = some (.inr (ci, fs))) (hci : (vwCl[ci]?).map (fun z => z.1) = some M'.1.cls) (ct : Ct g M' (.ref q :: [v1, v2, v3, v4]) hp (RJl x S')) (kk : Ev g M (pc + 3) lv (.long x :: st) (hC S') Post) : Ev g M pc lv (v4 :: v3 :: v2 :: v1 :: .ref q :: st) hp Post := ev_callV (as := [v1, v2, v3, v4]) (rest := st) d ml mv hr rfl hw hq hci ct (fun v hp' h => by obtain ⟨rfl, rfl⟩ := h; exact kk)
theorem callS4L {idx : Nat} {v1 v2 v3 v4 : Value} {x : Int64} (d : decode M.2.1 pc = .ok (.invokestatic idx, 3)) (ml : Ml M.1.cls idx M') (mv : Ms M' 4) (hr : (Nat.ble (M'.2.2.2.2.frames + 1) M.2.2.2.2.frames && Nat.ble (8 + (M'.2.2.1 + 11) + M'.2.2.2.2.locals) M.2.2.2.2.locals) = true) (hw : Nat.ble (st.map fun v => v.category).sum 8 = true) (ct : Ct g M' [v1, v2, v3, v4] hp (RJl x S')) (kk : Ev g M (pc + 3) lv (.long x :: st) (hC S') Post) : Ev g M pc lv (v4 :: v3 :: v2 :: v1 :: st) hp Post := ev_callS (as := [v1, v2, v3, v4]) (rest := st) d ml mv hr rfl hw ct (fun v hp' h => by obtain ⟨rfl, rfl⟩ := h; exact kk)
theorem callV4V {idx q : Nat} {v1 v2 v3 v4 : Value} (d : decode M.2.1 pc = .ok (.invokevirtual idx, 3)) (ml : Ml M.1.cls idx M') (mv : Mv M' 4) (hr : (Nat.ble (M'.2.2.2.2.frames + 1) M.2.2.2.2.frames && Nat.ble (8 + (M'.2.2.1 + 11) + M'.2.2.2.2.locals) M.2.2.2.2.locals) = true) (hw : Nat.ble (st.map fun v => v.category).sum 8 = true) {ci : Nat} {fs : List Value} (hq : hp[q]? = some (.inr (ci, fs))) (hci : (vwCl[ci]?).map (fun z => z.1) = some M'.1.cls) (ct : Ct g M' (.ref q :: [v1, v2, v3, v4]) hp (RV S')) (kk : Ev g M (pc + 3) lv (st) (hC S') Post) : Ev g M pc lv (v4 :: v3 :: v2 :: v1 :: .ref q :: st) hp Post := ev_callV (as := [v1, v2, v3, v4]) (rest := st) d ml mv hr rfl hw hq hci ct (fun v hp' h => by obtain ⟨rfl, rfl⟩ := h; exact kk)
theorem callS4V {idx : Nat} {v1 v2 v3 v4 : Value} (d : decode M.2.1 pc = .ok (.invokestatic idx, 3)) (ml : Ml M.1.cls idx M') (mv : Ms M' 4) (hr : (Nat.ble (M'.2.2.2.2.frames + 1) M.2.2.2.2.frames && Nat.ble (8 + (M'.2.2.1 + 11) + M'.2.2.2.2.locals) M.2.2.2.2.locals) = true) (hw : Nat.ble (st.map fun v => v.category).sum 8 = true) (ct : Ct g M' [v1, v2, v3, v4] hp (RV S')) (kk : Ev g M (pc + 3) lv (st) (hC S') Post) : Ev g M pc lv (v4 :: v3 :: v2 :: v1 :: st) hp Post := ev_callS (as := [v1, v2, v3, v4]) (rest := st) d ml mv hr rfl hw ct (fun v hp' h => by obtain ⟨rfl, rfl⟩ := h; exact kk)
theorem callV4P {idx q : Nat} {v1 v2 v3 v4 : Value} (d : decode M.2.1 pc = .ok (.invokevirtual idx, 3)) (ml : Ml M.1.cls idx M') (mv : Mv M' 4) (hr : (Nat.ble (M'.2.2.2.2.frames + 1) M.2.2.2.2.frames && Nat.ble (8 + (M'.2.2.1 + 11) + M'.2.2.2.2.locals) M.2.2.2.2.locals) = true) (hw : Nat.ble (st.map fun v => v.category).sum 8 = true) {ci : Nat} {fs : List Value} (hq : hp[q]? = some (.inr (ci, fs))) (hci : (vwCl[ci]?).map (fun z => z.1) = some M'.1.cls) (ct : Ct g M' (.ref q :: [v1, v2, v3, v4]) hp Post') (kk : ∀ v hp', Post' v hp' → Ev g M (pc + 3) lv (v.toList ++ st) hp' Post) : Ev g M pc lv (v4 :: v3 :: v2 :: v1 :: .ref q :: st) hp Post := ev_callV (as := [v1, v2, v3, v4]) (rest := st) d ml mv hr rfl hw hq hci ct kk
theorem callV5I {idx q : Nat} {v1 v2 v3 v4 v5 : Value} {x : Int32} (d : decode M.2.1 pc = .ok (.invokevirtual idx, 3)) (ml : Ml M.1.cls idx M') (mv : Mv M' 5) (hr : (Nat.ble (M'.2.2.2.2.frames + 1) M.2.2.2.2.frames && Nat.ble (8 + (M'.2.2.1 + 11) + M'.2.2.2.2.locals) M.2.2.2.2.locals) = true) (hw : Nat.ble (st.map fun v => v.category).sum 8 = true) {ci : Nat} {fs : List Value} (hq : hp[q]? = some (.inr (ci, fs))) (hci : (vwCl[ci]?).map (fun z => z.1) = some M'.1.cls) (ct : Ct g M' (.ref q :: [v1, v2, v3, v4, v5]) hp (RI x S')) (kk : Ev g M (pc + 3) lv (.int x :: st) (hC S') Post) : Ev g M pc lv (v5 :: v4 :: v3 :: v2 :: v1 :: .ref q :: st) hp Post := ev_callV (as := [v1, v2, v3, v4, v5]) (rest := st) d ml mv hr rfl hw hq hci ct (fun v hp' h => by obtain ⟨rfl, rfl⟩ := h; exact kk)
theorem callS5I {idx : Nat} {v1 v2 v3 v4 v5 : Value} {x : Int32} (d : decode M.2.1 pc = .ok (.invokestatic idx, 3)) (ml : Ml M.1.cls idx M') (mv : Ms M' 5) (hr : (Nat.ble (M'.2.2.2.2.frames + 1) M.2.2.2.2.frames && Nat.ble (8 + (M'.2.2.1 + 11) + M'.2.2.2.2.locals) M.2.2.2.2.locals) = true) (hw : Nat.ble (st.map fun v => v.category).sum 8 = true) (ct : Ct g M' [v1, v2, v3, v4, v5] hp (RI x S')) (kk : Ev g M (pc + 3) lv (.int x :: st) (hC S') Post) : Ev g M pc lv (v5 :: v4 :: v3 :: v2 :: v1 :: st) hp Post := ev_callS (as := [v1, v2, v3, v4, v5]) (rest := st) d ml mv hr rfl hw ct (fun v hp' h => by obtain ⟨rfl, rfl⟩ := h; exact kk)
theorem callV5L {idx q : Nat} {v1 v2 v3 v4 v5 : Value} {x : Int64} (d : decode M.2.1 pc = .ok (.invokevirtual idx, 3)) (ml : Ml M.1.cls idx M') (mv : Mv M' 5) (hr : (Nat.ble (M'.2.2.2.2.frames + 1) M.2.2.2.2.frames && Nat.ble (8 + (M'.2.2.1 + 11) + M'.2.2.2.2.locals) M.2.2.2.2.locals) = true) (hw : Nat.ble (st.map fun v => v.category).sum 8 = true) {ci : Nat} {fs : List Value} (hq : hp[q]? = some (.inr (ci, fs))) (hci : (vwCl[ci]?).map (fun z => z.1) = some M'.1.cls) (ct : Ct g M' (.ref q :: [v1, v2, v3, v4, v5]) hp (RJl x S')) (kk : Ev g M (pc + 3) lv (.long x :: st) (hC S') Post) : Ev g M pc lv (v5 :: v4 :: v3 :: v2 :: v1 :: .ref q :: st) hp Post := ev_callV (as := [v1, v2, v3, v4, v5]) (rest := st) d ml mv hr rfl hw hq hci ct (fun v hp' h => by obtain ⟨rfl, rfl⟩ := h; exact kk)
theorem callS5L {idx : Nat} {v1 v2 v3 v4 v5 : Value} {x : Int64} (d : decode M.2.1 pc = .ok (.invokestatic idx, 3)) (ml : Ml M.1.cls idx M') (mv : Ms M' 5) (hr : (Nat.ble (M'.2.2.2.2.frames + 1) M.2.2.2.2.frames && Nat.ble (8 + (M'.2.2.1 + 11) + M'.2.2.2.2.locals) M.2.2.2.2.locals) = true) (hw : Nat.ble (st.map fun v => v.category).sum 8 = true) (ct : Ct g M' [v1, v2, v3, v4, v5] hp (RJl x S')) (kk : Ev g M (pc + 3) lv (.long x :: st) (hC S') Post) : Ev g M pc lv (v5 :: v4 :: v3 :: v2 :: v1 :: st) hp Post := ev_callS (as := [v1, v2, v3, v4, v5]) (rest := st) d ml mv hr rfl hw ct (fun v hp' h => by obtain ⟨rfl, rfl⟩ := h; exact kk)
theorem callV5V {idx q : Nat} {v1 v2 v3 v4 v5 : Value} (d : decode M.2.1 pc = .ok (.invokevirtual idx, 3)) (ml : Ml M.1.cls idx M') (mv : Mv M' 5) (hr : (Nat.ble (M'.2.2.2.2.frames + 1) M.2.2.2.2.frames && Nat.ble (8 + (M'.2.2.1 + 11) + M'.2.2.2.2.locals) M.2.2.2.2.locals) = true) (hw : Nat.ble (st.map fun v => v.category).sum 8 = true) {ci : Nat} {fs : List Value} (hq : hp[q]? = some (.inr (ci, fs))) (hci : (vwCl[ci]?).map (fun z => z.1) = some M'.1.cls) (ct : Ct g M' (.ref q :: [v1, v2, v3, v4, v5]) hp (RV S')) (kk : Ev g M (pc + 3) lv (st) (hC S') Post) : Ev g M pc lv (v5 :: v4 :: v3 :: v2 :: v1 :: .ref q :: st) hp Post := ev_callV (as := [v1, v2, v3, v4, v5]) (rest := st) d ml mv hr rfl hw hq hci ct (fun v hp' h => by obtain ⟨rfl, rfl⟩ := h; exact kk)
theorem callS5V {idx : Nat} {v1 v2 v3 v4 v5 : Value} (d : decode M.2.1 pc = .ok (.invokestatic idx, 3)) (ml : Ml M.1.cls idx M') (mv : Ms M' 5) (hr : (Nat.ble (M'.2.2.2.2.frames + 1) M.2.2.2.2.frames && Nat.ble (8 + (M'.2.2.1 + 11) + M'.2.2.2.2.locals) M.2.2.2.2.locals) = true) (hw : Nat.ble (st.map fun v => v.category).sum 8 = true) (ct : Ct g M' [v1, v2, v3, v4, v5] hp (RV S')) (kk : Ev g M (pc + 3) lv (st) (hC S') Post) : Ev g M pc lv (v5 :: v4 :: v3 :: v2 :: v1 :: st) hp Post := ev_callS (as := [v1, v2, v3, v4, v5]) (rest := st) d ml mv hr rfl hw ct (fun v hp' h => by obtain ⟨rfl, rfl⟩ := h; exact kk)
theorem callV5P {idx q : Nat} {v1 v2 v3 v4 v5 : Value} (d : decode M.2.1 pc = .ok (.invokevirtual idx, 3)) (ml : Ml M.1.cls idx M') (mv : Mv M' 5) (hr : (Nat.ble (M'.2.2.2.2.frames + 1) M.2.2.2.2.frames && Nat.ble (8 + (M'.2.2.1 + 11) + M'.2.2.2.2.locals) M.2.2.2.2.locals) = true) (hw : Nat.ble (st.map fun v => v.category).sum 8 = true) {ci : Nat} {fs : List Value} (hq : hp[q]? = some (.inr (ci, fs))) (hci : (vwCl[ci]?).map (fun z => z.1) = some M'.1.cls) (ct : Ct g M' (.ref q :: [v1, v2, v3, v4, v5]) hp Post') (kk : ∀ v hp', Post' v hp' → Ev g M (pc + 3) lv (v.toList ++ st) hp' Post) : Ev g M pc lv (v5 :: v4 :: v3 :: v2 :: v1 :: .ref q :: st) hp Post := ev_callV (as := [v1, v2, v3, v4, v5]) (rest := st) d ml mv hr rfl hw hq hci ct kk
theorem callV6I {idx q : Nat} {v1 v2 v3 v4 v5 v6 : Value} {x : Int32} (d : decode M.2.1 pc = .ok (.invokevirtual idx, 3)) (ml : Ml M.1.cls idx M') (mv : Mv M' 6) (hr : (Nat.ble (M'.2.2.2.2.frames + 1) M.2.2.2.2.frames && Nat.ble (8 + (M'.2.2.1 + 11) + M'.2.2.2.2.locals) M.2.2.2.2.locals) = true) (hw : Nat.ble (st.map fun v => v.category).sum 8 = true) {ci : Nat} {fs : List Value} (hq : hp[q]? = some (.inr (ci, fs))) (hci : (vwCl[ci]?).map (fun z => z.1) = some M'.1.cls) (ct : Ct g M' (.ref q :: [v1, v2, v3, v4, v5, v6]) hp (RI x S')) (kk : Ev g M (pc + 3) lv (.int x :: st) (hC S') Post) : Ev g M pc lv (v6 :: v5 :: v4 :: v3 :: v2 :: v1 :: .ref q :: st) hp Post := ev_callV (as := [v1, v2, v3, v4, v5, v6]) (rest := st) d ml mv hr rfl hw hq hci ct (fun v hp' h => by obtain ⟨rfl, rfl⟩ := h; exact kk)
theorem callS6I {idx : Nat} {v1 v2 v3 v4 v5 v6 : Value} {x : Int32} (d : decode M.2.1 pc = .ok (.invokestatic idx, 3)) (ml : Ml M.1.cls idx M') (mv : Ms M' 6) (hr : (Nat.ble (M'.2.2.2.2.frames + 1) M.2.2.2.2.frames && Nat.ble (8 + (M'.2.2.1 + 11) + M'.2.2.2.2.locals) M.2.2.2.2.locals) = true) (hw : Nat.ble (st.map fun v => v.category).sum 8 = true) (ct : Ct g M' [v1, v2, v3, v4, v5, v6] hp (RI x S')) (kk : Ev g M (pc + 3) lv (.int x :: st) (hC S') Post) : Ev g M pc lv (v6 :: v5 :: v4 :: v3 :: v2 :: v1 :: st) hp Post := ev_callS (as := [v1, v2, v3, v4, v5, v6]) (rest := st) d ml mv hr rfl hw ct (fun v hp' h => by obtain ⟨rfl, rfl⟩ := h; exact kk)
theorem callV6L {idx q : Nat} {v1 v2 v3 v4 v5 v6 : Value} {x : Int64} (d : decode M.2.1 pc = .ok (.invokevirtual idx, 3)) (ml : Ml M.1.cls idx M') (mv : Mv M' 6) (hr : (Nat.ble (M'.2.2.2.2.frames + 1) M.2.2.2.2.frames && Nat.ble (8 + (M'.2.2.1 + 11) + M'.2.2.2.2.locals) M.2.2.2.2.locals) = true) (hw : Nat.ble (st.map fun v => v.category).sum 8 = true) {ci : Nat} {fs : List Value} (hq : hp[q]? = some (.inr (ci, fs))) (hci : (vwCl[ci]?).map (fun z => z.1) = some M'.1.cls) (ct : Ct g M' (.ref q :: [v1, v2, v3, v4, v5, v6]) hp (RJl x S')) (kk : Ev g M (pc + 3) lv (.long x :: st) (hC S') Post) : Ev g M pc lv (v6 :: v5 :: v4 :: v3 :: v2 :: v1 :: .ref q :: st) hp Post := ev_callV (as := [v1, v2, v3, v4, v5, v6]) (rest := st) d ml mv hr rfl hw hq hci ct (fun v hp' h => by obtain ⟨rfl, rfl⟩ := h; exact kk)
theorem callS6L {idx : Nat} {v1 v2 v3 v4 v5 v6 : Value} {x : Int64} (d : decode M.2.1 pc = .ok (.invokestatic idx, 3)) (ml : Ml M.1.cls idx M') (mv : Ms M' 6) (hr : (Nat.ble (M'.2.2.2.2.frames + 1) M.2.2.2.2.frames && Nat.ble (8 + (M'.2.2.1 + 11) + M'.2.2.2.2.locals) M.2.2.2.2.locals) = true) (hw : Nat.ble (st.map fun v => v.category).sum 8 = true) (ct : Ct g M' [v1, v2, v3, v4, v5, v6] hp (RJl x S')) (kk : Ev g M (pc + 3) lv (.long x :: st) (hC S') Post) : Ev g M pc lv (v6 :: v5 :: v4 :: v3 :: v2 :: v1 :: st) hp Post := ev_callS (as := [v1, v2, v3, v4, v5, v6]) (rest := st) d ml mv hr rfl hw ct (fun v hp' h => by obtain ⟨rfl, rfl⟩ := h; exact kk)
theorem callV6V {idx q : Nat} {v1 v2 v3 v4 v5 v6 : Value} (d : decode M.2.1 pc = .ok (.invokevirtual idx, 3)) (ml : Ml M.1.cls idx M') (mv : Mv M' 6) (hr : (Nat.ble (M'.2.2.2.2.frames + 1) M.2.2.2.2.frames && Nat.ble (8 + (M'.2.2.1 + 11) + M'.2.2.2.2.locals) M.2.2.2.2.locals) = true) (hw : Nat.ble (st.map fun v => v.category).sum 8 = true) {ci : Nat} {fs : List Value} (hq : hp[q]? = some (.inr (ci, fs))) (hci : (vwCl[ci]?).map (fun z => z.1) = some M'.1.cls) (ct : Ct g M' (.ref q :: [v1, v2, v3, v4, v5, v6]) hp (RV S')) (kk : Ev g M (pc + 3) lv (st) (hC S') Post) : Ev g M pc lv (v6 :: v5 :: v4 :: v3 :: v2 :: v1 :: .ref q :: st) hp Post := ev_callV (as := [v1, v2, v3, v4, v5, v6]) (rest := st) d ml mv hr rfl hw hq hci ct (fun v hp' h => by obtain ⟨rfl, rfl⟩ := h; exact kk)
theorem callS6V {idx : Nat} {v1 v2 v3 v4 v5 v6 : Value} (d : decode M.2.1 pc = .ok (.invokestatic idx, 3)) (ml : Ml M.1.cls idx M') (mv : Ms M' 6) (hr : (Nat.ble (M'.2.2.2.2.frames + 1) M.2.2.2.2.frames && Nat.ble (8 + (M'.2.2.1 + 11) + M'.2.2.2.2.locals) M.2.2.2.2.locals) = true) (hw : Nat.ble (st.map fun v => v.category).sum 8 = true) (ct : Ct g M' [v1, v2, v3, v4, v5, v6] hp (RV S')) (kk : Ev g M (pc + 3) lv (st) (hC S') Post) : Ev g M pc lv (v6 :: v5 :: v4 :: v3 :: v2 :: v1 :: st) hp Post := ev_callS (as := [v1, v2, v3, v4, v5, v6]) (rest := st) d ml mv hr rfl hw ct (fun v hp' h => by obtain ⟨rfl, rfl⟩ := h; exact kk)
theorem callV6P {idx q : Nat} {v1 v2 v3 v4 v5 v6 : Value} (d : decode M.2.1 pc = .ok (.invokevirtual idx, 3)) (ml : Ml M.1.cls idx M') (mv : Mv M' 6) (hr : (Nat.ble (M'.2.2.2.2.frames + 1) M.2.2.2.2.frames && Nat.ble (8 + (M'.2.2.1 + 11) + M'.2.2.2.2.locals) M.2.2.2.2.locals) = true) (hw : Nat.ble (st.map fun v => v.category).sum 8 = true) {ci : Nat} {fs : List Value} (hq : hp[q]? = some (.inr (ci, fs))) (hci : (vwCl[ci]?).map (fun z => z.1) = some M'.1.cls) (ct : Ct g M' (.ref q :: [v1, v2, v3, v4, v5, v6]) hp Post') (kk : ∀ v hp', Post' v hp' → Ev g M (pc + 3) lv (v.toList ++ st) hp' Post) : Ev g M pc lv (v6 :: v5 :: v4 :: v3 :: v2 :: v1 :: .ref q :: st) hp Post := ev_callV (as := [v1, v2, v3, v4, v5, v6]) (rest := st) d ml mv hr rfl hw hq hci ct kk
end EVM
end
section
theorem Mx_X1_128 : Cond.methodLink RX1 128 arraycopyName ∈ Ts := ts_in (List.mem_of_getElem? (i := 604) (by decide +kernel)) rfl
theorem Mxs_copy : Cond.static arraycopyName ∈ Ts := ts_in (List.mem_of_getElem? (i := 605) (by decide +kernel)) rfl
theorem Mxn_copy : Cond.native arraycopyName ∈ Ts := ts_in (List.mem_of_getElem? (i := 606) (by decide +kernel)) rfl
theorem Mx_X1_62 : Cond.methodLink RX1 62 Lib.MathLoose.min_long.x ∈ Ts := ts_in (List.mem_of_getElem? (i := 578) (by decide +kernel)) rfl
theorem Mxs_minJ : Cond.static Lib.MathLoose.min_long.x ∈ Ts := ts_in (List.mem_of_getElem? (i := 579) (by decide +kernel)) rfl
theorem Mxc_minJ : Cond.code Lib.MathLoose.min_long.x Lib.MathLoose.min_long.code 4 (some .long) ∈ Ts := ts_in (List.mem_of_getElem? (i := 580) (by decide +kernel)) rfl
theorem Mx_X1_94 : Cond.methodLink RX1 94 Lib.MathLoose.max_long.x ∈ Ts := ts_in (List.mem_of_getElem? (i := 581) (by decide +kernel)) rfl
theorem Mxs_maxJ : Cond.static Lib.MathLoose.max_long.x ∈ Ts := ts_in (List.mem_of_getElem? (i := 582) (by decide +kernel)) rfl
theorem Mxc_maxJ : Cond.code Lib.MathLoose.max_long.x Lib.MathLoose.max_long.code 4 (some .long) ∈ Ts := ts_in (List.mem_of_getElem? (i := 583) (by decide +kernel)) rfl
theorem Mx_X2_118 : Cond.methodLink RX2 118 Lib.Math.min.name ∈ Ts := ts_in (List.mem_of_getElem? (i := 527) (by decide +kernel)) rfl
theorem Mxs_minI : Cond.static Lib.Math.min.name ∈ Ts := ts_in (List.mem_of_getElem? (i := 528) (by decide +kernel)) rfl
theorem Mxc_minI : Cond.code Lib.Math.min.name Lib.Math.min.code 2 (some .int) ∈ Ts := ts_in (List.mem_of_getElem? (i := 529) (by decide +kernel)) rfl
theorem Mx_X2_88 : Cond.methodLink RX2 88 Lib.Math.max.name ∈ Ts := ts_in (List.mem_of_getElem? (i := 542) (by decide +kernel)) rfl
theorem Mxs_maxI : Cond.static Lib.Math.max.name ∈ Ts := ts_in (List.mem_of_getElem? (i := 543) (by decide +kernel)) rfl
theorem Mxc_maxI : Cond.code Lib.Math.max.name Lib.Math.max.code 2 (some .int) ∈ Ts := ts_in (List.mem_of_getElem? (i := 544) (by decide +kernel)) rfl
theorem Mx_X6_56 : Cond.methodLink RX6 56 Lib.Math.min.name ∈ Ts := ts_in (List.mem_of_getElem? (i := 694) (by decide +kernel)) rfl
section EVK
variable {g : GG} {M : MD} {pc : Nat} {lv : List (Nat × Value)} {st : List Value} {hp : List va_E} {Post : Option Value → List va_E → Prop}
theorem ev_keep (ks : List Nat) (k : Ev g M pc (lv.filter (fun q => ks.contains q.1)) st hp Post) : Ev g M pc lv st hp Post := ev_lv (fun q h => (List.mem_filter.mp h).1) k
end EVK
end
section
section SM
variable {g : GG} {S : St}
theorem loop_up {P : Nat → Prop} (n : Nat) (hx : P n) (hs : ∀ k, k < n → P (k + 1) → P k) : ∀ k, k ≤ n → P k := by
  intro k hk
  have h : ∀ r, r ≤ n → P (n - r) := by
    intro r
    induction r with
    | zero => intro _; exact hx
    | succ r ih =>
      intro hr
      have h1 := ih (by omega)
      have h2 : n - r = n - (r + 1) + 1 := by omega
      rw [h2] at h1
      exact hs _ (by omega) h1
  have h2 : k = n - (n - k) := by omega
  rw [h2]
  exact h _ (by omega)
def it {σ : Type} (f : Nat → σ → σ) : Nat → σ → σ
  | 0, s => s
  | k + 1, s => f k (it f k s)
theorem it_s {σ : Type} (f : Nat → σ → σ) (k : Nat) (s : σ) : it f (k + 1) s = f k (it f k s) := rfl
theorem it_inv {σ τ : Type} (f : Nat → σ → σ) (p : σ → τ) (h : ∀ k s, p (f k s) = p s) : ∀ k s, p (it f k s) = p s
  | 0, _ => rfl
  | k + 1, s => (h k _).trans (it_inv f p h k s)
def outB (a lo hi : Int32) : Bool := decide (a < lo) || !decide (a ≤ hi)
theorem c_X9_outside {a lo hi : Int32} : Ct g mX9_outside [.int a, .int lo, .int hi] (hC S) (RI (b2i (outB a lo hi)) S) := by
  refine ct_of rfl rfl ?_
  refine ev_iload_n (pc := 0) dX9_outside_0 rfl ?_
  refine ev_iload_n (pc := 1) dX9_outside_1 rfl ?_
  refine ev_icmp_lt (pc := 2) (tgt := 10) dX9_outside_2 (by decide) (fun c2 => ?_) (fun c2 => ?_)
  · refine ev_iconst (pc := 10) (v := 1) dX9_outside_10 (by decide) ?_
    refine ev_goto (pc := 11) (tgt := 15) dX9_outside_11 (by decide) ?_
    exact ev_iret (pc := 15) dX9_outside_15 rfl rfl (ri' (by simp [outB, b2i, *]) rfl)
  · refine ev_iload_n (pc := 5) dX9_outside_5 rfl ?_
    refine ev_iload_n (pc := 6) dX9_outside_6 rfl ?_
    refine ev_icmp_le (pc := 7) (tgt := 14) dX9_outside_7 (by decide) (fun c7 => ?_) (fun c7 => ?_)
    · refine ev_iconst (pc := 14) (v := 0) dX9_outside_14 (by decide) ?_
      exact ev_iret (pc := 15) dX9_outside_15 rfl rfl (ri' (by simp [outB, b2i, *]) rfl)
    · refine ev_iconst (pc := 10) (v := 1) dX9_outside_10 (by decide) ?_
      refine ev_goto (pc := 11) (tgt := 15) dX9_outside_11 (by decide) ?_
      exact ev_iret (pc := 15) dX9_outside_15 rfl rfl (ri' (by simp [outB, b2i, *]) rfl)
theorem c_X9_refuse {x : Int32} : Ct g mX9_refuse [.ref 0, .int x] (hC S) (RI x (setI S 1 x)) := by
  refine ct_of rfl rfl ?_
  refine ev_aload_n (pc := 0) dX9_refuse_0 rfl ?_
  refine ev_iload_n (pc := 1) dX9_refuse_1 rfl ?_
  refine put_MF_refusal (pc := 2) dX9_refuse_2 Fp_X9_81 ?_
  refine ev_iload_n (pc := 5) dX9_refuse_5 rfl ?_
  exact ev_iret (pc := 6) dX9_refuse_6 rfl rfl ri
theorem c_X9_accept {x : Int32} : Ct g mX9_accept [.ref 0, .int x] (hC S) (RI x (setI S 1 0)) := by
  refine ct_of rfl rfl ?_
  refine ev_aload_n (pc := 0) dX9_accept_0 rfl ?_
  refine ev_iconst (pc := 1) (v := 0) dX9_accept_1 (by decide) ?_
  refine put_MF_refusal (pc := 2) dX9_accept_2 Fp_X9_81 ?_
  refine ev_iload_n (pc := 5) dX9_accept_5 rfl ?_
  exact ev_iret (pc := 6) dX9_accept_6 rfl rfl ri
theorem c_X9_isNoFarmer {f : Int32} : Ct g mX9_isNoFarmer [.ref 0, .int f] (hC S) (RI (b2i (outB f 0 (S.1 2 - 1))) S) := by
  refine ct_of rfl rfl ?_
  refine ev_iload_n (pc := 0) dX9_isNoFarmer_0 rfl ?_
  refine ev_iconst (pc := 1) (v := 0) dX9_isNoFarmer_1 (by decide) ?_
  refine ev_aload_n (pc := 2) dX9_isNoFarmer_2 rfl ?_
  refine get_MF_farmers (pc := 3) dX9_isNoFarmer_3 Fl_X9_10 ?_
  refine get_F_size (pc := 6) dX9_isNoFarmer_6 Fl_X9_92 rfl ?_
  refine ev_iconst (pc := 9) (v := 1) dX9_isNoFarmer_9 (by decide) ?_
  refine ev_isub (pc := 10) dX9_isNoFarmer_10 ?_
  refine callS3I (pc := 11) dX9_isNoFarmer_11 Ml_X9_84 M_X9_outside rfl rfl c_X9_outside ?_
  exact ev_iret (pc := 14) dX9_isNoFarmer_14 rfl nb ri
def addF (n : Nat) (a b c : Int32) (S : St) : St := setI (setA (setA (setA S 0 (upd (S.2.1 0) n a)) 1 (upd (S.2.1 1) n b)) 2 (upd (S.2.1 2) n c)) 2 (nI n + 1)
theorem c_X4_add {a b c : Int32} {n : Nat} (hs : S.1 2 = nI n) (hn : n < 40) : Ct g mX4_add [.ref 1, .int a, .int b, .int c] (hC S) (RV (addF n a b c S)) := by
  refine ct_of rfl rfl ?_
  refine ev_aload_n (pc := 0) dX4_add_0 rfl ?_
  refine get_F_size (pc := 1) dX4_add_1 Fl_X4_21 hs ?_
  refine ev_bipush (pc := 4) (v := nI 40) dX4_add_4 (by decide) ?_
  refine ev_icmp_ltN (pc := 6) (tgt := 10) (by omega) (by omega) dX4_add_6 (by decide) (fun c6 => ?_) (fun c6 => absurd hn c6)
  refine ev_aload_n (pc := 10) dX4_add_10 rfl ?_
  refine get_F_group (pc := 11) dX4_add_11 Fl_X4_9 ?_
  refine ev_aload_n (pc := 14) dX4_add_14 rfl ?_
  refine get_F_size (pc := 15) dX4_add_15 Fl_X4_21 hs ?_
  refine ev_iload_n (pc := 18) dX4_add_18 rfl ?_
  refine asN_F_group (pc := 19) dX4_add_19 (by omega) ?_
  refine ev_aload_n (pc := 20) dX4_add_20 rfl ?_
  refine get_F_place (pc := 21) dX4_add_21 Fl_X4_15 ?_
  refine ev_aload_n (pc := 24) dX4_add_24 rfl ?_
  refine get_F_size (pc := 25) dX4_add_25 Fl_X4_21 hs ?_
  refine ev_iload_n (pc := 28) dX4_add_28 rfl ?_
  refine asN_F_place (pc := 29) dX4_add_29 (by omega) ?_
  refine ev_aload_n (pc := 30) dX4_add_30 rfl ?_
  refine get_F_fields (pc := 31) dX4_add_31 Fl_X4_18 ?_
  refine ev_aload_n (pc := 34) dX4_add_34 rfl ?_
  refine get_F_size (pc := 35) dX4_add_35 Fl_X4_21 hs ?_
  refine ev_iload_n (pc := 38) dX4_add_38 rfl ?_
  refine asN_F_fields (pc := 39) dX4_add_39 (by omega) ?_
  refine ev_aload_n (pc := 40) dX4_add_40 rfl ?_
  refine ev_dup (pc := 41) dX4_add_41 rfl ?_
  refine get_F_size (pc := 42) dX4_add_42 Fl_X4_21 hs ?_
  refine ev_iconst (pc := 45) (v := 1) dX4_add_45 (by decide) ?_
  refine ev_iadd (pc := 46) dX4_add_46 ?_
  refine put_F_size (pc := 47) dX4_add_47 Fp_X4_21 ?_
  exact ev_ret (pc := 50) dX4_add_50 rfl rv
def addC (n : Nat) (a b c : Int32) (S : St) : St := setI (setA (setA (setA S 3 (upd (S.2.1 3) n a)) 4 (upd (S.2.1 4) n b)) 5 (upd (S.2.1 5) n c)) 3 (nI n + 1)
theorem c_X3_add {a b c : Int32} {n : Nat} (hs : S.1 3 = nI n) (hn : n < 200) : Ct g mX3_add [.ref 5, .int a, .int b, .int c] (hC S) (RV (addC n a b c S)) := by
  refine ct_of rfl rfl ?_
  refine ev_aload_n (pc := 0) dX3_add_0 rfl ?_
  refine get_C_size (pc := 1) dX3_add_1 Fl_X3_21 hs ?_
  refine ev_sipush (pc := 4) (v := nI 200) dX3_add_4 (by decide) ?_
  refine ev_icmp_ltN (pc := 7) (tgt := 11) (by omega) (by omega) dX3_add_7 (by decide) (fun c7 => ?_) (fun c7 => absurd hn c7)
  refine ev_aload_n (pc := 11) dX3_add_11 rfl ?_
  refine get_C_farmer (pc := 12) dX3_add_12 Fl_X3_9 ?_
  refine ev_aload_n (pc := 15) dX3_add_15 rfl ?_
  refine get_C_size (pc := 16) dX3_add_16 Fl_X3_21 hs ?_
  refine ev_iload_n (pc := 19) dX3_add_19 rfl ?_
  refine asN_C_farmer (pc := 20) dX3_add_20 (by omega) ?_
  refine ev_aload_n (pc := 21) dX3_add_21 rfl ?_
  refine get_C_amount (pc := 22) dX3_add_22 Fl_X3_15 ?_
  refine ev_aload_n (pc := 25) dX3_add_25 rfl ?_
  refine get_C_size (pc := 26) dX3_add_26 Fl_X3_21 hs ?_
  refine ev_iload_n (pc := 29) dX3_add_29 rfl ?_
  refine asN_C_amount (pc := 30) dX3_add_30 (by omega) ?_
  refine ev_aload_n (pc := 31) dX3_add_31 rfl ?_
  refine get_C_known (pc := 32) dX3_add_32 Fl_X3_18 ?_
  refine ev_aload_n (pc := 35) dX3_add_35 rfl ?_
  refine get_C_size (pc := 36) dX3_add_36 Fl_X3_21 hs ?_
  refine ev_iload_n (pc := 39) dX3_add_39 rfl ?_
  refine asN_C_known (pc := 40) dX3_add_40 (by omega) ?_
  refine ev_aload_n (pc := 41) dX3_add_41 rfl ?_
  refine ev_dup (pc := 42) dX3_add_42 rfl ?_
  refine get_C_size (pc := 43) dX3_add_43 Fl_X3_21 hs ?_
  refine ev_iconst (pc := 46) (v := 1) dX3_add_46 (by decide) ?_
  refine ev_iadd (pc := 47) dX3_add_47 ?_
  refine put_C_size (pc := 48) dX3_add_48 Fp_X3_21 ?_
  exact ev_ret (pc := 51) dX3_add_51 rfl rv
def addK (n : Nat) (a b c d : Int32) (S : St) : St := setI (setI (setA (setA (setA (setA S 6 (upd (S.2.1 6) n a)) 7 (upd (S.2.1 7) n b)) 8 (upd (S.2.1 8) n c)) 9 (upd (S.2.1 9) n d)) 4 (nI n + 1)) 5 (S.1 5 + b)
theorem c_X0_add {a b c d : Int32} {n : Nat} (hs : S.1 4 = nI n) (hn : n < 300) : Ct g mX0_add [.ref 9, .int a, .int b, .int c, .int d] (hC S) (RV (addK n a b c d S)) := by
  refine ct_of rfl rfl ?_
  refine ev_aload_n (pc := 0) dX0_add_0 rfl ?_
  refine get_K_size (pc := 1) dX0_add_1 Fl_X0_24 hs ?_
  refine ev_sipush (pc := 4) (v := nI 300) dX0_add_4 (by decide) ?_
  refine ev_icmp_ltN (pc := 7) (tgt := 11) (by omega) (by omega) dX0_add_7 (by decide) (fun c7 => ?_) (fun c7 => absurd hn c7)
  refine ev_aload_n (pc := 11) dX0_add_11 rfl ?_
  refine get_K_farmer (pc := 12) dX0_add_12 Fl_X0_9 ?_
  refine ev_aload_n (pc := 15) dX0_add_15 rfl ?_
  refine get_K_size (pc := 16) dX0_add_16 Fl_X0_24 hs ?_
  refine ev_iload_n (pc := 19) dX0_add_19 rfl ?_
  refine asN_K_farmer (pc := 20) dX0_add_20 (by omega) ?_
  refine ev_aload_n (pc := 21) dX0_add_21 rfl ?_
  refine get_K_weight (pc := 22) dX0_add_22 Fl_X0_15 ?_
  refine ev_aload_n (pc := 25) dX0_add_25 rfl ?_
  refine get_K_size (pc := 26) dX0_add_26 Fl_X0_24 hs ?_
  refine ev_iload_n (pc := 29) dX0_add_29 rfl ?_
  refine asN_K_weight (pc := 30) dX0_add_30 (by omega) ?_
  refine ev_aload_n (pc := 31) dX0_add_31 rfl ?_
  refine get_K_grade (pc := 32) dX0_add_32 Fl_X0_18 ?_
  refine ev_aload_n (pc := 35) dX0_add_35 rfl ?_
  refine get_K_size (pc := 36) dX0_add_36 Fl_X0_24 hs ?_
  refine ev_iload_n (pc := 39) dX0_add_39 rfl ?_
  refine asN_K_grade (pc := 40) dX0_add_40 (by omega) ?_
  refine ev_aload_n (pc := 41) dX0_add_41 rfl ?_
  refine get_K_known (pc := 42) dX0_add_42 Fl_X0_21 ?_
  refine ev_aload_n (pc := 45) dX0_add_45 rfl ?_
  refine get_K_size (pc := 46) dX0_add_46 Fl_X0_24 hs ?_
  refine ev_iload (pc := 49) dX0_add_49 rfl ?_
  refine asN_K_known (pc := 51) dX0_add_51 (by omega) ?_
  refine ev_aload_n (pc := 52) dX0_add_52 rfl ?_
  refine ev_dup (pc := 53) dX0_add_53 rfl ?_
  refine get_K_size (pc := 54) dX0_add_54 Fl_X0_24 hs ?_
  refine ev_iconst (pc := 57) (v := 1) dX0_add_57 (by decide) ?_
  refine ev_iadd (pc := 58) dX0_add_58 ?_
  refine put_K_size (pc := 59) dX0_add_59 Fp_X0_24 ?_
  refine ev_aload_n (pc := 62) dX0_add_62 rfl ?_
  refine ev_dup (pc := 63) dX0_add_63 rfl ?_
  refine get_K_weightTogether (pc := 64) dX0_add_64 Fl_X0_28 rfl ?_
  refine ev_iload_n (pc := 67) dX0_add_67 rfl ?_
  refine ev_iadd (pc := 68) dX0_add_68 ?_
  refine put_K_weightTogether (pc := 69) dX0_add_69 Fp_X0_28 ?_
  exact ev_ret (pc := 72) dX0_add_72 rfl rv
def addD (n : Nat) (a b c : Int32) (S : St) : St := setI (setA (setA (setA S 11 (upd (S.2.1 11) n a)) 12 (upd (S.2.1 12) n b)) 13 (upd (S.2.1 13) n c)) 10 (nI n + 1)
theorem c_X5_add {a b c : Int32} {n : Nat} (hs : S.1 10 = nI n) (hn : n < 60) : Ct g mX5_add [.ref 26, .int a, .int b, .int c] (hC S) (RV (addD n a b c S)) := by
  refine ct_of rfl rfl ?_
  refine ev_aload_n (pc := 0) dX5_add_0 rfl ?_
  refine get_LA_size (pc := 1) dX5_add_1 Fl_X5_21 hs ?_
  refine ev_bipush (pc := 4) (v := nI 60) dX5_add_4 (by decide) ?_
  refine ev_icmp_ltN (pc := 6) (tgt := 10) (by omega) (by omega) dX5_add_6 (by decide) (fun c6 => ?_) (fun c6 => absurd hn c6)
  refine ev_aload_n (pc := 10) dX5_add_10 rfl ?_
  refine get_LA_from (pc := 11) dX5_add_11 Fl_X5_9 ?_
  refine ev_aload_n (pc := 14) dX5_add_14 rfl ?_
  refine get_LA_size (pc := 15) dX5_add_15 Fl_X5_21 hs ?_
  refine ev_iload_n (pc := 18) dX5_add_18 rfl ?_
  refine asN_LA_from (pc := 19) dX5_add_19 (by omega) ?_
  refine ev_aload_n (pc := 20) dX5_add_20 rfl ?_
  refine get_LA_to (pc := 21) dX5_add_21 Fl_X5_15 ?_
  refine ev_aload_n (pc := 24) dX5_add_24 rfl ?_
  refine get_LA_size (pc := 25) dX5_add_25 Fl_X5_21 hs ?_
  refine ev_iload_n (pc := 28) dX5_add_28 rfl ?_
  refine asN_LA_to (pc := 29) dX5_add_29 (by omega) ?_
  refine ev_aload_n (pc := 30) dX5_add_30 rfl ?_
  refine get_LA_part (pc := 31) dX5_add_31 Fl_X5_18 ?_
  refine ev_aload_n (pc := 34) dX5_add_34 rfl ?_
  refine get_LA_size (pc := 35) dX5_add_35 Fl_X5_21 hs ?_
  refine ev_iload_n (pc := 38) dX5_add_38 rfl ?_
  refine asN_LA_part (pc := 39) dX5_add_39 (by omega) ?_
  refine ev_aload_n (pc := 40) dX5_add_40 rfl ?_
  refine ev_dup (pc := 41) dX5_add_41 rfl ?_
  refine get_LA_size (pc := 42) dX5_add_42 Fl_X5_21 hs ?_
  refine ev_iconst (pc := 45) (v := 1) dX5_add_45 (by decide) ?_
  refine ev_iadd (pc := 46) dX5_add_46 ?_
  refine put_LA_size (pc := 47) dX5_add_47 Fp_X5_21 ?_
  exact ev_ret (pc := 50) dX5_add_50 rfl rv
/-- how many of the first k are w -/
def cntW (f : Nat → Int32) (w : Int32) : Nat → Nat
  | 0 => 0
  | k + 1 => if f k = w then cntW f w k + 1 else cntW f w k
theorem c_X4_howManyIn {w : Int32} {n : Nat} (hs : S.1 2 = nI n) (hn : n ≤ 40) : Ct g mX4_howManyIn [.ref 1, .int w] (hC S) (RI (nI (cntW (S.2.1 0) w n)) S) := by
  refine ct_of rfl rfl ?_
  refine ev_iconst (pc := 0) (v := nI 0) dX4_howManyIn_0 (by decide) ?_
  refine ev_istore_n (pc := 1) (lv' := [(0, .ref 1), (1, .int _), (2, .int _)]) dX4_howManyIn_1 (Nat.le_of_ble_eq_true rfl) rfl ?_
  refine ev_iconst (pc := 2) (v := nI 0) dX4_howManyIn_2 (by decide) ?_
  refine ev_istore_n (pc := 3) (lv' := [(0, .ref 1), (1, .int _), (2, .int _), (3, .int _)]) dX4_howManyIn_3 (Nat.le_of_ble_eq_true rfl) rfl ?_
  refine loop_up (P := fun k => Ev g mX4_howManyIn 4 [(0, .ref 1), (1, .int w), (2, .int (nI (cntW (S.2.1 0) w k))), (3, .int (nI k))] [] (hC S) (RI (nI (cntW (S.2.1 0) w n)) S)) n ?_ ?_ 0 (Nat.zero_le _)
  · skip
    refine ev_iload_n (pc := 4) dX4_howManyIn_4 rfl ?_
    refine ev_aload_n (pc := 5) dX4_howManyIn_5 rfl ?_
    refine get_F_size (pc := 6) dX4_howManyIn_6 Fl_X4_21 hs ?_
    refine ev_icmp_geN (pc := 9) (tgt := 31) (by omega) (by omega) dX4_howManyIn_9 (by decide) (fun c9 => ?_) (fun c9 => absurd (Nat.le_refl n) c9)
    refine ev_iload_n (pc := 31) dX4_howManyIn_31 rfl ?_
    exact ev_iret (pc := 32) dX4_howManyIn_32 rfl rfl ri
  · intro k hk ih
    refine ev_iload_n (pc := 4) dX4_howManyIn_4 rfl ?_
    refine ev_aload_n (pc := 5) dX4_howManyIn_5 rfl ?_
    refine get_F_size (pc := 6) dX4_howManyIn_6 Fl_X4_21 hs ?_
    refine ev_icmp_geN (pc := 9) (tgt := 31) (by omega) (by omega) dX4_howManyIn_9 (by decide) (fun c9 => absurd hk (Nat.not_lt.mpr c9)) (fun c9 => ?_)
    refine ev_aload_n (pc := 12) dX4_howManyIn_12 rfl ?_
    refine get_F_group (pc := 13) dX4_howManyIn_13 Fl_X4_9 ?_
    refine ev_iload_n (pc := 16) dX4_howManyIn_16 rfl ?_
    refine ldN_F_group (pc := 17) dX4_howManyIn_17 (by omega) rfl ?_
    refine ev_iload_n (pc := 18) dX4_howManyIn_18 rfl ?_
    refine ev_icmp_ne (pc := 19) (tgt := 25) dX4_howManyIn_19 (by decide) (fun c19 => ?_) (fun c19 => ?_)
    · refine ev_iincN (pc := 25) (lv' := [(0, .ref 1), (1, .int _), (2, .int _), (3, .int _)]) dX4_howManyIn_25 rfl (Nat.le_of_ble_eq_true rfl) rfl ?_
      refine ev_goto (pc := 28) (tgt := 4) dX4_howManyIn_28 (by decide) ?_
      first | (rw [cntW, if_neg c19] at ih; exact ih) | (rw [cntW, if_pos c19] at ih; exact ih)
    · refine ev_iincN (pc := 22) (lv' := [(0, .ref 1), (1, .int _), (2, .int _), (3, .int _)]) dX4_howManyIn_22 rfl (Nat.le_of_ble_eq_true rfl) rfl ?_
      refine ev_iincN (pc := 25) (lv' := [(0, .ref 1), (1, .int _), (2, .int _), (3, .int _)]) dX4_howManyIn_25 rfl (Nat.le_of_ble_eq_true rfl) rfl ?_
      refine ev_goto (pc := 28) (tgt := 4) dX4_howManyIn_28 (by decide) ?_
      first | (rw [cntW, if_neg c19] at ih; exact ih) | (rw [cntW, if_pos c19] at ih; exact ih)
/-- whose the n-th is, of r baskets from k on -/
def ledF (kn we fa : Nat → Int32) (day : Int32) : Nat → Nat → Int32 → Int32
  | 0, _, _ => -1
  | r + 1, k, a => if kn k ≤ day then (if we k ≤ a then ledF kn we fa day r (k + 1) (a - we k) else fa k) else ledF kn we fa day r (k + 1) a
theorem c_X0_ownerOf {a day : Int32} {n : Nat} (hs : S.1 4 = nI n) (hn : n ≤ 300) : Ct g mX0_ownerOf [.ref 9, .int a, .int day] (hC S) (RI (ledF (S.2.1 9) (S.2.1 7) (S.2.1 6) day n 0 a) S) := by
  have L : ∀ (r k : Nat) (b : Int32), k + r = n → Ev g mX0_ownerOf 5 [(0, .ref 9), (1, .int a), (2, .int day), (3, .int b), (4, .int (nI k))] [] (hC S) (RI (ledF (S.2.1 9) (S.2.1 7) (S.2.1 6) day r k b) S) := by
    intro r
    induction r with
    | zero =>
      intro k b hk
      refine ev_iload (pc := 5) dX0_ownerOf_5 rfl ?_
      refine ev_aload_n (pc := 7) dX0_ownerOf_7 rfl ?_
      refine get_K_size (pc := 8) dX0_ownerOf_8 Fl_X0_24 hs ?_
      refine ev_icmp_geN (pc := 11) (tgt := 63) (by omega) (by omega) dX0_ownerOf_11 (by decide) (fun c11 => ?_) (fun c11 => absurd (show n ≤ k by omega) c11)
      refine ev_iconst (pc := 63) (v := -1) dX0_ownerOf_63 (by decide) ?_
      exact ev_iret (pc := 64) dX0_ownerOf_64 rfl rfl ri
    | succ r ih =>
      intro k b hk
      rw [ledF]
      refine ev_iload (pc := 5) dX0_ownerOf_5 rfl ?_
      refine ev_aload_n (pc := 7) dX0_ownerOf_7 rfl ?_
      refine get_K_size (pc := 8) dX0_ownerOf_8 Fl_X0_24 hs ?_
      refine ev_icmp_geN (pc := 11) (tgt := 63) (by omega) (by omega) dX0_ownerOf_11 (by decide) (fun c11 => absurd c11 (by omega)) (fun c11 => ?_)
      refine ev_aload_n (pc := 14) dX0_ownerOf_14 rfl ?_
      refine get_K_known (pc := 15) dX0_ownerOf_15 Fl_X0_21 ?_
      refine ev_iload (pc := 18) dX0_ownerOf_18 rfl ?_
      refine ldN_K_known (pc := 20) dX0_ownerOf_20 (by omega) rfl ?_
      refine ev_iload_n (pc := 21) dX0_ownerOf_21 rfl ?_
      refine ev_icmp_le (pc := 22) (tgt := 28) dX0_ownerOf_22 (by decide) (fun c22 => ?_) (fun c22 => ?_)
      · rw [if_pos c22]
        refine ev_iload_n (pc := 28) dX0_ownerOf_28 rfl ?_
        refine ev_aload_n (pc := 29) dX0_ownerOf_29 rfl ?_
        refine get_K_weight (pc := 30) dX0_ownerOf_30 Fl_X0_15 ?_
        refine ev_iload (pc := 33) dX0_ownerOf_33 rfl ?_
        refine ldN_K_weight (pc := 35) dX0_ownerOf_35 (by omega) rfl ?_
        refine ev_icmp_ge (pc := 36) (tgt := 47) dX0_ownerOf_36 (by decide) (fun c36 => ?_) (fun c36 => ?_)
        · rw [if_pos c36]
          refine ev_iload_n (pc := 47) dX0_ownerOf_47 rfl ?_
          refine ev_aload_n (pc := 48) dX0_ownerOf_48 rfl ?_
          refine get_K_weight (pc := 49) dX0_ownerOf_49 Fl_X0_15 ?_
          refine ev_iload (pc := 52) dX0_ownerOf_52 rfl ?_
          refine ldN_K_weight (pc := 54) dX0_ownerOf_54 (by omega) rfl ?_
          refine ev_isub (pc := 55) dX0_ownerOf_55 ?_
          refine ev_istore_n (pc := 56) (lv' := [(0, .ref 9), (1, .int _), (2, .int _), (3, .int _), (4, .int _)]) dX0_ownerOf_56 (Nat.le_of_ble_eq_true rfl) rfl ?_
          refine ev_iincN (pc := 57) (lv' := [(0, .ref 9), (1, .int _), (2, .int _), (3, .int _), (4, .int _)]) dX0_ownerOf_57 rfl (Nat.le_of_ble_eq_true rfl) rfl ?_
          refine ev_goto (pc := 60) (tgt := 5) dX0_ownerOf_60 (by decide) ?_
          exact ih _ _ (by omega)
        · rw [if_neg c36]
          refine ev_aload_n (pc := 39) dX0_ownerOf_39 rfl ?_
          refine get_K_farmer (pc := 40) dX0_ownerOf_40 Fl_X0_9 ?_
          refine ev_iload (pc := 43) dX0_ownerOf_43 rfl ?_
          refine ldN_K_farmer (pc := 45) dX0_ownerOf_45 (by omega) rfl ?_
          exact ev_iret (pc := 46) dX0_ownerOf_46 rfl rfl ri
      · rw [if_neg c22]
        refine ev_goto (pc := 25) (tgt := 57) dX0_ownerOf_25 (by decide) ?_
        refine ev_iincN (pc := 57) (lv' := [(0, .ref 9), (1, .int _), (2, .int _), (3, .int _), (4, .int _)]) dX0_ownerOf_57 rfl (Nat.le_of_ble_eq_true rfl) rfl ?_
        refine ev_goto (pc := 60) (tgt := 5) dX0_ownerOf_60 (by decide) ?_
        exact ih _ _ (by omega)
  refine ct_of rfl rfl ?_
  refine ev_iload_n (pc := 0) dX0_ownerOf_0 rfl ?_
  refine ev_istore_n (pc := 1) (lv' := [(0, .ref 9), (1, .int _), (2, .int _), (3, .int _)]) dX0_ownerOf_1 (Nat.le_of_ble_eq_true rfl) rfl ?_
  refine ev_iconst (pc := 2) (v := nI 0) dX0_ownerOf_2 (by decide) ?_
  refine ev_istore (pc := 3) (lv' := [(0, .ref 9), (1, .int _), (2, .int _), (3, .int _), (4, .int _)]) dX0_ownerOf_3 (Nat.le_of_ble_eq_true rfl) rfl ?_
  exact L n 0 a (by omega)
/-- what is lost at a place, by the first k -/
def lostF (fr to pa : Nat → Int32) (p : Int32) : Nat → Int32
  | 0 => 0
  | k + 1 => if p < fr k then lostF fr to pa p k else if to k < p then lostF fr to pa p k else pa k
theorem dec1 (x : Int32) : x + Int32.ofInt (-1) = x - 1 := by rw [Int32.sub_eq_add_neg]; rfl
theorem nI_dec (k : Nat) : nI (k + 1) + Int32.ofInt (-1) = nI k := pk_m1 k
theorem c_X5_lostAt {p : Int32} {n : Nat} (hs : S.1 10 = nI n) (hn : n ≤ 60) : Ct g mX5_lostAt [.ref 26, .int p] (hC S) (RI (lostF (S.2.1 11) (S.2.1 12) (S.2.1 13) p n) S) := by
  have L : ∀ (k : Nat) (j : Int32), k ≤ n → j = nI k - 1 → Ev g mX5_lostAt 7 [(0, .ref 26), (1, .int p), (2, .int j)] [] (hC S) (RI (lostF (S.2.1 11) (S.2.1 12) (S.2.1 13) p k) S) := by
    intro k
    induction k with
    | zero =>
      intro j hk hj
      refine ev_iload_n (pc := 7) dX5_lostAt_7 rfl ?_
      refine ev_if_lt (pc := 8) (tgt := 44) dX5_lostAt_8 (by decide) (fun c8 => ?_) (fun c8 => absurd (by rw [hj]; decide) c8)
      refine ev_iconst (pc := 44) (v := 0) dX5_lostAt_44 (by decide) ?_
      exact ev_iret (pc := 45) dX5_lostAt_45 rfl rfl ri
    | succ k ih =>
      intro j hk hj
      rw [nI_pred] at hj
      subst hj
      rw [lostF]
      refine ev_iload_n (pc := 7) dX5_lostAt_7 rfl ?_
      refine ev_if_lt (pc := 8) (tgt := 44) dX5_lostAt_8 (by decide) (fun c8 => absurd c8 (nI_pos (by omega))) (fun c8 => ?_)
      refine ev_aload_n (pc := 11) dX5_lostAt_11 rfl ?_
      refine get_LA_from (pc := 12) dX5_lostAt_12 Fl_X5_9 ?_
      refine ev_iload_n (pc := 15) dX5_lostAt_15 rfl ?_
      refine ldN_LA_from (pc := 16) dX5_lostAt_16 (by omega) rfl ?_
      refine ev_iload_n (pc := 17) dX5_lostAt_17 rfl ?_
      refine ev_icmp_gt (pc := 18) (tgt := 38) dX5_lostAt_18 (by decide) (fun c18 => ?_) (fun c18 => ?_)
      · rw [if_pos c18]
        refine ev_iinc (pc := 38) (lv' := [(0, .ref 26), (1, .int _), (2, .int _)]) dX5_lostAt_38 rfl (Nat.le_of_ble_eq_true rfl) rfl ?_
        refine ev_goto (pc := 41) (tgt := 7) dX5_lostAt_41 (by decide) ?_
        exact ih _ (by omega) (dec1 _)
      · rw [if_neg c18]
        refine ev_iload_n (pc := 21) dX5_lostAt_21 rfl ?_
        refine ev_aload_n (pc := 22) dX5_lostAt_22 rfl ?_
        refine get_LA_to (pc := 23) dX5_lostAt_23 Fl_X5_15 ?_
        refine ev_iload_n (pc := 26) dX5_lostAt_26 rfl ?_
        refine ldN_LA_to (pc := 27) dX5_lostAt_27 (by omega) rfl ?_
        refine ev_icmp_gt (pc := 28) (tgt := 38) dX5_lostAt_28 (by decide) (fun c28 => ?_) (fun c28 => ?_)
        · rw [if_pos c28]
          refine ev_iinc (pc := 38) (lv' := [(0, .ref 26), (1, .int _), (2, .int _)]) dX5_lostAt_38 rfl (Nat.le_of_ble_eq_true rfl) rfl ?_
          refine ev_goto (pc := 41) (tgt := 7) dX5_lostAt_41 (by decide) ?_
          exact ih _ (by omega) (dec1 _)
        · rw [if_neg c28]
          refine ev_aload_n (pc := 31) dX5_lostAt_31 rfl ?_
          refine get_LA_part (pc := 32) dX5_lostAt_32 Fl_X5_18 ?_
          refine ev_iload_n (pc := 35) dX5_lostAt_35 rfl ?_
          refine ldN_LA_part (pc := 36) dX5_lostAt_36 (by omega) rfl ?_
          exact ev_iret (pc := 37) dX5_lostAt_37 rfl rfl ri
  refine ct_of rfl rfl ?_
  refine ev_aload_n (pc := 0) dX5_lostAt_0 rfl ?_
  refine get_LA_size (pc := 1) dX5_lostAt_1 Fl_X5_21 hs ?_
  refine ev_iconst (pc := 4) (v := 1) dX5_lostAt_4 (by decide) ?_
  refine ev_isub (pc := 5) dX5_lostAt_5 ?_
  refine ev_istore_n (pc := 6) (lv' := [(0, .ref 26), (1, .int _), (2, .int _)]) dX5_lostAt_6 (Nat.le_of_ble_eq_true rfl) rfl ?_
  exact L n _ (Nat.le_refl n) rfl
def foreL (fields yld : Int32) (lost : Int32) : Int64 := fields.toInt64 * yld.toInt64 * (100 - lost).toInt64 / 100
theorem c_X5_foretold {f p : Int32} {n : Nat} (hs : S.1 10 = nI n) (hn : n ≤ 60) : Ct g mX5_foretold [.ref 26, .int f, .int p] (hC S) (RJl (foreL f (S.1 11) (lostF (S.2.1 11) (S.2.1 12) (S.2.1 13) p n)) S) := by
  refine ct_of rfl rfl ?_
  refine ev_iload_n (pc := 0) dX5_foretold_0 rfl ?_
  refine ev_i2l (pc := 1) dX5_foretold_1 ?_
  refine ev_aload_n (pc := 2) dX5_foretold_2 rfl ?_
  refine get_LA_yieldOfField (pc := 3) dX5_foretold_3 Fl_X5_25 rfl ?_
  refine ev_i2l (pc := 6) dX5_foretold_6 ?_
  refine ev_lmul (pc := 7) dX5_foretold_7 ?_
  refine ev_bipush (pc := 8) (v := 100) dX5_foretold_8 (by decide) ?_
  refine ev_aload_n (pc := 10) dX5_foretold_10 rfl ?_
  refine ev_iload_n (pc := 11) dX5_foretold_11 rfl ?_
  refine callV1I (pc := 12) dX5_foretold_12 Ml_X5_28 M_X5_lostAt rfl rfl rfl rfl (c_X5_lostAt hs hn) ?_
  refine ev_isub (pc := 15) dX5_foretold_15 ?_
  refine ev_i2l (pc := 16) dX5_foretold_16 ?_
  refine ev_lmul (pc := 17) dX5_foretold_17 ?_
  refine ev_ldc2 (pc := 18) dX5_foretold_18 Cn_X5_32 ?_
  refine ev_ldiv (pc := 21) dX5_foretold_21 (by decide) ?_
  exact ev_lret (pc := 22) dX5_foretold_22 rfl rl
def byteS (n : Nat) (v : Int32) (S : St) : St := setI (setA S 10 (upd (S.2.1 10) n v)) 6 (nI (n + 1))
def byteAt (x s : Int32) : Int32 := (x.toUInt32 >>> (s.toUInt32 &&& Int32.toUInt32 31)).toInt32 &&& 255
def appendS (n : Nat) (x : Int32) (S : St) : St := byteS (n + 3) (byteAt x 0) (byteS (n + 2) (byteAt x 8) (byteS (n + 1) (byteAt x 16) (byteS n (byteAt x 24) S)))
theorem c_X7_append {x : Int32} {n : Nat} (hs : S.1 6 = nI n) (hn : n + 4 ≤ 200) : Ct g mX7_append [.ref 14, .int x] (hC S) (RV (appendS n x S)) := by
  have L : ∀ (S : St) (n : Nat) (s s' : Int32) (Post : Option Value → List va_E → Prop), S.1 6 = nI n → n < 200 → ¬ s < 0 → s + Int32.ofInt (-8) = s' → Ev g mX7_append 3 [(0, .ref 14), (1, .int x), (2, .int s')] [] (hC (byteS n (byteAt x s) S)) Post → Ev g mX7_append 3 [(0, .ref 14), (1, .int x), (2, .int s)] [] (hC S) Post := by
    intro S n s s' Post hs hn h0 hs' k
    subst hs'
    refine ev_iload_n (pc := 3) dX7_append_3 rfl ?_
    refine ev_if_lt (pc := 4) (tgt := 49) dX7_append_4 (by decide) (fun c4 => absurd c4 h0) (fun c4 => ?_)
    refine ev_aload_n (pc := 7) dX7_append_7 rfl ?_
    refine get_TP_length (pc := 8) dX7_append_8 Fl_X7_15 hs ?_
    refine ev_sipush (pc := 11) (v := nI 200) dX7_append_11 (by decide) ?_
    refine ev_icmp_geN (pc := 14) (tgt := 49) (by omega) (by omega) dX7_append_14 (by decide) (fun c14 => absurd c14 (by omega)) (fun c14 => ?_)
    refine ev_aload_n (pc := 17) dX7_append_17 rfl ?_
    refine get_TP_bytes (pc := 18) dX7_append_18 Fl_X7_9 ?_
    refine ev_aload_n (pc := 21) dX7_append_21 rfl ?_
    refine get_TP_length (pc := 22) dX7_append_22 Fl_X7_15 hs ?_
    refine ev_iload_n (pc := 25) dX7_append_25 rfl ?_
    refine ev_iload_n (pc := 26) dX7_append_26 rfl ?_
    refine ev_iushr (pc := 27) dX7_append_27 ?_
    refine ev_sipush (pc := 28) (v := 255) dX7_append_28 (by decide) ?_
    refine ev_iand (pc := 31) dX7_append_31 ?_
    refine asN_TP_bytes (pc := 32) dX7_append_32 (by omega) ?_
    refine ev_aload_n (pc := 33) dX7_append_33 rfl ?_
    refine ev_dup (pc := 34) dX7_append_34 rfl ?_
    refine get_TP_length (pc := 35) dX7_append_35 Fl_X7_15 hs ?_
    refine ev_iconst (pc := 38) (v := 1) dX7_append_38 (by decide) ?_
    refine ev_iadd (pc := 39) dX7_append_39 ?_
    rw [nI_1]
    refine put_TP_length (pc := 40) dX7_append_40 Fp_X7_15 ?_
    refine ev_iinc (pc := 43) (lv' := [(0, .ref 14), (1, .int _), (2, .int _)]) dX7_append_43 rfl (Nat.le_of_ble_eq_true rfl) rfl ?_
    refine ev_goto (pc := 46) (tgt := 3) dX7_append_46 (by decide) ?_
    exact k
  refine ct_of rfl rfl ?_
  refine ev_bipush (pc := 0) (v := 24) dX7_append_0 (by decide) ?_
  refine ev_istore_n (pc := 2) (lv' := [(0, .ref 14), (1, .int _), (2, .int _)]) dX7_append_2 (Nat.le_of_ble_eq_true rfl) rfl ?_
  refine L S n 24 16 _ hs (by omega) (by decide) (by decide) ?_
  refine L _ (n + 1) 16 8 _ rfl (by omega) (by decide) (by decide) ?_
  refine L _ (n + 2) 8 0 _ rfl (by omega) (by decide) (by decide) ?_
  refine L _ (n + 3) 0 (-8) _ rfl (by omega) (by decide) (by decide) ?_
  refine ev_iload_n (pc := 3) dX7_append_3 rfl ?_
  refine ev_if_lt (pc := 4) (tgt := 49) dX7_append_4 (by decide) (fun c4 => ?_) (fun c4 => absurd (by decide) c4)
  exact ev_ret (pc := 49) dX7_append_49 rfl rv
end SM
end
section
section TM
variable {g : GG} {S : St}
def fillF {α : Type} (n : Nat) (x : α) (f : Nat → α) : Nat → α := fun j => if j < n then x else f j
theorem fillF_0 {α : Type} (x : α) (f : Nat → α) : fillF 0 x f = f := by funext j; simp [fillF]
theorem fillF_s (k : Nat) (x : Int32) (f : Nat → Int32) : upd (fillF k x f) k x = fillF (k + 1) x f := by
  funext j
  simp only [upd, fillF]
  by_cases h : j = k
  · simp [h]
  · by_cases h2 : j < k
    · simp [h, h2, Nat.lt_succ_of_lt h2]
    · simp [h, h2, show ¬ j < k + 1 by omega]
theorem fillF_sL (k : Nat) (x : Int64) (f : Nat → Int64) : vp_updL (fillF k x f) k x = fillF (k + 1) x f := by
  funext j
  simp only [vp_updL, fillF]
  by_cases h : j = k
  · simp [h]
  · by_cases h2 : j < k
    · simp [h, h2, Nat.lt_succ_of_lt h2]
    · simp [h, h2, show ¬ j < k + 1 by omega]
theorem set_set {α : Type} (l : List α) (q : Nat) (a b : α) : (l.set q a).set q b = l.set q b := by
  apply List.ext_getElem?
  intro i
  simp only [List.getElem?_set, List.length_set]
  split <;> rfl
theorem get_set_self {α : Type} {l : List α} {q : Nat} {a b : α} (h : l[q]? = some a) : (l.set q b)[q]? = some b := by
  have := (List.getElem?_eq_some_iff.mp h).1
  simp [List.getElem?_set, this]
theorem set_same {α : Type} {l : List α} {q : Nat} {a : α} (h : l[q]? = some a) : l.set q a = l := by
  apply List.ext_getElem?
  intro i
  simp only [List.getElem?_set]
  split
  · rename_i hi
    subst hi
    have := (List.getElem?_eq_some_iff.mp h).1
    rw [h]
    simp [this]
  · rfl
theorem c_fillI {hp : List va_E} {q n : Nat} {f : Nat → Int32} {x : Int32} (hq : hp[q]? = some (.inl (0, n, .inl f))) (hn : n < 2 ^ 31) : Ct g mJ7_fill_53178 [.ref q, .int x] hp (fun v h => v = none ∧ h = hp.set q (.inl (0, n, .inl (fillF n x f)))) := by
  refine ct_of rfl rfl ?_
  refine ev_iconst (pc := 0) (v := nI 0) dJ7_fill_53178_0 (by decide) ?_
  refine ev_istore_n (pc := 1) (lv' := [(0, .ref q), (1, .int x), (2, .int (nI 0))]) dJ7_fill_53178_1 (Nat.le_of_ble_eq_true rfl) rfl ?_
  refine ev_aload_n (pc := 2) dJ7_fill_53178_2 rfl ?_
  refine ev_alenI (pc := 3) (v := nI n) dJ7_fill_53178_3 hq rfl ?_
  refine ev_istore_n (pc := 4) (lv' := [(0, .ref q), (1, .int x), (2, .int (nI 0)), (3, .int (nI n))]) dJ7_fill_53178_4 (Nat.le_of_ble_eq_true rfl) rfl ?_
  have key : ∀ k, k ≤ n → Ev g mJ7_fill_53178 5 [(0, .ref q), (1, .int x), (2, .int (nI k)), (3, .int (nI n))] [] (hp.set q (.inl (0, n, .inl (fillF k x f)))) (fun v h => v = none ∧ h = hp.set q (.inl (0, n, .inl (fillF n x f)))) := by
    refine loop_up n ?_ ?_
    · refine ev_iload_n (pc := 5) dJ7_fill_53178_5 rfl ?_
      refine ev_iload_n (pc := 6) dJ7_fill_53178_6 rfl ?_
      refine ev_icmp_geN (pc := 7) (tgt := 20) hn hn dJ7_fill_53178_7 (by decide) (fun c => ?_) (fun c => absurd (Nat.le_refl n) c)
      exact ev_ret (pc := 20) dJ7_fill_53178_20 rfl ⟨rfl, rfl⟩
    · intro k hk ih
      refine ev_iload_n (pc := 5) dJ7_fill_53178_5 rfl ?_
      refine ev_iload_n (pc := 6) dJ7_fill_53178_6 rfl ?_
      refine ev_icmp_geN (pc := 7) (tgt := 20) (by omega) hn dJ7_fill_53178_7 (by decide) (fun c => absurd hk (by omega)) (fun c => ?_)
      refine ev_aload_n (pc := 10) dJ7_fill_53178_10 rfl ?_
      refine ev_iload_n (pc := 11) dJ7_fill_53178_11 rfl ?_
      refine ev_iload_n (pc := 12) dJ7_fill_53178_12 rfl ?_
      refine ev_iast (pc := 13) dJ7_fill_53178_13 (get_set_self hq) (vp_in_nI hk hn) (by rw [set_set, nI_clamp (by omega), fillF_s]) ?_
      refine ev_iincN (pc := 14) (lv' := [(0, .ref q), (1, .int x), (2, .int (nI (k + 1))), (3, .int (nI n))]) dJ7_fill_53178_14 rfl (Nat.le_of_ble_eq_true rfl) rfl ?_
      refine ev_goto (pc := 17) (tgt := 5) dJ7_fill_53178_17 (by decide) ?_
      exact ih
  have h0 := key 0 (Nat.zero_le _)
  rw [fillF_0, set_same hq] at h0
  exact h0
theorem c_fillL {hp : List va_E} {q n : Nat} {f : Nat → Int64} {x : Int64} (hq : hp[q]? = some (.inl (1, n, .inr (.inl f)))) (hn : n < 2 ^ 31) : Ct g mJ7_fill_d0a16 [.ref q, .long x] hp (fun v h => v = none ∧ h = hp.set q (.inl (1, n, .inr (.inl (fillF n x f))))) := by
  refine ct_of rfl rfl ?_
  refine ev_iconst (pc := 0) (v := nI 0) dJ7_fill_d0a16_0 (by decide) ?_
  refine ev_istore_n (pc := 1) (lv' := [(0, .ref q), (1, .long x), (3, .int (nI 0))]) dJ7_fill_d0a16_1 (Nat.le_of_ble_eq_true rfl) rfl ?_
  refine ev_aload_n (pc := 2) dJ7_fill_d0a16_2 rfl ?_
  refine ev_alenL (pc := 3) (v := nI n) dJ7_fill_d0a16_3 hq rfl ?_
  refine ev_istore (pc := 4) (lv' := [(0, .ref q), (1, .long x), (3, .int (nI 0)), (4, .int (nI n))]) dJ7_fill_d0a16_4 (Nat.le_of_ble_eq_true rfl) rfl ?_
  have key : ∀ k, k ≤ n → Ev g mJ7_fill_d0a16 6 [(0, .ref q), (1, .long x), (3, .int (nI k)), (4, .int (nI n))] [] (hp.set q (.inl (1, n, .inr (.inl (fillF k x f))))) (fun v h => v = none ∧ h = hp.set q (.inl (1, n, .inr (.inl (fillF n x f))))) := by
    refine loop_up n ?_ ?_
    · refine ev_iload_n (pc := 6) dJ7_fill_d0a16_6 rfl ?_
      refine ev_iload (pc := 7) dJ7_fill_d0a16_7 rfl ?_
      refine ev_icmp_geN (pc := 9) (tgt := 22) hn hn dJ7_fill_d0a16_9 (by decide) (fun c => ?_) (fun c => absurd (Nat.le_refl n) c)
      exact ev_ret (pc := 22) dJ7_fill_d0a16_22 rfl ⟨rfl, rfl⟩
    · intro k hk ih
      refine ev_iload_n (pc := 6) dJ7_fill_d0a16_6 rfl ?_
      refine ev_iload (pc := 7) dJ7_fill_d0a16_7 rfl ?_
      refine ev_icmp_geN (pc := 9) (tgt := 22) (by omega) hn dJ7_fill_d0a16_9 (by decide) (fun c => absurd hk (by omega)) (fun c => ?_)
      refine ev_aload_n (pc := 12) dJ7_fill_d0a16_12 rfl ?_
      refine ev_iload_n (pc := 13) dJ7_fill_d0a16_13 rfl ?_
      refine ev_lload_n (pc := 14) dJ7_fill_d0a16_14 rfl ?_
      refine ev_last (pc := 15) dJ7_fill_d0a16_15 (get_set_self hq) (vp_in_nI hk hn) (by rw [set_set, nI_clamp (by omega), fillF_sL]) ?_
      refine ev_iincN (pc := 16) (lv' := [(0, .ref q), (1, .long x), (3, .int (nI (k + 1))), (4, .int (nI n))]) dJ7_fill_d0a16_16 rfl (Nat.le_of_ble_eq_true rfl) rfl ?_
      refine ev_goto (pc := 19) (tgt := 6) dJ7_fill_d0a16_19 (by decide) ?_
      exact ih
  have h0 := key 0 (Nat.zero_le _)
  rw [fillF_0, set_same hq] at h0
  exact h0
theorem c_fill_T0_price {x : Int32} : Ct g mJ7_fill_53178 [.ref 36, .int x] (hC S) (RV (setA S 18 (fillF 5 x (S.2.1 18)))) := c_fillI (g := g) (hp := hC S) (q := 36) rfl (by decide)
theorem c_fill_T1_price {x : Int32} : Ct g mJ7_fill_53178 [.ref 40, .int x] (hC S) (RV (setA S 19 (fillF 5 x (S.2.1 19)))) := c_fillI (g := g) (hp := hC S) (q := 40) rfl (by decide)
theorem c_fill_RD_earliest {x : Int32} : Ct g mJ7_fill_53178 [.ref 33, .int x] (hC S) (RV (setA S 16 (fillF 2754 x (S.2.1 16)))) := c_fillI (g := g) (hp := hC S) (q := 33) rfl (by decide)
theorem c_fill_RD_hourOfCount {x : Int32} : Ct g mJ7_fill_53178 [.ref 34, .int x] (hC S) (RV (setA S 17 (fillF 17 x (S.2.1 17)))) := c_fillI (g := g) (hp := hC S) (q := 34) rfl (by decide)
theorem c_fill_BK_weight {x : Int64} : Ct g mJ7_fill_d0a16 [.ref 18, .long x] (hC S) (RV (setB S 0 (fillF 40 x (S.2.2.2.1 0)))) := c_fillL (g := g) (hp := hC S) (q := 18) rfl (by decide)
theorem c_fill_BK_lent {x : Int64} : Ct g mJ7_fill_d0a16 [.ref 19, .long x] (hC S) (RV (setB S 1 (fillF 40 x (S.2.2.2.1 1)))) := c_fillL (g := g) (hp := hC S) (q := 19) rfl (by decide)
theorem c_fill_BK_check {x : Int64} : Ct g mJ7_fill_d0a16 [.ref 20, .long x] (hC S) (RV (setB S 2 (fillF 40 x (S.2.2.2.1 2)))) := c_fillL (g := g) (hp := hC S) (q := 20) rfl (by decide)
theorem c_fill_BK_beyond {x : Int64} : Ct g mJ7_fill_d0a16 [.ref 21, .long x] (hC S) (RV (setB S 3 (fillF 40 x (S.2.2.2.1 3)))) := c_fillL (g := g) (hp := hC S) (q := 21) rfl (by decide)
theorem c_fill_BK_able {x : Int64} : Ct g mJ7_fill_d0a16 [.ref 23, .long x] (hC S) (RV (setB S 5 (fillF 40 x (S.2.2.2.1 5)))) := c_fillL (g := g) (hp := hC S) (q := 23) rfl (by decide)
def shareSet (b k : Nat) (x y : Int32) (S : St) : St := setA (setA S (20 + b) (upd (S.2.1 (20 + b)) k x)) (22 + b) (upd (S.2.1 (22 + b)) k y)
def shareF (S : St) (b k : Nat) (v : Int64) : Int64 := if 1 ≤ S.2.1 (22 + b) k then v * (S.2.1 (20 + b) k).toInt64 / (S.2.1 (22 + b) k).toInt64 else 0
theorem i64ne {x : Int32} (h : 1 ≤ x) : ¬ x.toInt64 = 0 := by
  intro h0
  have h1 := congrArg Int64.toInt h0
  rw [Int32.toInt_toInt64] at h1
  have h2 := Int32.le_iff_toInt_le.mp h
  have h3 : (1 : Int32).toInt = 1 := by decide
  have h4 : (0 : Int64).toInt = 0 := by decide
  omega
def resetS (b : Nat) (S : St) : St := setI (setI (shareSet b 3 0 1 (shareSet b 2 0 1 (shareSet b 1 1 1 (shareSet b 0 1 1 (setA S (18 + b) (fillF 5 0 (S.2.1 (18 + b)))))))) (16 + b) (-1)) (18 + b) 0
theorem c_X8_setShare_0 {k : Nat} {x y : Int32} (hk : k < 4) : Ct g mX8_setShare [.ref 35, .int (nI k), .int x, .int y] (hC S) (RV (shareSet 0 k x y S)) := by
  refine ct_of rfl rfl ?_
  refine ev_iload_n (pc := 0) dX8_setShare_0 rfl ?_
  refine ev_if_lt (pc := 1) (tgt := 9) dX8_setShare_1 (by decide) (fun c1 => absurd c1 (nI_pos (by omega))) (fun c1 => ?_)
  refine ev_iload_n (pc := 4) dX8_setShare_4 rfl ?_
  refine ev_iconst (pc := 5) (v := nI 4) dX8_setShare_5 (by decide) ?_
  refine ev_icmp_ltN (pc := 6) (tgt := 10) (by omega) (by omega) dX8_setShare_6 (by decide) (fun c6 => ?_) (fun c6 => absurd hk c6)
  refine ev_aload_n (pc := 10) dX8_setShare_10 rfl ?_
  refine get_T0_upper (pc := 11) dX8_setShare_11 Fl_X8_15 ?_
  refine ev_iload_n (pc := 14) dX8_setShare_14 rfl ?_
  refine ev_iload_n (pc := 15) dX8_setShare_15 rfl ?_
  refine asN_T0_upper (pc := 16) dX8_setShare_16 (by omega) ?_
  refine ev_aload_n (pc := 17) dX8_setShare_17 rfl ?_
  refine get_T0_lower (pc := 18) dX8_setShare_18 Fl_X8_18 ?_
  refine ev_iload_n (pc := 21) dX8_setShare_21 rfl ?_
  refine ev_iload_n (pc := 22) dX8_setShare_22 rfl ?_
  refine asN_T0_lower (pc := 23) dX8_setShare_23 (by omega) ?_
  exact ev_ret (pc := 24) dX8_setShare_24 rfl rv
theorem c_X8_shareOf_0 {k : Nat} {v : Int64} (hk : k < 4) : Ct g mX8_shareOf [.ref 35, .int (nI k), .long v] (hC S) (RJl (shareF S 0 k v) S) := by
  refine ct_of rfl rfl ?_
  refine ev_iload_n (pc := 0) dX8_shareOf_0 rfl ?_
  refine ev_if_lt (pc := 1) (tgt := 19) dX8_shareOf_1 (by decide) (fun c1 => absurd c1 (nI_pos (by omega))) (fun c1 => ?_)
  refine ev_iload_n (pc := 4) dX8_shareOf_4 rfl ?_
  refine ev_iconst (pc := 5) (v := nI 4) dX8_shareOf_5 (by decide) ?_
  refine ev_icmp_geN (pc := 6) (tgt := 19) (by omega) (by omega) dX8_shareOf_6 (by decide) (fun c6 => absurd hk (by omega)) (fun c6 => ?_)
  refine ev_aload_n (pc := 9) dX8_shareOf_9 rfl ?_
  refine get_T0_lower (pc := 10) dX8_shareOf_10 Fl_X8_18 ?_
  refine ev_iload_n (pc := 13) dX8_shareOf_13 rfl ?_
  refine ldN_T0_lower (pc := 14) dX8_shareOf_14 (by omega) rfl ?_
  refine ev_iconst (pc := 15) (v := 1) dX8_shareOf_15 (by decide) ?_
  refine ev_icmp_ge (pc := 16) (tgt := 21) dX8_shareOf_16 (by decide) (fun c16 => ?_) (fun c16 => ?_)
  · refine ev_lload_n (pc := 21) dX8_shareOf_21 rfl ?_
    refine ev_aload_n (pc := 22) dX8_shareOf_22 rfl ?_
    refine get_T0_upper (pc := 23) dX8_shareOf_23 Fl_X8_15 ?_
    refine ev_iload_n (pc := 26) dX8_shareOf_26 rfl ?_
    refine ldN_T0_upper (pc := 27) dX8_shareOf_27 (by omega) rfl ?_
    refine ev_i2l (pc := 28) dX8_shareOf_28 ?_
    refine ev_lmul (pc := 29) dX8_shareOf_29 ?_
    refine ev_aload_n (pc := 30) dX8_shareOf_30 rfl ?_
    refine get_T0_lower (pc := 31) dX8_shareOf_31 Fl_X8_18 ?_
    refine ev_iload_n (pc := 34) dX8_shareOf_34 rfl ?_
    refine ldN_T0_lower (pc := 35) dX8_shareOf_35 (by omega) rfl ?_
    refine ev_i2l (pc := 36) dX8_shareOf_36 ?_
    refine ev_ldiv (pc := 37) dX8_shareOf_37 (i64ne c16) ?_
    exact ev_lret (pc := 38) dX8_shareOf_38 rfl (rl' (if_pos c16).symm rfl)
  · refine ev_lconst (pc := 19) (v := 0) dX8_shareOf_19 (by decide) ?_
    exact ev_lret (pc := 20) dX8_shareOf_20 rfl (rl' (if_neg c16).symm rfl)
theorem c_X8_reset_0 : Ct g mX8_reset [.ref 35] (hC S) (RV (resetS 0 S)) := by
  refine ct_of rfl rfl ?_
  refine ev_aload_n (pc := 0) dX8_reset_0 rfl ?_
  refine get_T0_price (pc := 1) dX8_reset_1 Fl_X8_9 ?_
  refine ev_iconst (pc := 4) (v := 0) dX8_reset_4 (by decide) ?_
  refine callS2V (pc := 5) dX8_reset_5 Ml_X8_24 M_J7_fill_53178 rfl rfl c_fill_T0_price ?_
  refine ev_aload_n (pc := 8) dX8_reset_8 rfl ?_
  refine ev_iconst (pc := 9) (v := nI 0) dX8_reset_9 (by decide) ?_
  refine ev_iconst (pc := 10) (v := 1) dX8_reset_10 (by decide) ?_
  refine ev_iconst (pc := 11) (v := 1) dX8_reset_11 (by decide) ?_
  refine callV3V (pc := 12) dX8_reset_12 Ml_X8_30 M_X8_setShare rfl rfl rfl rfl (c_X8_setShare_0 (by decide)) ?_
  refine ev_aload_n (pc := 15) dX8_reset_15 rfl ?_
  refine ev_iconst (pc := 16) (v := nI 1) dX8_reset_16 (by decide) ?_
  refine ev_iconst (pc := 17) (v := 1) dX8_reset_17 (by decide) ?_
  refine ev_iconst (pc := 18) (v := 1) dX8_reset_18 (by decide) ?_
  refine callV3V (pc := 19) dX8_reset_19 Ml_X8_30 M_X8_setShare rfl rfl rfl rfl (c_X8_setShare_0 (by decide)) ?_
  refine ev_aload_n (pc := 22) dX8_reset_22 rfl ?_
  refine ev_iconst (pc := 23) (v := nI 2) dX8_reset_23 (by decide) ?_
  refine ev_iconst (pc := 24) (v := 0) dX8_reset_24 (by decide) ?_
  refine ev_iconst (pc := 25) (v := 1) dX8_reset_25 (by decide) ?_
  refine callV3V (pc := 26) dX8_reset_26 Ml_X8_30 M_X8_setShare rfl rfl rfl rfl (c_X8_setShare_0 (by decide)) ?_
  refine ev_aload_n (pc := 29) dX8_reset_29 rfl ?_
  refine ev_iconst (pc := 30) (v := nI 3) dX8_reset_30 (by decide) ?_
  refine ev_iconst (pc := 31) (v := 0) dX8_reset_31 (by decide) ?_
  refine ev_iconst (pc := 32) (v := 1) dX8_reset_32 (by decide) ?_
  refine callV3V (pc := 33) dX8_reset_33 Ml_X8_30 M_X8_setShare rfl rfl rfl rfl (c_X8_setShare_0 (by decide)) ?_
  refine ev_aload_n (pc := 36) dX8_reset_36 rfl ?_
  refine ev_iconst (pc := 37) (v := -1) dX8_reset_37 (by decide) ?_
  refine put_T0_quota (pc := 38) dX8_reset_38 Fp_X8_34 ?_
  refine ev_aload_n (pc := 41) dX8_reset_41 rfl ?_
  refine ev_iconst (pc := 42) (v := 0) dX8_reset_42 (by decide) ?_
  refine put_T0_clauses (pc := 43) dX8_reset_43 Fp_X8_38 ?_
  exact ev_ret (pc := 46) dX8_reset_46 rfl rv
theorem c_X8_setShare_1 {k : Nat} {x y : Int32} (hk : k < 4) : Ct g mX8_setShare [.ref 39, .int (nI k), .int x, .int y] (hC S) (RV (shareSet 1 k x y S)) := by
  refine ct_of rfl rfl ?_
  refine ev_iload_n (pc := 0) dX8_setShare_0 rfl ?_
  refine ev_if_lt (pc := 1) (tgt := 9) dX8_setShare_1 (by decide) (fun c1 => absurd c1 (nI_pos (by omega))) (fun c1 => ?_)
  refine ev_iload_n (pc := 4) dX8_setShare_4 rfl ?_
  refine ev_iconst (pc := 5) (v := nI 4) dX8_setShare_5 (by decide) ?_
  refine ev_icmp_ltN (pc := 6) (tgt := 10) (by omega) (by omega) dX8_setShare_6 (by decide) (fun c6 => ?_) (fun c6 => absurd hk c6)
  refine ev_aload_n (pc := 10) dX8_setShare_10 rfl ?_
  refine get_T1_upper (pc := 11) dX8_setShare_11 Fl_X8_15 ?_
  refine ev_iload_n (pc := 14) dX8_setShare_14 rfl ?_
  refine ev_iload_n (pc := 15) dX8_setShare_15 rfl ?_
  refine asN_T1_upper (pc := 16) dX8_setShare_16 (by omega) ?_
  refine ev_aload_n (pc := 17) dX8_setShare_17 rfl ?_
  refine get_T1_lower (pc := 18) dX8_setShare_18 Fl_X8_18 ?_
  refine ev_iload_n (pc := 21) dX8_setShare_21 rfl ?_
  refine ev_iload_n (pc := 22) dX8_setShare_22 rfl ?_
  refine asN_T1_lower (pc := 23) dX8_setShare_23 (by omega) ?_
  exact ev_ret (pc := 24) dX8_setShare_24 rfl rv
theorem c_X8_shareOf_1 {k : Nat} {v : Int64} (hk : k < 4) : Ct g mX8_shareOf [.ref 39, .int (nI k), .long v] (hC S) (RJl (shareF S 1 k v) S) := by
  refine ct_of rfl rfl ?_
  refine ev_iload_n (pc := 0) dX8_shareOf_0 rfl ?_
  refine ev_if_lt (pc := 1) (tgt := 19) dX8_shareOf_1 (by decide) (fun c1 => absurd c1 (nI_pos (by omega))) (fun c1 => ?_)
  refine ev_iload_n (pc := 4) dX8_shareOf_4 rfl ?_
  refine ev_iconst (pc := 5) (v := nI 4) dX8_shareOf_5 (by decide) ?_
  refine ev_icmp_geN (pc := 6) (tgt := 19) (by omega) (by omega) dX8_shareOf_6 (by decide) (fun c6 => absurd hk (by omega)) (fun c6 => ?_)
  refine ev_aload_n (pc := 9) dX8_shareOf_9 rfl ?_
  refine get_T1_lower (pc := 10) dX8_shareOf_10 Fl_X8_18 ?_
  refine ev_iload_n (pc := 13) dX8_shareOf_13 rfl ?_
  refine ldN_T1_lower (pc := 14) dX8_shareOf_14 (by omega) rfl ?_
  refine ev_iconst (pc := 15) (v := 1) dX8_shareOf_15 (by decide) ?_
  refine ev_icmp_ge (pc := 16) (tgt := 21) dX8_shareOf_16 (by decide) (fun c16 => ?_) (fun c16 => ?_)
  · refine ev_lload_n (pc := 21) dX8_shareOf_21 rfl ?_
    refine ev_aload_n (pc := 22) dX8_shareOf_22 rfl ?_
    refine get_T1_upper (pc := 23) dX8_shareOf_23 Fl_X8_15 ?_
    refine ev_iload_n (pc := 26) dX8_shareOf_26 rfl ?_
    refine ldN_T1_upper (pc := 27) dX8_shareOf_27 (by omega) rfl ?_
    refine ev_i2l (pc := 28) dX8_shareOf_28 ?_
    refine ev_lmul (pc := 29) dX8_shareOf_29 ?_
    refine ev_aload_n (pc := 30) dX8_shareOf_30 rfl ?_
    refine get_T1_lower (pc := 31) dX8_shareOf_31 Fl_X8_18 ?_
    refine ev_iload_n (pc := 34) dX8_shareOf_34 rfl ?_
    refine ldN_T1_lower (pc := 35) dX8_shareOf_35 (by omega) rfl ?_
    refine ev_i2l (pc := 36) dX8_shareOf_36 ?_
    refine ev_ldiv (pc := 37) dX8_shareOf_37 (i64ne c16) ?_
    exact ev_lret (pc := 38) dX8_shareOf_38 rfl (rl' (if_pos c16).symm rfl)
  · refine ev_lconst (pc := 19) (v := 0) dX8_shareOf_19 (by decide) ?_
    exact ev_lret (pc := 20) dX8_shareOf_20 rfl (rl' (if_neg c16).symm rfl)
theorem c_X8_reset_1 : Ct g mX8_reset [.ref 39] (hC S) (RV (resetS 1 S)) := by
  refine ct_of rfl rfl ?_
  refine ev_aload_n (pc := 0) dX8_reset_0 rfl ?_
  refine get_T1_price (pc := 1) dX8_reset_1 Fl_X8_9 ?_
  refine ev_iconst (pc := 4) (v := 0) dX8_reset_4 (by decide) ?_
  refine callS2V (pc := 5) dX8_reset_5 Ml_X8_24 M_J7_fill_53178 rfl rfl c_fill_T1_price ?_
  refine ev_aload_n (pc := 8) dX8_reset_8 rfl ?_
  refine ev_iconst (pc := 9) (v := nI 0) dX8_reset_9 (by decide) ?_
  refine ev_iconst (pc := 10) (v := 1) dX8_reset_10 (by decide) ?_
  refine ev_iconst (pc := 11) (v := 1) dX8_reset_11 (by decide) ?_
  refine callV3V (pc := 12) dX8_reset_12 Ml_X8_30 M_X8_setShare rfl rfl rfl rfl (c_X8_setShare_1 (by decide)) ?_
  refine ev_aload_n (pc := 15) dX8_reset_15 rfl ?_
  refine ev_iconst (pc := 16) (v := nI 1) dX8_reset_16 (by decide) ?_
  refine ev_iconst (pc := 17) (v := 1) dX8_reset_17 (by decide) ?_
  refine ev_iconst (pc := 18) (v := 1) dX8_reset_18 (by decide) ?_
  refine callV3V (pc := 19) dX8_reset_19 Ml_X8_30 M_X8_setShare rfl rfl rfl rfl (c_X8_setShare_1 (by decide)) ?_
  refine ev_aload_n (pc := 22) dX8_reset_22 rfl ?_
  refine ev_iconst (pc := 23) (v := nI 2) dX8_reset_23 (by decide) ?_
  refine ev_iconst (pc := 24) (v := 0) dX8_reset_24 (by decide) ?_
  refine ev_iconst (pc := 25) (v := 1) dX8_reset_25 (by decide) ?_
  refine callV3V (pc := 26) dX8_reset_26 Ml_X8_30 M_X8_setShare rfl rfl rfl rfl (c_X8_setShare_1 (by decide)) ?_
  refine ev_aload_n (pc := 29) dX8_reset_29 rfl ?_
  refine ev_iconst (pc := 30) (v := nI 3) dX8_reset_30 (by decide) ?_
  refine ev_iconst (pc := 31) (v := 0) dX8_reset_31 (by decide) ?_
  refine ev_iconst (pc := 32) (v := 1) dX8_reset_32 (by decide) ?_
  refine callV3V (pc := 33) dX8_reset_33 Ml_X8_30 M_X8_setShare rfl rfl rfl rfl (c_X8_setShare_1 (by decide)) ?_
  refine ev_aload_n (pc := 36) dX8_reset_36 rfl ?_
  refine ev_iconst (pc := 37) (v := -1) dX8_reset_37 (by decide) ?_
  refine put_T1_quota (pc := 38) dX8_reset_38 Fp_X8_34 ?_
  refine ev_aload_n (pc := 41) dX8_reset_41 rfl ?_
  refine ev_iconst (pc := 42) (v := 0) dX8_reset_42 (by decide) ?_
  refine put_T1_clauses (pc := 43) dX8_reset_43 Fp_X8_38 ?_
  exact ev_ret (pc := 46) dX8_reset_46 rfl rv
end TM
end
section
section BK
variable {g : GG} {S : St}
/-- the rows that the accounts are drawn from -/
def Bs (S : St) (nf nc nb : Nat) : Prop := S.1 2 = nI nf ∧ nf ≤ 40 ∧ S.1 3 = nI nc ∧ nc ≤ 200 ∧ S.1 4 = nI nb ∧ nb ≤ 300 ∧ (∀ k, k < nc → vp_in (S.2.1 3 k) 40) ∧ (∀ k, k < nb → vp_in (S.2.1 6 k) 40) ∧ (∀ k, k < nb → vp_in (S.2.1 8 k) 5)
/-- the same but for long rows and longs -/
def eqB (X S : St) : Prop := X.1 = S.1 ∧ X.2.1 = S.2.1 ∧ X.2.2.2.2 = S.2.2.2.2
theorem eqB.rf : eqB S S := ⟨rfl, rfl, rfl⟩
theorem eqB.b {X : St} (h : eqB X S) (n : Nat) (f : Nat → Int64) : eqB (setB X n f) S := h
theorem eqB.l {X : St} (h : eqB X S) (n : Nat) (x : Int64) : eqB (setL X n x) S := h
theorem eqB.tr {X Y : St} (h : eqB Y X) (h2 : eqB X S) : eqB Y S := ⟨h.1.trans h2.1, h.2.1.trans h2.2.1, h.2.2.trans h2.2.2⟩
theorem eqB.it {f : Nat → St → St} (h : ∀ k X, eqB (f k X) X) : ∀ k S, eqB (it f k S) S
  | 0, _ => eqB.rf
  | k + 1, S => (h k _).tr (eqB.it h k S)
theorem Bs.eq {X : St} {nf nc nb : Nat} (h : Bs S nf nc nb) (e : eqB X S) : Bs X nf nc nb := by
  obtain ⟨e1, e2, -⟩ := e
  unfold Bs
  rw [e1, e2]
  exact h
theorem c_X1_pay {i : Nat} (hi : i < 40) : Ct g mX1_pay [.ref 17, .int (nI i)] (hC S) (RJl (S.2.2.2.1 2 i - S.2.2.2.1 4 i) S) := by
  refine ct_of rfl rfl ?_
  refine ev_aload_n (pc := 0) dX1_pay_0 rfl ?_
  refine get_BK_check (pc := 1) dX1_pay_1 Fl_X1_18 ?_
  refine ev_iload_n (pc := 4) dX1_pay_4 rfl ?_
  refine ldN_BK_check (pc := 5) dX1_pay_5 (by omega) rfl ?_
  refine ev_aload_n (pc := 6) dX1_pay_6 rfl ?_
  refine get_BK_off (pc := 7) dX1_pay_7 Fl_X1_24 ?_
  refine ev_iload_n (pc := 10) dX1_pay_10 rfl ?_
  refine ldN_BK_off (pc := 11) dX1_pay_11 (by omega) rfl ?_
  refine ev_lsub (pc := 12) dX1_pay_12 ?_
  exact ev_lret (pc := 13) dX1_pay_13 rfl rl
theorem c_X1_debt {i : Nat} (hi : i < 40) : Ct g mX1_debt [.ref 17, .int (nI i)] (hC S) (RJl (S.2.2.2.1 1 i - S.2.2.2.1 4 i) S) := by
  refine ct_of rfl rfl ?_
  refine ev_aload_n (pc := 0) dX1_debt_0 rfl ?_
  refine get_BK_lent (pc := 1) dX1_debt_1 Fl_X1_15 ?_
  refine ev_iload_n (pc := 4) dX1_debt_4 rfl ?_
  refine ldN_BK_lent (pc := 5) dX1_debt_5 (by omega) rfl ?_
  refine ev_aload_n (pc := 6) dX1_debt_6 rfl ?_
  refine get_BK_off (pc := 7) dX1_debt_7 Fl_X1_24 ?_
  refine ev_iload_n (pc := 10) dX1_debt_10 rfl ?_
  refine ldN_BK_off (pc := 11) dX1_debt_11 (by omega) rfl ?_
  refine ev_lsub (pc := 12) dX1_debt_12 ?_
  exact ev_lret (pc := 13) dX1_debt_13 rfl rl
def crB (day : Int32) (k : Nat) (X : St) : St := if day < X.2.1 5 k then X else setB X 1 (vp_updL (X.2.2.2.1 1) (X.2.1 3 k).toNatClampNeg (X.2.2.2.1 1 (X.2.1 3 k).toNatClampNeg + (X.2.1 4 k).toInt64))
theorem crB_eq (day : Int32) (k : Nat) (X : St) : eqB (crB day k X) X := by
  unfold crB; split <;> exact eqB.rf
theorem c_X1_addCredits {day : Int32} {nf nc nb : Nat} (hB : Bs S nf nc nb) : Ct g mX1_addCredits [.ref 17, .ref 5, .int day] (hC S) (RV (it (crB day) nc S)) := by
  have step : ∀ (X : St) (k : Nat) (Post : Option Value → List va_E → Prop), k < nc → Bs X nf nc nb → Ev g mX1_addCredits 2 [(0, .ref 17), (1, .ref 5), (2, .int day), (3, .int (nI (k + 1)))] [] (hC (crB day k X)) Post → Ev g mX1_addCredits 2 [(0, .ref 17), (1, .ref 5), (2, .int day), (3, .int (nI k))] [] (hC X) Post := by
    intro X k Post hk hB ih
    obtain ⟨-, -, hs, hc, -, -, hf, -⟩ := hB
    unfold crB at ih
    refine ev_iload_n (pc := 2) dX1_addCredits_2 rfl ?_
    refine ev_aload_n (pc := 3) dX1_addCredits_3 rfl ?_
    refine get_C_size (pc := 4) dX1_addCredits_4 Fl_X1_68 hs ?_
    refine ev_icmp_geN (pc := 7) (tgt := 47) (by omega) (by omega) dX1_addCredits_7 (by decide) (fun c7 => absurd c7 (by omega)) (fun c7 => ?_)
    refine ev_aload_n (pc := 10) dX1_addCredits_10 rfl ?_
    refine get_C_known (pc := 11) dX1_addCredits_11 Fl_X1_71 ?_
    refine ev_iload_n (pc := 14) dX1_addCredits_14 rfl ?_
    refine ldN_C_known (pc := 15) dX1_addCredits_15 (by omega) rfl ?_
    refine ev_iload_n (pc := 16) dX1_addCredits_16 rfl ?_
    refine ev_icmp_gt (pc := 17) (tgt := 41) dX1_addCredits_17 (by decide) (fun c17 => ?_) (fun c17 => ?_)
    · rw [if_pos c17] at ih
      refine ev_iincN (pc := 41) (lv' := [(0, .ref 17), (1, .ref 5), (2, .int _), (3, .int _)]) dX1_addCredits_41 rfl (Nat.le_of_ble_eq_true rfl) rfl ?_
      refine ev_goto (pc := 44) (tgt := 2) dX1_addCredits_44 (by decide) ?_
      exact ih
    · rw [if_neg c17] at ih
      refine ev_aload_n (pc := 20) dX1_addCredits_20 rfl ?_
      refine get_BK_lent (pc := 21) dX1_addCredits_21 Fl_X1_15 ?_
      refine ev_aload_n (pc := 24) dX1_addCredits_24 rfl ?_
      refine get_C_farmer (pc := 25) dX1_addCredits_25 Fl_X1_75 ?_
      refine ev_iload_n (pc := 28) dX1_addCredits_28 rfl ?_
      refine ldN_C_farmer (pc := 29) dX1_addCredits_29 (by omega) rfl ?_
      refine ev_dup2 (pc := 30) dX1_addCredits_30 rfl rfl ?_
      refine ld_BK_lent (pc := 31) dX1_addCredits_31 (hf k hk) rfl ?_
      refine ev_aload_n (pc := 32) dX1_addCredits_32 rfl ?_
      refine get_C_amount (pc := 33) dX1_addCredits_33 Fl_X1_78 ?_
      refine ev_iload_n (pc := 36) dX1_addCredits_36 rfl ?_
      refine ldN_C_amount (pc := 37) dX1_addCredits_37 (by omega) rfl ?_
      refine ev_i2l (pc := 38) dX1_addCredits_38 ?_
      refine ev_ladd (pc := 39) dX1_addCredits_39 ?_
      refine as_BK_lent (pc := 40) dX1_addCredits_40 (hf k hk) ?_
      refine ev_iincN (pc := 41) (lv' := [(0, .ref 17), (1, .ref 5), (2, .int _), (3, .int _)]) dX1_addCredits_41 rfl (Nat.le_of_ble_eq_true rfl) rfl ?_
      refine ev_goto (pc := 44) (tgt := 2) dX1_addCredits_44 (by decide) ?_
      exact ih
  refine ct_of rfl rfl ?_
  refine ev_iconst (pc := 0) (v := nI 0) dX1_addCredits_0 (by decide) ?_
  refine ev_istore_n (pc := 1) (lv' := [(0, .ref 17), (1, .ref 5), (2, .int _), (3, .int _)]) dX1_addCredits_1 (Nat.le_of_ble_eq_true rfl) rfl ?_
  refine loop_up (P := fun k => Ev g mX1_addCredits 2 [(0, .ref 17), (1, .ref 5), (2, .int day), (3, .int (nI k))] [] (hC (it (crB day) k S)) (RV (it (crB day) nc S))) nc ?_ ?_ 0 (Nat.zero_le _)
  · have hB := hB.eq (eqB.it (crB_eq day) nc S)
    obtain ⟨-, -, hs, hc, -⟩ := hB
    refine ev_iload_n (pc := 2) dX1_addCredits_2 rfl ?_
    refine ev_aload_n (pc := 3) dX1_addCredits_3 rfl ?_
    refine get_C_size (pc := 4) dX1_addCredits_4 Fl_X1_68 hs ?_
    refine ev_icmp_geN (pc := 7) (tgt := 47) (by omega) (by omega) dX1_addCredits_7 (by decide) (fun c7 => ?_) (fun c7 => absurd (Nat.le_refl nc) c7)
    exact ev_ret (pc := 47) dX1_addCredits_47 rfl rv
  · intro k hk ih
    exact step _ k _ hk (hB.eq (eqB.it (crB_eq day) k S)) ih
/-- what is within the quota -/
def withF (quota fields : Int32) (whole sum : Int64) : Int64 := if quota = -1 then whole else
  (if (if quota.toInt64 * fields.toInt64 - sum < whole then quota.toInt64 * fields.toInt64 - sum else whole) < 0 then 0 else (if quota.toInt64 * fields.toInt64 - sum < whole then quota.toInt64 * fields.toInt64 - sum else whole))
def baB1 (f : Nat) (w wi pr : Int64) (X : St) : St := setB X 2 (vp_updL (X.2.2.2.1 2) f (X.2.2.2.1 2 f + wi * pr))
def baB2 (f : Nat) (w wi pr : Int64) (X : St) : St := setB X 3 (vp_updL (X.2.2.2.1 3) f (X.2.2.2.1 3 f + (w - wi) * pr))
def baB3 (f : Nat) (w wi pr : Int64) (X : St) : St := setB X 0 (vp_updL (X.2.2.2.1 0) f (X.2.2.2.1 0 f + w))
def baB (b : Nat) (day : Int32) (k : Nat) (X : St) : St :=
  if X.2.1 9 k ≤ day then
    baB3 (X.2.1 6 k).toNatClampNeg (X.2.1 7 k).toInt64 (withF (X.1 (16 + b)) (X.2.1 2 (X.2.1 6 k).toNatClampNeg) (X.2.1 7 k).toInt64 (X.2.2.2.1 0 (X.2.1 6 k).toNatClampNeg)) (X.2.1 (18 + b) (X.2.1 8 k).toNatClampNeg).toInt64
    (baB2 (X.2.1 6 k).toNatClampNeg (X.2.1 7 k).toInt64 (withF (X.1 (16 + b)) (X.2.1 2 (X.2.1 6 k).toNatClampNeg) (X.2.1 7 k).toInt64 (X.2.2.2.1 0 (X.2.1 6 k).toNatClampNeg)) (X.2.1 (18 + b) (X.2.1 8 k).toNatClampNeg).toInt64
    (baB1 (X.2.1 6 k).toNatClampNeg (X.2.1 7 k).toInt64 (withF (X.1 (16 + b)) (X.2.1 2 (X.2.1 6 k).toNatClampNeg) (X.2.1 7 k).toInt64 (X.2.2.2.1 0 (X.2.1 6 k).toNatClampNeg)) (X.2.1 (18 + b) (X.2.1 8 k).toNatClampNeg).toInt64 X))
  else X
theorem baB_eq (b : Nat) (day : Int32) (k : Nat) (X : St) : eqB (baB b day k X) X := by
  unfold baB; split <;> exact eqB.rf
theorem c_X1_addBaskets_0 {day : Int32} {nf nc nb : Nat} (hB : Bs S nf nc nb) : Ct g mX1_addBaskets [.ref 17, .ref 1, .ref 9, .ref 35, .int day] (hC S) (RV (it (baB 0 day) nb S)) := by
  have tail : ∀ (X : St) (k f : Nat) (fi : Int32) (w wi : Int64) (Post : Option Value → List va_E → Prop), k < nb → k < 300 → vp_in fi 40 → vp_in (X.2.1 8 k) 5 → fi.toNatClampNeg = f → Ev g mX1_addBaskets 3 [(0, .ref 17), (1, .ref 1), (2, .ref 9), (3, .ref 35), (4, .int day), (5, .int (nI (k + 1)))] [] (hC (baB3 f w wi (X.2.1 18 (X.2.1 8 k).toNatClampNeg).toInt64 (baB2 f w wi (X.2.1 18 (X.2.1 8 k).toNatClampNeg).toInt64 (baB1 f w wi (X.2.1 18 (X.2.1 8 k).toNatClampNeg).toInt64 X)))) Post → Ev g mX1_addBaskets 95 [(0, .ref 17), (1, .ref 1), (2, .ref 9), (3, .ref 35), (4, .int day), (5, .int (nI k)), (6, .int fi), (7, .long w), (9, .long wi)] [] (hC X) Post := by
    intro X k f fi w wi Post hk hk3 hf hg he ih
    subst he
    refine ev_aload_n (pc := 95) dX1_addBaskets_95 rfl ?_
    refine get_T0_price (pc := 96) dX1_addBaskets_96 Fl_X1_97 ?_
    refine ev_aload_n (pc := 99) dX1_addBaskets_99 rfl ?_
    refine get_K_grade (pc := 100) dX1_addBaskets_100 Fl_X1_100 ?_
    refine ev_iload (pc := 103) dX1_addBaskets_103 rfl ?_
    refine ldN_K_grade (pc := 105) dX1_addBaskets_105 (by omega) rfl ?_
    refine ld_T0_price (pc := 106) dX1_addBaskets_106 hg rfl ?_
    refine ev_i2l (pc := 107) dX1_addBaskets_107 ?_
    refine ev_lstore (pc := 108) (lv' := [(0, .ref 17), (1, .ref 1), (2, .ref 9), (3, .ref 35), (4, .int _), (5, .int _), (6, .int _), (7, .long _), (9, .long _), (11, .long _)]) dX1_addBaskets_108 (Nat.le_of_ble_eq_true rfl) rfl ?_
    refine ev_aload_n (pc := 110) dX1_addBaskets_110 rfl ?_
    refine get_BK_check (pc := 111) dX1_addBaskets_111 Fl_X1_18 ?_
    refine ev_iload (pc := 114) dX1_addBaskets_114 rfl ?_
    refine ev_dup2 (pc := 116) dX1_addBaskets_116 rfl rfl ?_
    refine ld_BK_check (pc := 117) dX1_addBaskets_117 hf rfl ?_
    refine ev_lload (pc := 118) dX1_addBaskets_118 rfl ?_
    refine ev_lload (pc := 120) dX1_addBaskets_120 rfl ?_
    refine ev_lmul (pc := 122) dX1_addBaskets_122 ?_
    refine ev_ladd (pc := 123) dX1_addBaskets_123 ?_
    refine as_BK_check (pc := 124) dX1_addBaskets_124 hf ?_
    refine ev_aload_n (pc := 125) dX1_addBaskets_125 rfl ?_
    refine get_BK_beyond (pc := 126) dX1_addBaskets_126 Fl_X1_21 ?_
    refine ev_iload (pc := 129) dX1_addBaskets_129 rfl ?_
    refine ev_dup2 (pc := 131) dX1_addBaskets_131 rfl rfl ?_
    refine ld_BK_beyond (pc := 132) dX1_addBaskets_132 hf rfl ?_
    refine ev_lload (pc := 133) dX1_addBaskets_133 rfl ?_
    refine ev_lload (pc := 135) dX1_addBaskets_135 rfl ?_
    refine ev_lsub (pc := 137) dX1_addBaskets_137 ?_
    refine ev_lload (pc := 138) dX1_addBaskets_138 rfl ?_
    refine ev_lmul (pc := 140) dX1_addBaskets_140 ?_
    refine ev_ladd (pc := 141) dX1_addBaskets_141 ?_
    refine as_BK_beyond (pc := 142) dX1_addBaskets_142 hf ?_
    refine ev_aload_n (pc := 143) dX1_addBaskets_143 rfl ?_
    refine get_BK_weight (pc := 144) dX1_addBaskets_144 Fl_X1_9 ?_
    refine ev_iload (pc := 147) dX1_addBaskets_147 rfl ?_
    refine ev_dup2 (pc := 149) dX1_addBaskets_149 rfl rfl ?_
    refine ld_BK_weight (pc := 150) dX1_addBaskets_150 hf rfl ?_
    refine ev_lload (pc := 151) dX1_addBaskets_151 rfl ?_
    refine ev_ladd (pc := 153) dX1_addBaskets_153 ?_
    refine as_BK_weight (pc := 154) dX1_addBaskets_154 hf ?_
    refine ev_iincN (pc := 155) (lv' := [(0, .ref 17), (1, .ref 1), (2, .ref 9), (3, .ref 35), (4, .int _), (5, .int _), (6, .int _), (7, .long _), (9, .long _), (11, .long _)]) dX1_addBaskets_155 rfl (Nat.le_of_ble_eq_true rfl) rfl ?_
    refine ev_goto (pc := 158) (tgt := 3) dX1_addBaskets_158 (by decide) ?_
    exact ev_keep [0, 1, 2, 3, 4, 5] ih
  have step : ∀ (X : St) (k : Nat) (Post : Option Value → List va_E → Prop), k < nb → Bs X nf nc nb → Ev g mX1_addBaskets 3 [(0, .ref 17), (1, .ref 1), (2, .ref 9), (3, .ref 35), (4, .int day), (5, .int (nI (k + 1)))] [] (hC (baB 0 day k X)) Post → Ev g mX1_addBaskets 3 [(0, .ref 17), (1, .ref 1), (2, .ref 9), (3, .ref 35), (4, .int day), (5, .int (nI k))] [] (hC X) Post := by
    intro X k Post hk hB ih
    obtain ⟨-, -, -, -, hs, hc, -, hf, hg⟩ := hB
    unfold baB at ih
    refine ev_iload (pc := 3) dX1_addBaskets_3 rfl ?_
    refine ev_aload_n (pc := 5) dX1_addBaskets_5 rfl ?_
    refine get_K_size (pc := 6) dX1_addBaskets_6 Fl_X1_81 hs ?_
    refine ev_icmp_geN (pc := 9) (tgt := 161) (by omega) (by omega) dX1_addBaskets_9 (by decide) (fun c9 => absurd c9 (by omega)) (fun c9 => ?_)
    refine ev_aload_n (pc := 12) dX1_addBaskets_12 rfl ?_
    refine get_K_known (pc := 13) dX1_addBaskets_13 Fl_X1_84 ?_
    refine ev_iload (pc := 16) dX1_addBaskets_16 rfl ?_
    refine ldN_K_known (pc := 18) dX1_addBaskets_18 (by omega) rfl ?_
    refine ev_iload (pc := 19) dX1_addBaskets_19 rfl ?_
    refine ev_icmp_le (pc := 21) (tgt := 27) dX1_addBaskets_21 (by decide) (fun c21 => ?_) (fun c21 => ?_)
    · rw [if_pos c21] at ih
      refine ev_aload_n (pc := 27) dX1_addBaskets_27 rfl ?_
      refine get_K_farmer (pc := 28) dX1_addBaskets_28 Fl_X1_85 ?_
      refine ev_iload (pc := 31) dX1_addBaskets_31 rfl ?_
      refine ldN_K_farmer (pc := 33) dX1_addBaskets_33 (by omega) rfl ?_
      refine ev_istore (pc := 34) (lv' := [(0, .ref 17), (1, .ref 1), (2, .ref 9), (3, .ref 35), (4, .int _), (5, .int _), (6, .int _)]) dX1_addBaskets_34 (Nat.le_of_ble_eq_true rfl) rfl ?_
      refine ev_aload_n (pc := 36) dX1_addBaskets_36 rfl ?_
      refine get_K_weight (pc := 37) dX1_addBaskets_37 Fl_X1_86 ?_
      refine ev_iload (pc := 40) dX1_addBaskets_40 rfl ?_
      refine ldN_K_weight (pc := 42) dX1_addBaskets_42 (by omega) rfl ?_
      refine ev_i2l (pc := 43) dX1_addBaskets_43 ?_
      refine ev_lstore (pc := 44) (lv' := [(0, .ref 17), (1, .ref 1), (2, .ref 9), (3, .ref 35), (4, .int _), (5, .int _), (6, .int _), (7, .long _)]) dX1_addBaskets_44 (Nat.le_of_ble_eq_true rfl) rfl ?_
      refine ev_lload (pc := 46) dX1_addBaskets_46 rfl ?_
      refine ev_lstore (pc := 48) (lv' := [(0, .ref 17), (1, .ref 1), (2, .ref 9), (3, .ref 35), (4, .int _), (5, .int _), (6, .int _), (7, .long _), (9, .long _)]) dX1_addBaskets_48 (Nat.le_of_ble_eq_true rfl) rfl ?_
      refine ev_aload_n (pc := 50) dX1_addBaskets_50 rfl ?_
      refine get_T0_quota (pc := 51) dX1_addBaskets_51 Fl_X1_88 rfl ?_
      refine ev_iconst (pc := 54) (v := -1) dX1_addBaskets_54 (by decide) ?_
      refine ev_icmp_eq (pc := 55) (tgt := 95) dX1_addBaskets_55 (by decide) (fun c55 => ?_) (fun c55 => ?_)
      · refine ev_keep [0, 1, 2, 3, 4, 5, 6, 7, 9] ?_
        refine tail X k _ _ _ _ Post hk (by omega) (hf k hk) (hg k hk) rfl ?_
        unfold withF at ih
        first | (rw [if_pos (show X.1 (16 + 0) = -1 from c55)] at ih; exact ih) | (rw [if_neg (show ¬ X.1 (16 + 0) = -1 from c55)] at ih; exact ih)
      · refine ev_aload_n (pc := 58) dX1_addBaskets_58 rfl ?_
        refine get_T0_quota (pc := 59) dX1_addBaskets_59 Fl_X1_88 rfl ?_
        refine ev_i2l (pc := 62) dX1_addBaskets_62 ?_
        refine ev_aload_n (pc := 63) dX1_addBaskets_63 rfl ?_
        refine get_F_fields (pc := 64) dX1_addBaskets_64 Fl_X1_91 ?_
        refine ev_iload (pc := 67) dX1_addBaskets_67 rfl ?_
        refine ld_F_fields (pc := 69) dX1_addBaskets_69 (hf k hk) rfl ?_
        refine ev_i2l (pc := 70) dX1_addBaskets_70 ?_
        refine ev_lmul (pc := 71) dX1_addBaskets_71 ?_
        refine ev_aload_n (pc := 72) dX1_addBaskets_72 rfl ?_
        refine get_BK_weight (pc := 73) dX1_addBaskets_73 Fl_X1_9 ?_
        refine ev_iload (pc := 76) dX1_addBaskets_76 rfl ?_
        refine ld_BK_weight (pc := 78) dX1_addBaskets_78 (hf k hk) rfl ?_
        refine ev_lsub (pc := 79) dX1_addBaskets_79 ?_
        refine ev_lstore (pc := 80) (lv' := [(0, .ref 17), (1, .ref 1), (2, .ref 9), (3, .ref 35), (4, .int _), (5, .int _), (6, .int _), (7, .long _), (9, .long _), (11, .long _)]) dX1_addBaskets_80 (Nat.le_of_ble_eq_true rfl) rfl ?_
        refine ev_lconst (pc := 82) (v := 0) dX1_addBaskets_82 (by decide) ?_
        refine ev_lload (pc := 83) dX1_addBaskets_83 rfl ?_
        refine ev_lload (pc := 85) dX1_addBaskets_85 rfl ?_
        refine ev_mmin_long (pc := 87) dX1_addBaskets_87 Mx_X1_62 Mxs_minJ In_Math Mxc_minJ rfl rfl ?_
        refine ev_mmax_long (pc := 90) dX1_addBaskets_90 Mx_X1_94 Mxs_maxJ In_Math Mxc_maxJ rfl rfl ?_
        refine ev_lstore (pc := 93) (lv' := [(0, .ref 17), (1, .ref 1), (2, .ref 9), (3, .ref 35), (4, .int _), (5, .int _), (6, .int _), (7, .long _), (9, .long _), (11, .long _)]) dX1_addBaskets_93 (Nat.le_of_ble_eq_true rfl) rfl ?_
        refine ev_keep [0, 1, 2, 3, 4, 5, 6, 7, 9] ?_
        refine tail X k _ _ _ _ Post hk (by omega) (hf k hk) (hg k hk) rfl ?_
        unfold withF at ih
        first | (rw [if_pos (show X.1 (16 + 0) = -1 from c55)] at ih; exact ih) | (rw [if_neg (show ¬ X.1 (16 + 0) = -1 from c55)] at ih; exact ih)
    · rw [if_neg c21] at ih
      refine ev_goto (pc := 24) (tgt := 155) dX1_addBaskets_24 (by decide) ?_
      refine ev_iincN (pc := 155) (lv' := [(0, .ref 17), (1, .ref 1), (2, .ref 9), (3, .ref 35), (4, .int _), (5, .int _)]) dX1_addBaskets_155 rfl (Nat.le_of_ble_eq_true rfl) rfl ?_
      refine ev_goto (pc := 158) (tgt := 3) dX1_addBaskets_158 (by decide) ?_
      exact ih
  refine ct_of rfl rfl ?_
  refine ev_iconst (pc := 0) (v := nI 0) dX1_addBaskets_0 (by decide) ?_
  refine ev_istore (pc := 1) (lv' := [(0, .ref 17), (1, .ref 1), (2, .ref 9), (3, .ref 35), (4, .int _), (5, .int _)]) dX1_addBaskets_1 (Nat.le_of_ble_eq_true rfl) rfl ?_
  refine loop_up (P := fun k => Ev g mX1_addBaskets 3 [(0, .ref 17), (1, .ref 1), (2, .ref 9), (3, .ref 35), (4, .int day), (5, .int (nI k))] [] (hC (it (baB 0 day) k S)) (RV (it (baB 0 day) nb S))) nb ?_ ?_ 0 (Nat.zero_le _)
  · have hB := hB.eq (eqB.it (baB_eq 0 day) nb S)
    obtain ⟨-, -, -, -, hs, hc, -⟩ := hB
    refine ev_iload (pc := 3) dX1_addBaskets_3 rfl ?_
    refine ev_aload_n (pc := 5) dX1_addBaskets_5 rfl ?_
    refine get_K_size (pc := 6) dX1_addBaskets_6 Fl_X1_81 hs ?_
    refine ev_icmp_geN (pc := 9) (tgt := 161) (by omega) (by omega) dX1_addBaskets_9 (by decide) (fun c9 => ?_) (fun c9 => absurd (Nat.le_refl nb) c9)
    exact ev_ret (pc := 161) dX1_addBaskets_161 rfl rv
  · intro k hk ih
    exact step _ k _ hk (hB.eq (eqB.it (baB_eq 0 day) k S)) ih
theorem c_X1_addBaskets_1 {day : Int32} {nf nc nb : Nat} (hB : Bs S nf nc nb) : Ct g mX1_addBaskets [.ref 17, .ref 1, .ref 9, .ref 39, .int day] (hC S) (RV (it (baB 1 day) nb S)) := by
  have tail : ∀ (X : St) (k f : Nat) (fi : Int32) (w wi : Int64) (Post : Option Value → List va_E → Prop), k < nb → k < 300 → vp_in fi 40 → vp_in (X.2.1 8 k) 5 → fi.toNatClampNeg = f → Ev g mX1_addBaskets 3 [(0, .ref 17), (1, .ref 1), (2, .ref 9), (3, .ref 39), (4, .int day), (5, .int (nI (k + 1)))] [] (hC (baB3 f w wi (X.2.1 19 (X.2.1 8 k).toNatClampNeg).toInt64 (baB2 f w wi (X.2.1 19 (X.2.1 8 k).toNatClampNeg).toInt64 (baB1 f w wi (X.2.1 19 (X.2.1 8 k).toNatClampNeg).toInt64 X)))) Post → Ev g mX1_addBaskets 95 [(0, .ref 17), (1, .ref 1), (2, .ref 9), (3, .ref 39), (4, .int day), (5, .int (nI k)), (6, .int fi), (7, .long w), (9, .long wi)] [] (hC X) Post := by
    intro X k f fi w wi Post hk hk3 hf hg he ih
    subst he
    refine ev_aload_n (pc := 95) dX1_addBaskets_95 rfl ?_
    refine get_T1_price (pc := 96) dX1_addBaskets_96 Fl_X1_97 ?_
    refine ev_aload_n (pc := 99) dX1_addBaskets_99 rfl ?_
    refine get_K_grade (pc := 100) dX1_addBaskets_100 Fl_X1_100 ?_
    refine ev_iload (pc := 103) dX1_addBaskets_103 rfl ?_
    refine ldN_K_grade (pc := 105) dX1_addBaskets_105 (by omega) rfl ?_
    refine ld_T1_price (pc := 106) dX1_addBaskets_106 hg rfl ?_
    refine ev_i2l (pc := 107) dX1_addBaskets_107 ?_
    refine ev_lstore (pc := 108) (lv' := [(0, .ref 17), (1, .ref 1), (2, .ref 9), (3, .ref 39), (4, .int _), (5, .int _), (6, .int _), (7, .long _), (9, .long _), (11, .long _)]) dX1_addBaskets_108 (Nat.le_of_ble_eq_true rfl) rfl ?_
    refine ev_aload_n (pc := 110) dX1_addBaskets_110 rfl ?_
    refine get_BK_check (pc := 111) dX1_addBaskets_111 Fl_X1_18 ?_
    refine ev_iload (pc := 114) dX1_addBaskets_114 rfl ?_
    refine ev_dup2 (pc := 116) dX1_addBaskets_116 rfl rfl ?_
    refine ld_BK_check (pc := 117) dX1_addBaskets_117 hf rfl ?_
    refine ev_lload (pc := 118) dX1_addBaskets_118 rfl ?_
    refine ev_lload (pc := 120) dX1_addBaskets_120 rfl ?_
    refine ev_lmul (pc := 122) dX1_addBaskets_122 ?_
    refine ev_ladd (pc := 123) dX1_addBaskets_123 ?_
    refine as_BK_check (pc := 124) dX1_addBaskets_124 hf ?_
    refine ev_aload_n (pc := 125) dX1_addBaskets_125 rfl ?_
    refine get_BK_beyond (pc := 126) dX1_addBaskets_126 Fl_X1_21 ?_
    refine ev_iload (pc := 129) dX1_addBaskets_129 rfl ?_
    refine ev_dup2 (pc := 131) dX1_addBaskets_131 rfl rfl ?_
    refine ld_BK_beyond (pc := 132) dX1_addBaskets_132 hf rfl ?_
    refine ev_lload (pc := 133) dX1_addBaskets_133 rfl ?_
    refine ev_lload (pc := 135) dX1_addBaskets_135 rfl ?_
    refine ev_lsub (pc := 137) dX1_addBaskets_137 ?_
    refine ev_lload (pc := 138) dX1_addBaskets_138 rfl ?_
    refine ev_lmul (pc := 140) dX1_addBaskets_140 ?_
    refine ev_ladd (pc := 141) dX1_addBaskets_141 ?_
    refine as_BK_beyond (pc := 142) dX1_addBaskets_142 hf ?_
    refine ev_aload_n (pc := 143) dX1_addBaskets_143 rfl ?_
    refine get_BK_weight (pc := 144) dX1_addBaskets_144 Fl_X1_9 ?_
    refine ev_iload (pc := 147) dX1_addBaskets_147 rfl ?_
    refine ev_dup2 (pc := 149) dX1_addBaskets_149 rfl rfl ?_
    refine ld_BK_weight (pc := 150) dX1_addBaskets_150 hf rfl ?_
    refine ev_lload (pc := 151) dX1_addBaskets_151 rfl ?_
    refine ev_ladd (pc := 153) dX1_addBaskets_153 ?_
    refine as_BK_weight (pc := 154) dX1_addBaskets_154 hf ?_
    refine ev_iincN (pc := 155) (lv' := [(0, .ref 17), (1, .ref 1), (2, .ref 9), (3, .ref 39), (4, .int _), (5, .int _), (6, .int _), (7, .long _), (9, .long _), (11, .long _)]) dX1_addBaskets_155 rfl (Nat.le_of_ble_eq_true rfl) rfl ?_
    refine ev_goto (pc := 158) (tgt := 3) dX1_addBaskets_158 (by decide) ?_
    exact ev_keep [0, 1, 2, 3, 4, 5] ih
  have step : ∀ (X : St) (k : Nat) (Post : Option Value → List va_E → Prop), k < nb → Bs X nf nc nb → Ev g mX1_addBaskets 3 [(0, .ref 17), (1, .ref 1), (2, .ref 9), (3, .ref 39), (4, .int day), (5, .int (nI (k + 1)))] [] (hC (baB 1 day k X)) Post → Ev g mX1_addBaskets 3 [(0, .ref 17), (1, .ref 1), (2, .ref 9), (3, .ref 39), (4, .int day), (5, .int (nI k))] [] (hC X) Post := by
    intro X k Post hk hB ih
    obtain ⟨-, -, -, -, hs, hc, -, hf, hg⟩ := hB
    unfold baB at ih
    refine ev_iload (pc := 3) dX1_addBaskets_3 rfl ?_
    refine ev_aload_n (pc := 5) dX1_addBaskets_5 rfl ?_
    refine get_K_size (pc := 6) dX1_addBaskets_6 Fl_X1_81 hs ?_
    refine ev_icmp_geN (pc := 9) (tgt := 161) (by omega) (by omega) dX1_addBaskets_9 (by decide) (fun c9 => absurd c9 (by omega)) (fun c9 => ?_)
    refine ev_aload_n (pc := 12) dX1_addBaskets_12 rfl ?_
    refine get_K_known (pc := 13) dX1_addBaskets_13 Fl_X1_84 ?_
    refine ev_iload (pc := 16) dX1_addBaskets_16 rfl ?_
    refine ldN_K_known (pc := 18) dX1_addBaskets_18 (by omega) rfl ?_
    refine ev_iload (pc := 19) dX1_addBaskets_19 rfl ?_
    refine ev_icmp_le (pc := 21) (tgt := 27) dX1_addBaskets_21 (by decide) (fun c21 => ?_) (fun c21 => ?_)
    · rw [if_pos c21] at ih
      refine ev_aload_n (pc := 27) dX1_addBaskets_27 rfl ?_
      refine get_K_farmer (pc := 28) dX1_addBaskets_28 Fl_X1_85 ?_
      refine ev_iload (pc := 31) dX1_addBaskets_31 rfl ?_
      refine ldN_K_farmer (pc := 33) dX1_addBaskets_33 (by omega) rfl ?_
      refine ev_istore (pc := 34) (lv' := [(0, .ref 17), (1, .ref 1), (2, .ref 9), (3, .ref 39), (4, .int _), (5, .int _), (6, .int _)]) dX1_addBaskets_34 (Nat.le_of_ble_eq_true rfl) rfl ?_
      refine ev_aload_n (pc := 36) dX1_addBaskets_36 rfl ?_
      refine get_K_weight (pc := 37) dX1_addBaskets_37 Fl_X1_86 ?_
      refine ev_iload (pc := 40) dX1_addBaskets_40 rfl ?_
      refine ldN_K_weight (pc := 42) dX1_addBaskets_42 (by omega) rfl ?_
      refine ev_i2l (pc := 43) dX1_addBaskets_43 ?_
      refine ev_lstore (pc := 44) (lv' := [(0, .ref 17), (1, .ref 1), (2, .ref 9), (3, .ref 39), (4, .int _), (5, .int _), (6, .int _), (7, .long _)]) dX1_addBaskets_44 (Nat.le_of_ble_eq_true rfl) rfl ?_
      refine ev_lload (pc := 46) dX1_addBaskets_46 rfl ?_
      refine ev_lstore (pc := 48) (lv' := [(0, .ref 17), (1, .ref 1), (2, .ref 9), (3, .ref 39), (4, .int _), (5, .int _), (6, .int _), (7, .long _), (9, .long _)]) dX1_addBaskets_48 (Nat.le_of_ble_eq_true rfl) rfl ?_
      refine ev_aload_n (pc := 50) dX1_addBaskets_50 rfl ?_
      refine get_T1_quota (pc := 51) dX1_addBaskets_51 Fl_X1_88 rfl ?_
      refine ev_iconst (pc := 54) (v := -1) dX1_addBaskets_54 (by decide) ?_
      refine ev_icmp_eq (pc := 55) (tgt := 95) dX1_addBaskets_55 (by decide) (fun c55 => ?_) (fun c55 => ?_)
      · refine ev_keep [0, 1, 2, 3, 4, 5, 6, 7, 9] ?_
        refine tail X k _ _ _ _ Post hk (by omega) (hf k hk) (hg k hk) rfl ?_
        unfold withF at ih
        first | (rw [if_pos (show X.1 (16 + 1) = -1 from c55)] at ih; exact ih) | (rw [if_neg (show ¬ X.1 (16 + 1) = -1 from c55)] at ih; exact ih)
      · refine ev_aload_n (pc := 58) dX1_addBaskets_58 rfl ?_
        refine get_T1_quota (pc := 59) dX1_addBaskets_59 Fl_X1_88 rfl ?_
        refine ev_i2l (pc := 62) dX1_addBaskets_62 ?_
        refine ev_aload_n (pc := 63) dX1_addBaskets_63 rfl ?_
        refine get_F_fields (pc := 64) dX1_addBaskets_64 Fl_X1_91 ?_
        refine ev_iload (pc := 67) dX1_addBaskets_67 rfl ?_
        refine ld_F_fields (pc := 69) dX1_addBaskets_69 (hf k hk) rfl ?_
        refine ev_i2l (pc := 70) dX1_addBaskets_70 ?_
        refine ev_lmul (pc := 71) dX1_addBaskets_71 ?_
        refine ev_aload_n (pc := 72) dX1_addBaskets_72 rfl ?_
        refine get_BK_weight (pc := 73) dX1_addBaskets_73 Fl_X1_9 ?_
        refine ev_iload (pc := 76) dX1_addBaskets_76 rfl ?_
        refine ld_BK_weight (pc := 78) dX1_addBaskets_78 (hf k hk) rfl ?_
        refine ev_lsub (pc := 79) dX1_addBaskets_79 ?_
        refine ev_lstore (pc := 80) (lv' := [(0, .ref 17), (1, .ref 1), (2, .ref 9), (3, .ref 39), (4, .int _), (5, .int _), (6, .int _), (7, .long _), (9, .long _), (11, .long _)]) dX1_addBaskets_80 (Nat.le_of_ble_eq_true rfl) rfl ?_
        refine ev_lconst (pc := 82) (v := 0) dX1_addBaskets_82 (by decide) ?_
        refine ev_lload (pc := 83) dX1_addBaskets_83 rfl ?_
        refine ev_lload (pc := 85) dX1_addBaskets_85 rfl ?_
        refine ev_mmin_long (pc := 87) dX1_addBaskets_87 Mx_X1_62 Mxs_minJ In_Math Mxc_minJ rfl rfl ?_
        refine ev_mmax_long (pc := 90) dX1_addBaskets_90 Mx_X1_94 Mxs_maxJ In_Math Mxc_maxJ rfl rfl ?_
        refine ev_lstore (pc := 93) (lv' := [(0, .ref 17), (1, .ref 1), (2, .ref 9), (3, .ref 39), (4, .int _), (5, .int _), (6, .int _), (7, .long _), (9, .long _), (11, .long _)]) dX1_addBaskets_93 (Nat.le_of_ble_eq_true rfl) rfl ?_
        refine ev_keep [0, 1, 2, 3, 4, 5, 6, 7, 9] ?_
        refine tail X k _ _ _ _ Post hk (by omega) (hf k hk) (hg k hk) rfl ?_
        unfold withF at ih
        first | (rw [if_pos (show X.1 (16 + 1) = -1 from c55)] at ih; exact ih) | (rw [if_neg (show ¬ X.1 (16 + 1) = -1 from c55)] at ih; exact ih)
    · rw [if_neg c21] at ih
      refine ev_goto (pc := 24) (tgt := 155) dX1_addBaskets_24 (by decide) ?_
      refine ev_iincN (pc := 155) (lv' := [(0, .ref 17), (1, .ref 1), (2, .ref 9), (3, .ref 39), (4, .int _), (5, .int _)]) dX1_addBaskets_155 rfl (Nat.le_of_ble_eq_true rfl) rfl ?_
      refine ev_goto (pc := 158) (tgt := 3) dX1_addBaskets_158 (by decide) ?_
      exact ih
  refine ct_of rfl rfl ?_
  refine ev_iconst (pc := 0) (v := nI 0) dX1_addBaskets_0 (by decide) ?_
  refine ev_istore (pc := 1) (lv' := [(0, .ref 17), (1, .ref 1), (2, .ref 9), (3, .ref 39), (4, .int _), (5, .int _)]) dX1_addBaskets_1 (Nat.le_of_ble_eq_true rfl) rfl ?_
  refine loop_up (P := fun k => Ev g mX1_addBaskets 3 [(0, .ref 17), (1, .ref 1), (2, .ref 9), (3, .ref 39), (4, .int day), (5, .int (nI k))] [] (hC (it (baB 1 day) k S)) (RV (it (baB 1 day) nb S))) nb ?_ ?_ 0 (Nat.zero_le _)
  · have hB := hB.eq (eqB.it (baB_eq 1 day) nb S)
    obtain ⟨-, -, -, -, hs, hc, -⟩ := hB
    refine ev_iload (pc := 3) dX1_addBaskets_3 rfl ?_
    refine ev_aload_n (pc := 5) dX1_addBaskets_5 rfl ?_
    refine get_K_size (pc := 6) dX1_addBaskets_6 Fl_X1_81 hs ?_
    refine ev_icmp_geN (pc := 9) (tgt := 161) (by omega) (by omega) dX1_addBaskets_9 (by decide) (fun c9 => ?_) (fun c9 => absurd (Nat.le_refl nb) c9)
    exact ev_ret (pc := 161) dX1_addBaskets_161 rfl rv
  · intro k hk ih
    exact step _ k _ hk (hB.eq (eqB.it (baB_eq 1 day) k S)) ih
end BK
end
section
section BK2
variable {g : GG} {S : St}
theorem it_0 {σ : Type} (f : Nat → σ → σ) (s : σ) : it f 0 s = s := rfl
def drB (b : Nat) (k : Nat) (X : St) : St :=
  let Y := setB X 2 (vp_updL (X.2.2.2.1 2) k (X.2.2.2.1 2 k + shareF X b 0 (X.2.2.2.1 3 k)))
  setB Y 4 (vp_updL (Y.2.2.2.1 4) k (if Y.2.2.2.1 1 k < shareF Y b 1 (Y.2.2.2.1 2 k) then Y.2.2.2.1 1 k else shareF Y b 1 (Y.2.2.2.1 2 k)))
theorem drB_eq (b k : Nat) (X : St) : eqB (drB b k X) X := eqB.rf
def clearS (S : St) : St :=
  let X1 := setB S 0 (fillF 40 0 (S.2.2.2.1 0))
  let X2 := setB X1 1 (fillF 40 0 (X1.2.2.2.1 1))
  let X3 := setB X2 2 (fillF 40 0 (X2.2.2.2.1 2))
  setB X3 3 (fillF 40 0 (X3.2.2.2.1 3))
theorem clearS_eq (S : St) : eqB (clearS S) S := eqB.rf
def drawS (b : Nat) (day : Int32) (nf nc nb : Nat) (S : St) : St := it (drB b) nf (it (baB b day) nb (it (crB day) nc (clearS S)))
theorem drawS_eq (b : Nat) (day : Int32) (nf nc nb : Nat) (S : St) : eqB (drawS b day nf nc nb S) S := (eqB.it (drB_eq b) nf _).tr ((eqB.it (baB_eq b day) nb _).tr ((eqB.it (crB_eq day) nc _).tr (clearS_eq S)))
theorem draw_step_0 {day : Int32} {nf nc nb : Nat} (X : St) (k : Nat) (Post : Option Value → List va_E → Prop) (hk : k < nf) (hB : Bs X nf nc nb) (ih : Ev g mX1_draw 52 [(0, .ref 17), (1, .ref 1), (2, .ref 5), (3, .ref 9), (4, .ref 35), (5, .int day), (6, .int (nI (k + 1)))] [] (hC (drB 0 k X)) Post) : Ev g mX1_draw 52 [(0, .ref 17), (1, .ref 1), (2, .ref 5), (3, .ref 9), (4, .ref 35), (5, .int day), (6, .int (nI k))] [] (hC X) Post := by
  obtain ⟨hs, hc, -⟩ := hB
  refine ev_iload (pc := 52) dX1_draw_52 rfl ?_
  refine ev_aload_n (pc := 54) dX1_draw_54 rfl ?_
  refine get_F_size (pc := 55) dX1_draw_55 Fl_X1_50 hs ?_
  refine ev_icmp_geN (pc := 58) (tgt := 120) (by omega) (by omega) dX1_draw_58 (by decide) (fun c58 => absurd c58 (by omega)) (fun c58 => ?_)
  refine ev_aload_n (pc := 61) dX1_draw_61 rfl ?_
  refine get_BK_check (pc := 62) dX1_draw_62 Fl_X1_18 ?_
  refine ev_iload (pc := 65) dX1_draw_65 rfl ?_
  refine ev_dup2 (pc := 67) dX1_draw_67 rfl rfl ?_
  refine ldN_BK_check (pc := 68) dX1_draw_68 (by omega) rfl ?_
  refine ev_aload (pc := 69) dX1_draw_69 rfl ?_
  refine ev_iconst (pc := 71) (v := nI 0) dX1_draw_71 (by decide) ?_
  refine ev_aload_n (pc := 72) dX1_draw_72 rfl ?_
  refine get_BK_beyond (pc := 73) dX1_draw_73 Fl_X1_21 ?_
  refine ev_iload (pc := 76) dX1_draw_76 rfl ?_
  refine ldN_BK_beyond (pc := 78) dX1_draw_78 (by omega) rfl ?_
  refine callV2L (pc := 79) dX1_draw_79 Ml_X1_58 M_X8_shareOf rfl rfl rfl rfl (c_X8_shareOf_0 (by decide)) ?_
  refine ev_ladd (pc := 82) dX1_draw_82 ?_
  refine asN_BK_check (pc := 83) dX1_draw_83 (by omega) ?_
  refine ev_aload_n (pc := 84) dX1_draw_84 rfl ?_
  refine get_BK_off (pc := 85) dX1_draw_85 Fl_X1_24 ?_
  refine ev_iload (pc := 88) dX1_draw_88 rfl ?_
  refine ev_aload (pc := 90) dX1_draw_90 rfl ?_
  refine ev_iconst (pc := 92) (v := nI 1) dX1_draw_92 (by decide) ?_
  refine ev_aload_n (pc := 93) dX1_draw_93 rfl ?_
  refine get_BK_check (pc := 94) dX1_draw_94 Fl_X1_18 ?_
  refine ev_iload (pc := 97) dX1_draw_97 rfl ?_
  refine ldN_BK_check (pc := 99) dX1_draw_99 (by omega) rfl ?_
  refine callV2L (pc := 100) dX1_draw_100 Ml_X1_58 M_X8_shareOf rfl rfl rfl rfl (c_X8_shareOf_0 (by decide)) ?_
  refine ev_aload_n (pc := 103) dX1_draw_103 rfl ?_
  refine get_BK_lent (pc := 104) dX1_draw_104 Fl_X1_15 ?_
  refine ev_iload (pc := 107) dX1_draw_107 rfl ?_
  refine ldN_BK_lent (pc := 109) dX1_draw_109 (by omega) rfl ?_
  refine ev_mmin_long (pc := 110) dX1_draw_110 Mx_X1_62 Mxs_minJ In_Math Mxc_minJ rfl rfl ?_
  refine asN_BK_off (pc := 113) dX1_draw_113 (by omega) ?_
  refine ev_iincN (pc := 114) (lv' := [(0, .ref 17), (1, .ref 1), (2, .ref 5), (3, .ref 9), (4, .ref 35), (5, .int _), (6, .int _)]) dX1_draw_114 rfl (Nat.le_of_ble_eq_true rfl) rfl ?_
  refine ev_goto (pc := 117) (tgt := 52) dX1_draw_117 (by decide) ?_
  exact ih
theorem draw_loop_0 {day : Int32} {nf nc nb : Nat} (hB : Bs S nf nc nb) (k : Nat) (hk : k ≤ nf) : Ev g mX1_draw 52 [(0, .ref 17), (1, .ref 1), (2, .ref 5), (3, .ref 9), (4, .ref 35), (5, .int day), (6, .int (nI k))] [] (hC (it (drB 0) k S)) (RV (it (drB 0) nf S)) := by
  revert k
  refine loop_up nf ?_ ?_
  · have hB := hB.eq (eqB.it (drB_eq 0) nf S)
    obtain ⟨hs, hc, -⟩ := hB
    refine ev_iload (pc := 52) dX1_draw_52 rfl ?_
    refine ev_aload_n (pc := 54) dX1_draw_54 rfl ?_
    refine get_F_size (pc := 55) dX1_draw_55 Fl_X1_50 hs ?_
    refine ev_icmp_geN (pc := 58) (tgt := 120) (by omega) (by omega) dX1_draw_58 (by decide) (fun c58 => ?_) (fun c58 => absurd (Nat.le_refl nf) c58)
    exact ev_ret (pc := 120) dX1_draw_120 rfl rv
  · intro k hk ih
    exact draw_step_0 _ k _ hk (hB.eq (eqB.it (drB_eq 0) k S)) ih
theorem draw_a_0 {day : Int32} {nf nc nb : Nat} (hB : Bs S nf nc nb) {Post : Option Value → List va_E → Prop} (k : Ev g mX1_draw 32 [(0, .ref 17), (1, .ref 1), (2, .ref 5), (3, .ref 9), (4, .ref 35), (5, .int day)] [] (hC (clearS S)) Post) : Ev g mX1_draw 0 [(0, .ref 17), (1, .ref 1), (2, .ref 5), (3, .ref 9), (4, .ref 35), (5, .int day)] [] (hC S) Post := by
  refine ev_aload_n (pc := 0) dX1_draw_0 rfl ?_
  refine get_BK_weight (pc := 1) dX1_draw_1 Fl_X1_9 ?_
  refine ev_lconst (pc := 4) (v := 0) dX1_draw_4 (by decide) ?_
  refine callS2V (pc := 5) dX1_draw_5 Ml_X1_36 M_J7_fill_d0a16 rfl rfl c_fill_BK_weight ?_
  refine ev_aload_n (pc := 8) dX1_draw_8 rfl ?_
  refine get_BK_lent (pc := 9) dX1_draw_9 Fl_X1_15 ?_
  refine ev_lconst (pc := 12) (v := 0) dX1_draw_12 (by decide) ?_
  refine callS2V (pc := 13) dX1_draw_13 Ml_X1_36 M_J7_fill_d0a16 rfl rfl c_fill_BK_lent ?_
  refine ev_aload_n (pc := 16) dX1_draw_16 rfl ?_
  refine get_BK_check (pc := 17) dX1_draw_17 Fl_X1_18 ?_
  refine ev_lconst (pc := 20) (v := 0) dX1_draw_20 (by decide) ?_
  refine callS2V (pc := 21) dX1_draw_21 Ml_X1_36 M_J7_fill_d0a16 rfl rfl c_fill_BK_check ?_
  refine ev_aload_n (pc := 24) dX1_draw_24 rfl ?_
  refine get_BK_beyond (pc := 25) dX1_draw_25 Fl_X1_21 ?_
  refine ev_lconst (pc := 28) (v := 0) dX1_draw_28 (by decide) ?_
  refine callS2V (pc := 29) dX1_draw_29 Ml_X1_36 M_J7_fill_d0a16 rfl rfl c_fill_BK_beyond ?_
  exact k
theorem c_X1_draw_0 {day : Int32} {nf nc nb : Nat} (hB : Bs S nf nc nb) : Ct g mX1_draw [.ref 17, .ref 1, .ref 5, .ref 9, .ref 35, .int day] (hC S) (RV (drawS 0 day nf nc nb S)) := by
  refine ct_of rfl rfl ?_
  refine draw_a_0 hB ?_
  have hB := hB.eq (clearS_eq S)
  unfold drawS
  generalize clearS S = S1 at *
  refine ev_aload_n (pc := 32) dX1_draw_32 rfl ?_
  refine ev_aload_n (pc := 33) dX1_draw_33 rfl ?_
  refine ev_iload (pc := 34) dX1_draw_34 rfl ?_
  refine callV2V (pc := 36) dX1_draw_36 Ml_X1_42 M_X1_addCredits rfl rfl rfl rfl (c_X1_addCredits hB) ?_
  refine ev_aload_n (pc := 39) dX1_draw_39 rfl ?_
  refine ev_aload_n (pc := 40) dX1_draw_40 rfl ?_
  refine ev_aload_n (pc := 41) dX1_draw_41 rfl ?_
  refine ev_aload (pc := 42) dX1_draw_42 rfl ?_
  refine ev_iload (pc := 44) dX1_draw_44 rfl ?_
  refine callV4V (pc := 46) dX1_draw_46 Ml_X1_46 M_X1_addBaskets rfl rfl rfl rfl (c_X1_addBaskets_0 (hB.eq (eqB.it (crB_eq day) nc _))) ?_
  refine ev_iconst (pc := 49) (v := nI 0) dX1_draw_49 (by decide) ?_
  refine ev_istore (pc := 50) (lv' := [(0, .ref 17), (1, .ref 1), (2, .ref 5), (3, .ref 9), (4, .ref 35), (5, .int _), (6, .int _)]) dX1_draw_50 (Nat.le_of_ble_eq_true rfl) rfl ?_
  have h := draw_loop_0 (g := g) (day := day) (hB.eq ((eqB.it (baB_eq 0 day) nb _).tr (eqB.it (crB_eq day) nc _))) 0 (Nat.zero_le _)
  rw [it_0] at h
  exact h
theorem draw_step_1 {day : Int32} {nf nc nb : Nat} (X : St) (k : Nat) (Post : Option Value → List va_E → Prop) (hk : k < nf) (hB : Bs X nf nc nb) (ih : Ev g mX1_draw 52 [(0, .ref 17), (1, .ref 1), (2, .ref 5), (3, .ref 9), (4, .ref 39), (5, .int day), (6, .int (nI (k + 1)))] [] (hC (drB 1 k X)) Post) : Ev g mX1_draw 52 [(0, .ref 17), (1, .ref 1), (2, .ref 5), (3, .ref 9), (4, .ref 39), (5, .int day), (6, .int (nI k))] [] (hC X) Post := by
  obtain ⟨hs, hc, -⟩ := hB
  refine ev_iload (pc := 52) dX1_draw_52 rfl ?_
  refine ev_aload_n (pc := 54) dX1_draw_54 rfl ?_
  refine get_F_size (pc := 55) dX1_draw_55 Fl_X1_50 hs ?_
  refine ev_icmp_geN (pc := 58) (tgt := 120) (by omega) (by omega) dX1_draw_58 (by decide) (fun c58 => absurd c58 (by omega)) (fun c58 => ?_)
  refine ev_aload_n (pc := 61) dX1_draw_61 rfl ?_
  refine get_BK_check (pc := 62) dX1_draw_62 Fl_X1_18 ?_
  refine ev_iload (pc := 65) dX1_draw_65 rfl ?_
  refine ev_dup2 (pc := 67) dX1_draw_67 rfl rfl ?_
  refine ldN_BK_check (pc := 68) dX1_draw_68 (by omega) rfl ?_
  refine ev_aload (pc := 69) dX1_draw_69 rfl ?_
  refine ev_iconst (pc := 71) (v := nI 0) dX1_draw_71 (by decide) ?_
  refine ev_aload_n (pc := 72) dX1_draw_72 rfl ?_
  refine get_BK_beyond (pc := 73) dX1_draw_73 Fl_X1_21 ?_
  refine ev_iload (pc := 76) dX1_draw_76 rfl ?_
  refine ldN_BK_beyond (pc := 78) dX1_draw_78 (by omega) rfl ?_
  refine callV2L (pc := 79) dX1_draw_79 Ml_X1_58 M_X8_shareOf rfl rfl rfl rfl (c_X8_shareOf_1 (by decide)) ?_
  refine ev_ladd (pc := 82) dX1_draw_82 ?_
  refine asN_BK_check (pc := 83) dX1_draw_83 (by omega) ?_
  refine ev_aload_n (pc := 84) dX1_draw_84 rfl ?_
  refine get_BK_off (pc := 85) dX1_draw_85 Fl_X1_24 ?_
  refine ev_iload (pc := 88) dX1_draw_88 rfl ?_
  refine ev_aload (pc := 90) dX1_draw_90 rfl ?_
  refine ev_iconst (pc := 92) (v := nI 1) dX1_draw_92 (by decide) ?_
  refine ev_aload_n (pc := 93) dX1_draw_93 rfl ?_
  refine get_BK_check (pc := 94) dX1_draw_94 Fl_X1_18 ?_
  refine ev_iload (pc := 97) dX1_draw_97 rfl ?_
  refine ldN_BK_check (pc := 99) dX1_draw_99 (by omega) rfl ?_
  refine callV2L (pc := 100) dX1_draw_100 Ml_X1_58 M_X8_shareOf rfl rfl rfl rfl (c_X8_shareOf_1 (by decide)) ?_
  refine ev_aload_n (pc := 103) dX1_draw_103 rfl ?_
  refine get_BK_lent (pc := 104) dX1_draw_104 Fl_X1_15 ?_
  refine ev_iload (pc := 107) dX1_draw_107 rfl ?_
  refine ldN_BK_lent (pc := 109) dX1_draw_109 (by omega) rfl ?_
  refine ev_mmin_long (pc := 110) dX1_draw_110 Mx_X1_62 Mxs_minJ In_Math Mxc_minJ rfl rfl ?_
  refine asN_BK_off (pc := 113) dX1_draw_113 (by omega) ?_
  refine ev_iincN (pc := 114) (lv' := [(0, .ref 17), (1, .ref 1), (2, .ref 5), (3, .ref 9), (4, .ref 39), (5, .int _), (6, .int _)]) dX1_draw_114 rfl (Nat.le_of_ble_eq_true rfl) rfl ?_
  refine ev_goto (pc := 117) (tgt := 52) dX1_draw_117 (by decide) ?_
  exact ih
theorem draw_loop_1 {day : Int32} {nf nc nb : Nat} (hB : Bs S nf nc nb) (k : Nat) (hk : k ≤ nf) : Ev g mX1_draw 52 [(0, .ref 17), (1, .ref 1), (2, .ref 5), (3, .ref 9), (4, .ref 39), (5, .int day), (6, .int (nI k))] [] (hC (it (drB 1) k S)) (RV (it (drB 1) nf S)) := by
  revert k
  refine loop_up nf ?_ ?_
  · have hB := hB.eq (eqB.it (drB_eq 1) nf S)
    obtain ⟨hs, hc, -⟩ := hB
    refine ev_iload (pc := 52) dX1_draw_52 rfl ?_
    refine ev_aload_n (pc := 54) dX1_draw_54 rfl ?_
    refine get_F_size (pc := 55) dX1_draw_55 Fl_X1_50 hs ?_
    refine ev_icmp_geN (pc := 58) (tgt := 120) (by omega) (by omega) dX1_draw_58 (by decide) (fun c58 => ?_) (fun c58 => absurd (Nat.le_refl nf) c58)
    exact ev_ret (pc := 120) dX1_draw_120 rfl rv
  · intro k hk ih
    exact draw_step_1 _ k _ hk (hB.eq (eqB.it (drB_eq 1) k S)) ih
theorem draw_a_1 {day : Int32} {nf nc nb : Nat} (hB : Bs S nf nc nb) {Post : Option Value → List va_E → Prop} (k : Ev g mX1_draw 32 [(0, .ref 17), (1, .ref 1), (2, .ref 5), (3, .ref 9), (4, .ref 39), (5, .int day)] [] (hC (clearS S)) Post) : Ev g mX1_draw 0 [(0, .ref 17), (1, .ref 1), (2, .ref 5), (3, .ref 9), (4, .ref 39), (5, .int day)] [] (hC S) Post := by
  refine ev_aload_n (pc := 0) dX1_draw_0 rfl ?_
  refine get_BK_weight (pc := 1) dX1_draw_1 Fl_X1_9 ?_
  refine ev_lconst (pc := 4) (v := 0) dX1_draw_4 (by decide) ?_
  refine callS2V (pc := 5) dX1_draw_5 Ml_X1_36 M_J7_fill_d0a16 rfl rfl c_fill_BK_weight ?_
  refine ev_aload_n (pc := 8) dX1_draw_8 rfl ?_
  refine get_BK_lent (pc := 9) dX1_draw_9 Fl_X1_15 ?_
  refine ev_lconst (pc := 12) (v := 0) dX1_draw_12 (by decide) ?_
  refine callS2V (pc := 13) dX1_draw_13 Ml_X1_36 M_J7_fill_d0a16 rfl rfl c_fill_BK_lent ?_
  refine ev_aload_n (pc := 16) dX1_draw_16 rfl ?_
  refine get_BK_check (pc := 17) dX1_draw_17 Fl_X1_18 ?_
  refine ev_lconst (pc := 20) (v := 0) dX1_draw_20 (by decide) ?_
  refine callS2V (pc := 21) dX1_draw_21 Ml_X1_36 M_J7_fill_d0a16 rfl rfl c_fill_BK_check ?_
  refine ev_aload_n (pc := 24) dX1_draw_24 rfl ?_
  refine get_BK_beyond (pc := 25) dX1_draw_25 Fl_X1_21 ?_
  refine ev_lconst (pc := 28) (v := 0) dX1_draw_28 (by decide) ?_
  refine callS2V (pc := 29) dX1_draw_29 Ml_X1_36 M_J7_fill_d0a16 rfl rfl c_fill_BK_beyond ?_
  exact k
theorem c_X1_draw_1 {day : Int32} {nf nc nb : Nat} (hB : Bs S nf nc nb) : Ct g mX1_draw [.ref 17, .ref 1, .ref 5, .ref 9, .ref 39, .int day] (hC S) (RV (drawS 1 day nf nc nb S)) := by
  refine ct_of rfl rfl ?_
  refine draw_a_1 hB ?_
  have hB := hB.eq (clearS_eq S)
  unfold drawS
  generalize clearS S = S1 at *
  refine ev_aload_n (pc := 32) dX1_draw_32 rfl ?_
  refine ev_aload_n (pc := 33) dX1_draw_33 rfl ?_
  refine ev_iload (pc := 34) dX1_draw_34 rfl ?_
  refine callV2V (pc := 36) dX1_draw_36 Ml_X1_42 M_X1_addCredits rfl rfl rfl rfl (c_X1_addCredits hB) ?_
  refine ev_aload_n (pc := 39) dX1_draw_39 rfl ?_
  refine ev_aload_n (pc := 40) dX1_draw_40 rfl ?_
  refine ev_aload_n (pc := 41) dX1_draw_41 rfl ?_
  refine ev_aload (pc := 42) dX1_draw_42 rfl ?_
  refine ev_iload (pc := 44) dX1_draw_44 rfl ?_
  refine callV4V (pc := 46) dX1_draw_46 Ml_X1_46 M_X1_addBaskets rfl rfl rfl rfl (c_X1_addBaskets_1 (hB.eq (eqB.it (crB_eq day) nc _))) ?_
  refine ev_iconst (pc := 49) (v := nI 0) dX1_draw_49 (by decide) ?_
  refine ev_istore (pc := 50) (lv' := [(0, .ref 17), (1, .ref 1), (2, .ref 5), (3, .ref 9), (4, .ref 39), (5, .int _), (6, .int _)]) dX1_draw_50 (Nat.le_of_ble_eq_true rfl) rfl ?_
  have h := draw_loop_1 (g := g) (day := day) (hB.eq ((eqB.it (baB_eq 1 day) nb _).tr (eqB.it (crB_eq day) nc _))) 0 (Nat.zero_le _)
  rw [it_0] at h
  exact h
/-- the sum of what each gives at a level -/
def sumAt (ab : Nat → Int64) (lv : Int64) : Nat → Int64
  | 0 => 0
  | k + 1 => sumAt ab lv k + (if ab k < lv then ab k else lv)
theorem c_X1_sumAtLevel {lv : Int64} {n : Nat} (hn : n ≤ 40) : Ct g mX1_sumAtLevel [.ref 17, .long lv, .int (nI n)] (hC S) (RJl (sumAt (S.2.2.2.1 5) lv n) S) := by
  refine ct_of rfl rfl ?_
  refine ev_lconst (pc := 0) (v := 0) dX1_sumAtLevel_0 (by decide) ?_
  refine ev_lstore (pc := 1) (lv' := [(0, .ref 17), (1, .long _), (3, .int _), (4, .long _)]) dX1_sumAtLevel_1 (Nat.le_of_ble_eq_true rfl) rfl ?_
  refine ev_iconst (pc := 3) (v := nI 0) dX1_sumAtLevel_3 (by decide) ?_
  refine ev_istore (pc := 4) (lv' := [(0, .ref 17), (1, .long _), (3, .int _), (4, .long _), (6, .int _)]) dX1_sumAtLevel_4 (Nat.le_of_ble_eq_true rfl) rfl ?_
  refine loop_up (P := fun k => Ev g mX1_sumAtLevel 6 [(0, .ref 17), (1, .long lv), (3, .int (nI n)), (4, .long (sumAt (S.2.2.2.1 5) lv k)), (6, .int (nI k))] [] (hC S) (RJl (sumAt (S.2.2.2.1 5) lv n) S)) n ?_ ?_ 0 (Nat.zero_le _)
  · skip
    refine ev_iload (pc := 6) dX1_sumAtLevel_6 rfl ?_
    refine ev_iload_n (pc := 8) dX1_sumAtLevel_8 rfl ?_
    refine ev_icmp_geN (pc := 9) (tgt := 34) (by omega) (by omega) dX1_sumAtLevel_9 (by decide) (fun c9 => ?_) (fun c9 => absurd (Nat.le_refl n) c9)
    refine ev_lload (pc := 34) dX1_sumAtLevel_34 rfl ?_
    exact ev_lret (pc := 36) dX1_sumAtLevel_36 rfl rl
  · intro k hk ih
    refine ev_iload (pc := 6) dX1_sumAtLevel_6 rfl ?_
    refine ev_iload_n (pc := 8) dX1_sumAtLevel_8 rfl ?_
    refine ev_icmp_geN (pc := 9) (tgt := 34) (by omega) (by omega) dX1_sumAtLevel_9 (by decide) (fun c9 => absurd c9 (by omega)) (fun c9 => ?_)
    refine ev_lload (pc := 12) dX1_sumAtLevel_12 rfl ?_
    refine ev_lload_n (pc := 14) dX1_sumAtLevel_14 rfl ?_
    refine ev_aload_n (pc := 15) dX1_sumAtLevel_15 rfl ?_
    refine get_BK_able (pc := 16) dX1_sumAtLevel_16 Fl_X1_27 ?_
    refine ev_iload (pc := 19) dX1_sumAtLevel_19 rfl ?_
    refine ldN_BK_able (pc := 21) dX1_sumAtLevel_21 (by omega) rfl ?_
    refine ev_mmin_long (pc := 22) dX1_sumAtLevel_22 Mx_X1_62 Mxs_minJ In_Math Mxc_minJ rfl rfl ?_
    refine ev_ladd (pc := 25) dX1_sumAtLevel_25 ?_
    refine ev_lstore (pc := 26) (lv' := [(0, .ref 17), (1, .long _), (3, .int _), (4, .long _), (6, .int _)]) dX1_sumAtLevel_26 (Nat.le_of_ble_eq_true rfl) rfl ?_
    refine ev_iincN (pc := 28) (lv' := [(0, .ref 17), (1, .long _), (3, .int _), (4, .long _), (6, .int _)]) dX1_sumAtLevel_28 rfl (Nat.le_of_ble_eq_true rfl) rfl ?_
    refine ev_goto (pc := 31) (tgt := 6) dX1_sumAtLevel_31 (by decide) ?_
    exact ih
def stp : Nat → Int64
  | 0 => 0
  | r + 1 => lN (2 ^ r)
theorem stp_h : ∀ r, r < 31 → (stp (r + 1) >>> ((1 : Int32).toInt64 &&& 63) = stp r ∧ ¬ stp (r + 1) ≤ 0) := by decide +kernel
def glF (f : Int64 → Int64) (owed : Int64) : Nat → Int64 → Int64
  | 0, lv => lv
  | r + 1, lv => glF f owed r (if owed < f (lv + stp (r + 1)) then lv else lv + stp (r + 1))
theorem c_X1_greatestLevel {n : Nat} (hn : n ≤ 40) : Ct g mX1_greatestLevel [.ref 17, .int (nI n)] (hC S) (RJl (glF (fun z => sumAt (S.2.2.2.1 5) z n) (S.2.2.1 0) 31 0) S) := by
  have L : ∀ (r : Nat) (lv : Int64), r ≤ 31 → Ev g mX1_greatestLevel 7 [(0, .ref 17), (1, .int (nI n)), (2, .long lv), (4, .long (stp r))] [] (hC S) (RJl (glF (fun z => sumAt (S.2.2.2.1 5) z n) (S.2.2.1 0) r lv) S) := by
    intro r
    induction r with
    | zero =>
      intro lv hr
      refine ev_lload (pc := 7) dX1_greatestLevel_7 rfl ?_
      refine ev_lconst (pc := 9) (v := 0) dX1_greatestLevel_9 (by decide) ?_
      refine ev_lcmp_le (pc := 10) (tgt := 45) dX1_greatestLevel_10 dX1_greatestLevel_11 (by decide) (fun c10 => ?_) (fun c10 => absurd (by decide) c10)
      refine ev_lload_n (pc := 45) dX1_greatestLevel_45 rfl ?_
      exact ev_lret (pc := 46) dX1_greatestLevel_46 rfl rl
    | succ r ih =>
      intro lv hr
      obtain ⟨h1, h2⟩ := stp_h r (by omega)
      rw [glF]
      refine ev_lload (pc := 7) dX1_greatestLevel_7 rfl ?_
      refine ev_lconst (pc := 9) (v := 0) dX1_greatestLevel_9 (by decide) ?_
      refine ev_lcmp_le (pc := 10) (tgt := 45) dX1_greatestLevel_10 dX1_greatestLevel_11 (by decide) (fun c10 => absurd c10 h2) (fun c10 => ?_)
      refine ev_aload_n (pc := 14) dX1_greatestLevel_14 rfl ?_
      refine ev_lload_n (pc := 15) dX1_greatestLevel_15 rfl ?_
      refine ev_lload (pc := 16) dX1_greatestLevel_16 rfl ?_
      refine ev_ladd (pc := 18) dX1_greatestLevel_18 ?_
      refine ev_iload_n (pc := 19) dX1_greatestLevel_19 rfl ?_
      refine callV2L (pc := 20) dX1_greatestLevel_20 Ml_X1_140 M_X1_sumAtLevel rfl rfl rfl rfl (c_X1_sumAtLevel hn) ?_
      refine ev_aload_n (pc := 23) dX1_greatestLevel_23 rfl ?_
      refine get_BK_owedTogether (pc := 24) dX1_greatestLevel_24 Fl_X1_103 rfl ?_
      refine ev_lcmp_gt (pc := 27) (tgt := 36) dX1_greatestLevel_27 dX1_greatestLevel_28 (by decide) (fun c27 => ?_) (fun c27 => ?_)
      · rw [if_pos c27]
        refine ev_lload (pc := 36) dX1_greatestLevel_36 rfl ?_
        refine ev_iconst (pc := 38) (v := 1) dX1_greatestLevel_38 (by decide) ?_
        refine ev_lshr (pc := 39) dX1_greatestLevel_39 ?_
        refine ev_lstore (pc := 40) (lv' := [(0, .ref 17), (1, .int _), (2, .long _), (4, .long _)]) dX1_greatestLevel_40 (Nat.le_of_ble_eq_true rfl) rfl ?_
        refine ev_goto (pc := 42) (tgt := 7) dX1_greatestLevel_42 (by decide) ?_
        rw [h1]
        exact ih _ (by omega)
      · rw [if_neg c27]
        refine ev_lload_n (pc := 31) dX1_greatestLevel_31 rfl ?_
        refine ev_lload (pc := 32) dX1_greatestLevel_32 rfl ?_
        refine ev_ladd (pc := 34) dX1_greatestLevel_34 ?_
        refine ev_lstore_n (pc := 35) (lv' := [(0, .ref 17), (1, .int _), (2, .long _), (4, .long _)]) dX1_greatestLevel_35 (Nat.le_of_ble_eq_true rfl) rfl ?_
        refine ev_lload (pc := 36) dX1_greatestLevel_36 rfl ?_
        refine ev_iconst (pc := 38) (v := 1) dX1_greatestLevel_38 (by decide) ?_
        refine ev_lshr (pc := 39) dX1_greatestLevel_39 ?_
        refine ev_lstore (pc := 40) (lv' := [(0, .ref 17), (1, .int _), (2, .long _), (4, .long _)]) dX1_greatestLevel_40 (Nat.le_of_ble_eq_true rfl) rfl ?_
        refine ev_goto (pc := 42) (tgt := 7) dX1_greatestLevel_42 (by decide) ?_
        rw [h1]
        exact ih _ (by omega)
  refine ct_of rfl rfl ?_
  refine ev_lconst (pc := 0) (v := 0) dX1_greatestLevel_0 (by decide) ?_
  refine ev_lstore_n (pc := 1) (lv' := [(0, .ref 17), (1, .int _), (2, .long _)]) dX1_greatestLevel_1 (Nat.le_of_ble_eq_true rfl) rfl ?_
  refine ev_ldc2 (pc := 2) dX1_greatestLevel_2 Cn_X1_144 ?_
  refine ev_lstore (pc := 5) (lv' := [(0, .ref 17), (1, .int _), (2, .long _), (4, .long _)]) dX1_greatestLevel_5 (Nat.le_of_ble_eq_true rfl) rfl ?_
  exact L 31 0 (by omega)
def geB (lv : Int64) (k : Nat) (p : St × Int64) : St × Int64 :=
  let X1 := setB p.1 6 (vp_updL (p.1.2.2.2.1 6) k (if p.1.2.2.2.1 5 k < lv then p.1.2.2.2.1 5 k else lv))
  if p.2 ≤ 0 then (X1, p.2) else if X1.2.2.2.1 5 k ≤ lv then (X1, p.2) else (setB X1 6 (vp_updL (X1.2.2.2.1 6) k (X1.2.2.2.1 6 k + 1)), p.2 - 1)
def giveS (n : Nat) (S : St) : St :=
  if S.2.2.1 0 < S.2.2.1 1 then
    let lv := glF (fun z => sumAt (S.2.2.2.1 5) z n) (S.2.2.1 0) 31 0
    let X := (it (geB lv) n (S, S.2.2.1 0 - sumAt (S.2.2.2.1 5) lv n)).1
    setL X 2 (X.2.2.1 0)
  else setL (setB S 6 (va_cpy (S.2.2.2.1 5) (S.2.2.2.1 6) 0 0 n)) 2 (S.2.2.1 1)
theorem geB_eq (lv : Int64) (k : Nat) (p : St × Int64) : eqB (geB lv k p).1 p.1 := by
  unfold geB
  dsimp only
  generalize (if p.1.2.2.2.1 5 k < lv then p.1.2.2.2.1 5 k else lv) = w
  split
  · exact eqB.rf
  · split <;> exact eqB.rf
theorem geB_eqs (lv : Int64) : ∀ (k : Nat) (p : St × Int64), eqB (it (geB lv) k p).1 p.1
  | 0, _ => eqB.rf
  | k + 1, p => (geB_eq lv k _).tr (geB_eqs lv k p)
theorem giveS_eq (n : Nat) (S : St) : eqB (giveS n S) S := by
  unfold giveS
  split
  · exact geB_eqs _ n (S, _)
  · exact eqB.rf
theorem copy_BK {M : MD} {pc idx n : Nat} {lv : List (Nat × Value)} {Post : Option Value → List va_E → Prop} (hn : n ≤ 40) (hf : Nat.ble 1 M.2.2.2.2.frames = true) (hw : Nat.ble (0 + (nativeFrameWords "java/lang/System" "arraycopy" 5 + 11)) M.2.2.2.2.locals = true) (d : decode M.2.1 pc = .ok (.invokestatic idx, 3)) (h1 : Cond.methodLink M.1.cls idx arraycopyName ∈ Ts) (k : Ev g M (pc + 3) lv [] (hC (setB S 6 (va_cpy (S.2.2.2.1 5) (S.2.2.2.1 6) 0 0 n))) Post) : Ev g M pc lv [.int (nI n), .int (nI 0), .ref 24, .int (nI 0), .ref 23] (hC S) Post := by
  have e1 : (nI n).toNatClampNeg = n := nI_clamp (by omega)
  have e0 : (nI 0).toNatClampNeg = 0 := nI_clamp (by omega)
  refine ev_copyl (n0 := 40) (n1 := 40) (f := S.2.2.2.1 5) (f1 := S.2.2.2.1 6) d h1 Mxn_copy Mxs_copy In_System rfl rfl (nI_pos (by omega)) (nI_pos (by omega)) (nI_pos (by omega)) (by rw [e0, e1]; omega) (by rw [e0, e1]; omega) hf hw (hp' := hC (setB S 6 (va_cpy (S.2.2.2.1 5) (S.2.2.2.1 6) 0 0 n))) ?_ k
  rw [e0, e1]
  rfl
theorem c_X1_giveEvenly {n : Nat} (hn : n ≤ 40) : Ct g mX1_giveEvenly [.ref 17, .int (nI n)] (hC S) (RV (giveS n S)) := by
  have step : ∀ (lv : Int64) (p : St × Int64) (k : Nat) (Post : Option Value → List va_E → Prop), k < n → Ev g mX1_giveEvenly 57 [(0, .ref 17), (1, .int (nI n)), (2, .long lv), (4, .long (geB lv k p).2), (6, .int (nI (k + 1)))] [] (hC (geB lv k p).1) Post → Ev g mX1_giveEvenly 57 [(0, .ref 17), (1, .int (nI n)), (2, .long lv), (4, .long p.2), (6, .int (nI k))] [] (hC p.1) Post := by
    intro lv p k Post hk ih
    unfold geB at ih
    dsimp only at ih
    refine ev_iload (pc := 57) dX1_giveEvenly_57 rfl ?_
    refine ev_iload_n (pc := 59) dX1_giveEvenly_59 rfl ?_
    refine ev_icmp_geN (pc := 60) (tgt := 123) (by omega) (by omega) dX1_giveEvenly_60 (by decide) (fun c60 => absurd c60 (by omega)) (fun c60 => ?_)
    refine ev_aload_n (pc := 63) dX1_giveEvenly_63 rfl ?_
    refine get_BK_given (pc := 64) dX1_giveEvenly_64 Fl_X1_30 ?_
    refine ev_iload (pc := 67) dX1_giveEvenly_67 rfl ?_
    refine ev_lload_n (pc := 69) dX1_giveEvenly_69 rfl ?_
    refine ev_aload_n (pc := 70) dX1_giveEvenly_70 rfl ?_
    refine get_BK_able (pc := 71) dX1_giveEvenly_71 Fl_X1_27 ?_
    refine ev_iload (pc := 74) dX1_giveEvenly_74 rfl ?_
    refine ldN_BK_able (pc := 76) dX1_giveEvenly_76 (by omega) rfl ?_
    refine ev_mmin_long (pc := 77) dX1_giveEvenly_77 Mx_X1_62 Mxs_minJ In_Math Mxc_minJ rfl rfl ?_
    refine asN_BK_given (pc := 80) dX1_giveEvenly_80 (by omega) ?_
    refine ev_lload (pc := 81) dX1_giveEvenly_81 rfl ?_
    refine ev_lconst (pc := 83) (v := 0) dX1_giveEvenly_83 (by decide) ?_
    refine ev_lcmp_le (pc := 84) (tgt := 117) dX1_giveEvenly_84 dX1_giveEvenly_85 (by decide) (fun c84 => ?_) (fun c84 => ?_)
    · rw [if_pos c84] at ih
      refine ev_iincN (pc := 117) (lv' := [(0, .ref 17), (1, .int _), (2, .long _), (4, .long _), (6, .int _)]) dX1_giveEvenly_117 rfl (Nat.le_of_ble_eq_true rfl) rfl ?_
      refine ev_goto (pc := 120) (tgt := 57) dX1_giveEvenly_120 (by decide) ?_
      exact ih
    · rw [if_neg c84] at ih
      refine ev_aload_n (pc := 88) dX1_giveEvenly_88 rfl ?_
      refine get_BK_able (pc := 89) dX1_giveEvenly_89 Fl_X1_27 ?_
      refine ev_iload (pc := 92) dX1_giveEvenly_92 rfl ?_
      refine ldN_BK_able (pc := 94) dX1_giveEvenly_94 (by omega) rfl ?_
      refine ev_lload_n (pc := 95) dX1_giveEvenly_95 rfl ?_
      refine ev_lcmp_le (pc := 96) (tgt := 117) dX1_giveEvenly_96 dX1_giveEvenly_97 (by decide) (fun c96 => ?_) (fun c96 => ?_)
      · rw [if_pos c96] at ih
        refine ev_iincN (pc := 117) (lv' := [(0, .ref 17), (1, .int _), (2, .long _), (4, .long _), (6, .int _)]) dX1_giveEvenly_117 rfl (Nat.le_of_ble_eq_true rfl) rfl ?_
        refine ev_goto (pc := 120) (tgt := 57) dX1_giveEvenly_120 (by decide) ?_
        exact ih
      · rw [if_neg c96] at ih
        refine ev_aload_n (pc := 100) dX1_giveEvenly_100 rfl ?_
        refine get_BK_given (pc := 101) dX1_giveEvenly_101 Fl_X1_30 ?_
        refine ev_iload (pc := 104) dX1_giveEvenly_104 rfl ?_
        refine ev_dup2 (pc := 106) dX1_giveEvenly_106 rfl rfl ?_
        refine ldN_BK_given (pc := 107) dX1_giveEvenly_107 (by omega) rfl ?_
        refine ev_lconst (pc := 108) (v := 1) dX1_giveEvenly_108 (by decide) ?_
        refine ev_ladd (pc := 109) dX1_giveEvenly_109 ?_
        refine asN_BK_given (pc := 110) dX1_giveEvenly_110 (by omega) ?_
        refine ev_lload (pc := 111) dX1_giveEvenly_111 rfl ?_
        refine ev_lconst (pc := 113) (v := 1) dX1_giveEvenly_113 (by decide) ?_
        refine ev_lsub (pc := 114) dX1_giveEvenly_114 ?_
        refine ev_lstore (pc := 115) (lv' := [(0, .ref 17), (1, .int _), (2, .long _), (4, .long _), (6, .int _)]) dX1_giveEvenly_115 (Nat.le_of_ble_eq_true rfl) rfl ?_
        refine ev_iincN (pc := 117) (lv' := [(0, .ref 17), (1, .int _), (2, .long _), (4, .long _), (6, .int _)]) dX1_giveEvenly_117 rfl (Nat.le_of_ble_eq_true rfl) rfl ?_
        refine ev_goto (pc := 120) (tgt := 57) dX1_giveEvenly_120 (by decide) ?_
        exact ih
  have L : ∀ (lv m0 : Int64) (k : Nat), k ≤ n → Ev g mX1_giveEvenly 57 [(0, .ref 17), (1, .int (nI n)), (2, .long lv), (4, .long (it (geB lv) k (S, m0)).2), (6, .int (nI k))] [] (hC (it (geB lv) k (S, m0)).1) (RV (setL (it (geB lv) n (S, m0)).1 2 ((it (geB lv) n (S, m0)).1.2.2.1 0))) := by
    intro lv m0
    refine loop_up n ?_ ?_
    · skip
      refine ev_iload (pc := 57) dX1_giveEvenly_57 rfl ?_
      refine ev_iload_n (pc := 59) dX1_giveEvenly_59 rfl ?_
      refine ev_icmp_geN (pc := 60) (tgt := 123) (by omega) (by omega) dX1_giveEvenly_60 (by decide) (fun c60 => ?_) (fun c60 => absurd (Nat.le_refl n) c60)
      refine ev_aload_n (pc := 123) dX1_giveEvenly_123 rfl ?_
      refine ev_aload_n (pc := 124) dX1_giveEvenly_124 rfl ?_
      refine get_BK_owedTogether (pc := 125) dX1_giveEvenly_125 Fl_X1_103 rfl ?_
      refine put_BK_givenTogether (pc := 128) dX1_giveEvenly_128 Fp_X1_134 ?_
      exact ev_ret (pc := 131) dX1_giveEvenly_131 rfl rv
    · intro k hk ih
      exact step _ _ k _ hk ih
  refine ct_of rfl rfl ?_
  unfold giveS
  refine ev_aload_n (pc := 0) dX1_giveEvenly_0 rfl ?_
  refine get_BK_ableTogether (pc := 1) dX1_giveEvenly_1 Fl_X1_107 rfl ?_
  refine ev_aload_n (pc := 4) dX1_giveEvenly_4 rfl ?_
  refine get_BK_owedTogether (pc := 5) dX1_giveEvenly_5 Fl_X1_103 rfl ?_
  refine ev_lcmp_gt (pc := 8) (tgt := 35) dX1_giveEvenly_8 dX1_giveEvenly_9 (by decide) (fun c8 => ?_) (fun c8 => ?_)
  · rw [if_pos c8]
    refine ev_aload_n (pc := 35) dX1_giveEvenly_35 rfl ?_
    refine ev_iload_n (pc := 36) dX1_giveEvenly_36 rfl ?_
    refine callV1L (pc := 37) dX1_giveEvenly_37 Ml_X1_137 M_X1_greatestLevel rfl rfl rfl rfl (c_X1_greatestLevel hn) ?_
    refine ev_lstore_n (pc := 40) (lv' := [(0, .ref 17), (1, .int _), (2, .long _)]) dX1_giveEvenly_40 (Nat.le_of_ble_eq_true rfl) rfl ?_
    refine ev_aload_n (pc := 41) dX1_giveEvenly_41 rfl ?_
    refine get_BK_owedTogether (pc := 42) dX1_giveEvenly_42 Fl_X1_103 rfl ?_
    refine ev_aload_n (pc := 45) dX1_giveEvenly_45 rfl ?_
    refine ev_lload_n (pc := 46) dX1_giveEvenly_46 rfl ?_
    refine ev_iload_n (pc := 47) dX1_giveEvenly_47 rfl ?_
    refine callV2L (pc := 48) dX1_giveEvenly_48 Ml_X1_140 M_X1_sumAtLevel rfl rfl rfl rfl (c_X1_sumAtLevel hn) ?_
    refine ev_lsub (pc := 51) dX1_giveEvenly_51 ?_
    refine ev_lstore (pc := 52) (lv' := [(0, .ref 17), (1, .int _), (2, .long _), (4, .long _)]) dX1_giveEvenly_52 (Nat.le_of_ble_eq_true rfl) rfl ?_
    refine ev_iconst (pc := 54) (v := nI 0) dX1_giveEvenly_54 (by decide) ?_
    refine ev_istore (pc := 55) (lv' := [(0, .ref 17), (1, .int _), (2, .long _), (4, .long _), (6, .int _)]) dX1_giveEvenly_55 (Nat.le_of_ble_eq_true rfl) rfl ?_
    exact L _ _ 0 (Nat.zero_le _)
  · rw [if_neg c8]
    refine ev_aload_n (pc := 12) dX1_giveEvenly_12 rfl ?_
    refine get_BK_able (pc := 13) dX1_giveEvenly_13 Fl_X1_27 ?_
    refine ev_iconst (pc := 16) (v := nI 0) dX1_giveEvenly_16 (by decide) ?_
    refine ev_aload_n (pc := 17) dX1_giveEvenly_17 rfl ?_
    refine get_BK_given (pc := 18) dX1_giveEvenly_18 Fl_X1_30 ?_
    refine ev_iconst (pc := 21) (v := nI 0) dX1_giveEvenly_21 (by decide) ?_
    refine ev_iload_n (pc := 22) dX1_giveEvenly_22 rfl ?_
    refine copy_BK (pc := 23) hn rfl rfl dX1_giveEvenly_23 Mx_X1_128 ?_
    refine ev_aload_n (pc := 26) dX1_giveEvenly_26 rfl ?_
    refine ev_aload_n (pc := 27) dX1_giveEvenly_27 rfl ?_
    refine get_BK_ableTogether (pc := 28) dX1_giveEvenly_28 Fl_X1_107 rfl ?_
    refine put_BK_givenTogether (pc := 31) dX1_giveEvenly_31 Fp_X1_134 ?_
    exact ev_ret (pc := 34) dX1_giveEvenly_34 rfl rv
end BK2
end
section
section BK3
variable {g : GG} {S : St}
def pdB (grp : Int32) (k : Nat) (p : St × Int64) : St × Int64 :=
  if p.1.2.1 0 k = grp then
    (setB p.1 7 (vp_updL (p.1.2.2.2.1 7) k (if p.1.2.2.2.1 1 k - p.1.2.2.2.1 4 k < p.2 then p.1.2.2.2.1 1 k - p.1.2.2.2.1 4 k else p.2)),
     p.2 - vp_updL (p.1.2.2.2.1 7) k (if p.1.2.2.2.1 1 k - p.1.2.2.2.1 4 k < p.2 then p.1.2.2.2.1 1 k - p.1.2.2.2.1 4 k else p.2) k)
  else p
theorem pdB_eq (grp : Int32) (k : Nat) (p : St × Int64) : eqB (pdB grp k p).1 p.1 := by
  unfold pdB
  by_cases h : p.1.2.1 0 k = grp
  · rw [if_pos h]; exact eqB.rf
  · rw [if_neg h]; exact eqB.rf
theorem pdB_eqs (grp : Int32) : ∀ (k : Nat) (p : St × Int64), eqB (it (pdB grp) k p).1 p.1
  | 0, _ => eqB.rf
  | k + 1, p => (pdB_eq grp k _).tr (pdB_eqs grp k p)
theorem pd_step {grp : Int32} {nf nc nb : Nat} (p : St × Int64) (k : Nat) (Post : Option Value → List va_E → Prop) (hk : k < nf) (hB : Bs p.1 nf nc nb) (ih : Ev g mX1_payDebts 8 [(0, .ref 17), (1, .ref 1), (2, .int grp), (3, .long (pdB grp k p).2), (5, .int (nI (k + 1)))] [] (hC (pdB grp k p).1) Post) : Ev g mX1_payDebts 8 [(0, .ref 17), (1, .ref 1), (2, .int grp), (3, .long p.2), (5, .int (nI k))] [] (hC p.1) Post := by
  obtain ⟨hs, hc, -⟩ := hB
  unfold pdB at ih
  refine ev_iload (pc := 8) dX1_payDebts_8 rfl ?_
  refine ev_aload_n (pc := 10) dX1_payDebts_10 rfl ?_
  refine get_F_size (pc := 11) dX1_payDebts_11 Fl_X1_50 hs ?_
  refine ev_icmp_geN (pc := 14) (tgt := 61) (by omega) (by omega) dX1_payDebts_14 (by decide) (fun c14 => absurd c14 (by omega)) (fun c14 => ?_)
  refine ev_aload_n (pc := 17) dX1_payDebts_17 rfl ?_
  refine get_F_group (pc := 18) dX1_payDebts_18 Fl_X1_110 ?_
  refine ev_iload (pc := 21) dX1_payDebts_21 rfl ?_
  refine ldN_F_group (pc := 23) dX1_payDebts_23 (by omega) rfl ?_
  refine ev_iload_n (pc := 24) dX1_payDebts_24 rfl ?_
  refine ev_icmp_ne (pc := 25) (tgt := 55) dX1_payDebts_25 (by decide) (fun c25 => ?_) (fun c25 => ?_)
  · rw [if_neg c25] at ih
    refine ev_iincN (pc := 55) (lv' := [(0, .ref 17), (1, .ref 1), (2, .int _), (3, .long _), (5, .int _)]) dX1_payDebts_55 rfl (Nat.le_of_ble_eq_true rfl) rfl ?_
    refine ev_goto (pc := 58) (tgt := 8) dX1_payDebts_58 (by decide) ?_
    exact ih
  · rw [if_pos c25] at ih
    refine ev_aload_n (pc := 28) dX1_payDebts_28 rfl ?_
    refine get_BK_paid (pc := 29) dX1_payDebts_29 Fl_X1_33 ?_
    refine ev_iload (pc := 32) dX1_payDebts_32 rfl ?_
    refine ev_lload_n (pc := 34) dX1_payDebts_34 rfl ?_
    refine ev_aload_n (pc := 35) dX1_payDebts_35 rfl ?_
    refine ev_iload (pc := 36) dX1_payDebts_36 rfl ?_
    refine callV1L (pc := 38) dX1_payDebts_38 Ml_X1_117 M_X1_debt rfl rfl rfl rfl (c_X1_debt (by omega)) ?_
    refine ev_mmin_long (pc := 41) dX1_payDebts_41 Mx_X1_62 Mxs_minJ In_Math Mxc_minJ rfl rfl ?_
    refine asN_BK_paid (pc := 44) dX1_payDebts_44 (by omega) ?_
    refine ev_lload_n (pc := 45) dX1_payDebts_45 rfl ?_
    refine ev_aload_n (pc := 46) dX1_payDebts_46 rfl ?_
    refine get_BK_paid (pc := 47) dX1_payDebts_47 Fl_X1_33 ?_
    refine ev_iload (pc := 50) dX1_payDebts_50 rfl ?_
    refine ldN_BK_paid (pc := 52) dX1_payDebts_52 (by omega) rfl ?_
    refine ev_lsub (pc := 53) dX1_payDebts_53 ?_
    refine ev_lstore_n (pc := 54) (lv' := [(0, .ref 17), (1, .ref 1), (2, .int _), (3, .long _), (5, .int _)]) dX1_payDebts_54 (Nat.le_of_ble_eq_true rfl) rfl ?_
    refine ev_iincN (pc := 55) (lv' := [(0, .ref 17), (1, .ref 1), (2, .int _), (3, .long _), (5, .int _)]) dX1_payDebts_55 rfl (Nat.le_of_ble_eq_true rfl) rfl ?_
    refine ev_goto (pc := 58) (tgt := 8) dX1_payDebts_58 (by decide) ?_
    exact ih
theorem c_X1_payDebts {grp : Int32} {nf nc nb : Nat} (hB : Bs S nf nc nb) : Ct g mX1_payDebts [.ref 17, .ref 1, .int grp] (hC S) (RV (it (pdB grp) nf (S, S.2.2.1 2)).1) := by
  have L : ∀ (m0 : Int64) (k : Nat), k ≤ nf → Ev g mX1_payDebts 8 [(0, .ref 17), (1, .ref 1), (2, .int grp), (3, .long (it (pdB grp) k (S, m0)).2), (5, .int (nI k))] [] (hC (it (pdB grp) k (S, m0)).1) (RV (it (pdB grp) nf (S, m0)).1) := by
    intro m0
    refine loop_up nf ?_ ?_
    · obtain ⟨hs, hc, -⟩ := hB.eq (pdB_eqs grp nf (S, m0))
      refine ev_iload (pc := 8) dX1_payDebts_8 rfl ?_
      refine ev_aload_n (pc := 10) dX1_payDebts_10 rfl ?_
      refine get_F_size (pc := 11) dX1_payDebts_11 Fl_X1_50 hs ?_
      refine ev_icmp_geN (pc := 14) (tgt := 61) (by omega) (by omega) dX1_payDebts_14 (by decide) (fun c14 => ?_) (fun c14 => absurd (Nat.le_refl nf) c14)
      exact ev_ret (pc := 61) dX1_payDebts_61 rfl rv
    · intro k hk ih
      exact pd_step _ k _ hk (hB.eq (pdB_eqs grp k (S, m0))) ih
  refine ct_of rfl rfl ?_
  refine ev_aload_n (pc := 0) dX1_payDebts_0 rfl ?_
  refine get_BK_givenTogether (pc := 1) dX1_payDebts_1 Fl_X1_134 rfl ?_
  refine ev_lstore_n (pc := 4) (lv' := [(0, .ref 17), (1, .ref 1), (2, .int _), (3, .long _)]) dX1_payDebts_4 (Nat.le_of_ble_eq_true rfl) rfl ?_
  refine ev_iconst (pc := 5) (v := nI 0) dX1_payDebts_5 (by decide) ?_
  refine ev_istore (pc := 6) (lv' := [(0, .ref 17), (1, .ref 1), (2, .int _), (3, .long _), (5, .int _)]) dX1_payDebts_6 (Nat.le_of_ble_eq_true rfl) rfl ?_
  exact L _ 0 (Nat.zero_le _)
def sdB (b : Nat) (grp : Int32) (k : Nat) (X : St) : St :=
  if X.2.1 0 k = grp then
    let X1 := setB X 5 (vp_updL (X.2.2.2.1 5) k (shareF X b 2 (X.2.2.2.1 2 k - X.2.2.2.1 4 k)))
    let X2 := setL X1 1 (X1.2.2.1 1 + X1.2.2.2.1 5 k)
    setL X2 0 (X2.2.2.1 0 + (X2.2.2.2.1 1 k - X2.2.2.2.1 4 k))
  else X
theorem sdB_eq (b : Nat) (grp : Int32) (k : Nat) (X : St) : eqB (sdB b grp k X) X := by
  unfold sdB
  by_cases h : X.2.1 0 k = grp
  · rw [if_pos h]; exact eqB.rf
  · rw [if_neg h]; exact eqB.rf
def sd0 (S : St) : St := setL (setL (setB S 5 (fillF 40 0 (S.2.2.2.1 5))) 0 0) 1 0
theorem sd0_eq (S : St) : eqB (sd0 S) S := eqB.rf
def standS (b : Nat) (grp : Int32) (nf : Nat) (S : St) : St :=
  let X2 := giveS nf (it (sdB b grp) nf (sd0 S))
  (it (pdB grp) nf (X2, X2.2.2.1 2)).1
theorem standS_eq (b : Nat) (grp : Int32) (nf : Nat) (S : St) : eqB (standS b grp nf S) S := (pdB_eqs grp nf _).tr ((giveS_eq nf _).tr ((eqB.it (sdB_eq b grp) nf _).tr (sd0_eq S)))
theorem sd_step_0 {grp : Int32} {nf nc nb : Nat} (X : St) (k : Nat) (Post : Option Value → List va_E → Prop) (hk : k < nf) (hB : Bs X nf nc nb) (ih : Ev g mX1_stand 21 [(0, .ref 17), (1, .ref 1), (2, .ref 35), (3, .int grp), (4, .int (nI (k + 1)))] [] (hC (sdB 0 grp k X)) Post) : Ev g mX1_stand 21 [(0, .ref 17), (1, .ref 1), (2, .ref 35), (3, .int grp), (4, .int (nI k))] [] (hC X) Post := by
  obtain ⟨hs, hc, -⟩ := hB
  unfold sdB at ih
  refine ev_iload (pc := 21) dX1_stand_21 rfl ?_
  refine ev_aload_n (pc := 23) dX1_stand_23 rfl ?_
  refine get_F_size (pc := 24) dX1_stand_24 Fl_X1_50 hs ?_
  refine ev_icmp_geN (pc := 27) (tgt := 96) (by omega) (by omega) dX1_stand_27 (by decide) (fun c27 => absurd c27 (by omega)) (fun c27 => ?_)
  refine ev_aload_n (pc := 30) dX1_stand_30 rfl ?_
  refine get_F_group (pc := 31) dX1_stand_31 Fl_X1_110 ?_
  refine ev_iload (pc := 34) dX1_stand_34 rfl ?_
  refine ldN_F_group (pc := 36) dX1_stand_36 (by omega) rfl ?_
  refine ev_iload_n (pc := 37) dX1_stand_37 rfl ?_
  refine ev_icmp_ne (pc := 38) (tgt := 90) dX1_stand_38 (by decide) (fun c38 => ?_) (fun c38 => ?_)
  · rw [if_neg c38] at ih
    refine ev_iincN (pc := 90) (lv' := [(0, .ref 17), (1, .ref 1), (2, .ref 35), (3, .int _), (4, .int _)]) dX1_stand_90 rfl (Nat.le_of_ble_eq_true rfl) rfl ?_
    refine ev_goto (pc := 93) (tgt := 21) dX1_stand_93 (by decide) ?_
    exact ih
  · rw [if_pos c38] at ih
    refine ev_aload_n (pc := 41) dX1_stand_41 rfl ?_
    refine get_BK_able (pc := 42) dX1_stand_42 Fl_X1_27 ?_
    refine ev_iload (pc := 45) dX1_stand_45 rfl ?_
    refine ev_aload_n (pc := 47) dX1_stand_47 rfl ?_
    refine ev_iconst (pc := 48) (v := nI 2) dX1_stand_48 (by decide) ?_
    refine ev_aload_n (pc := 49) dX1_stand_49 rfl ?_
    refine ev_iload (pc := 50) dX1_stand_50 rfl ?_
    refine callV1L (pc := 52) dX1_stand_52 Ml_X1_113 M_X1_pay rfl rfl rfl rfl (c_X1_pay (by omega)) ?_
    refine callV2L (pc := 55) dX1_stand_55 Ml_X1_58 M_X8_shareOf rfl rfl rfl rfl (c_X8_shareOf_0 (by decide)) ?_
    refine asN_BK_able (pc := 58) dX1_stand_58 (by omega) ?_
    refine ev_aload_n (pc := 59) dX1_stand_59 rfl ?_
    refine ev_dup (pc := 60) dX1_stand_60 rfl ?_
    refine get_BK_ableTogether (pc := 61) dX1_stand_61 Fl_X1_107 rfl ?_
    refine ev_aload_n (pc := 64) dX1_stand_64 rfl ?_
    refine get_BK_able (pc := 65) dX1_stand_65 Fl_X1_27 ?_
    refine ev_iload (pc := 68) dX1_stand_68 rfl ?_
    refine ldN_BK_able (pc := 70) dX1_stand_70 (by omega) rfl ?_
    refine ev_ladd (pc := 71) dX1_stand_71 ?_
    refine put_BK_ableTogether (pc := 72) dX1_stand_72 Fp_X1_107 ?_
    refine ev_aload_n (pc := 75) dX1_stand_75 rfl ?_
    refine ev_dup (pc := 76) dX1_stand_76 rfl ?_
    refine get_BK_owedTogether (pc := 77) dX1_stand_77 Fl_X1_103 rfl ?_
    refine ev_aload_n (pc := 80) dX1_stand_80 rfl ?_
    refine ev_iload (pc := 81) dX1_stand_81 rfl ?_
    refine callV1L (pc := 83) dX1_stand_83 Ml_X1_117 M_X1_debt rfl rfl rfl rfl (c_X1_debt (by omega)) ?_
    refine ev_ladd (pc := 86) dX1_stand_86 ?_
    refine put_BK_owedTogether (pc := 87) dX1_stand_87 Fp_X1_103 ?_
    refine ev_iincN (pc := 90) (lv' := [(0, .ref 17), (1, .ref 1), (2, .ref 35), (3, .int _), (4, .int _)]) dX1_stand_90 rfl (Nat.le_of_ble_eq_true rfl) rfl ?_
    refine ev_goto (pc := 93) (tgt := 21) dX1_stand_93 (by decide) ?_
    exact ih
theorem sd_loop_0 {grp : Int32} {nf nc nb : Nat} (hB : Bs S nf nc nb) (k : Nat) (hk : k ≤ nf) (Post : Option Value → List va_E → Prop) (hx : Ev g mX1_stand 96 [(0, .ref 17), (1, .ref 1), (2, .ref 35), (3, .int grp), (4, .int (nI nf))] [] (hC (it (sdB 0 grp) nf S)) Post) : Ev g mX1_stand 21 [(0, .ref 17), (1, .ref 1), (2, .ref 35), (3, .int grp), (4, .int (nI k))] [] (hC (it (sdB 0 grp) k S)) Post := by
  revert k
  refine loop_up nf ?_ ?_
  · obtain ⟨hs, hc, -⟩ := hB.eq (eqB.it (sdB_eq 0 grp) nf S)
    refine ev_iload (pc := 21) dX1_stand_21 rfl ?_
    refine ev_aload_n (pc := 23) dX1_stand_23 rfl ?_
    refine get_F_size (pc := 24) dX1_stand_24 Fl_X1_50 hs ?_
    refine ev_icmp_geN (pc := 27) (tgt := 96) (by omega) (by omega) dX1_stand_27 (by decide) (fun c27 => ?_) (fun c27 => absurd (Nat.le_refl nf) c27)
    exact hx
  · intro k hk ih
    exact sd_step_0 _ k _ hk (hB.eq (eqB.it (sdB_eq 0 grp) k S)) ih
theorem sd_end_0 {grp : Int32} {nf nc nb : Nat} (hB : Bs S nf nc nb) : Ev g mX1_stand 96 [(0, .ref 17), (1, .ref 1), (2, .ref 35), (3, .int grp), (4, .int (nI nf))] [] (hC S) (RV (it (pdB grp) nf (giveS nf S, (giveS nf S).2.2.1 2)).1) := by
  obtain ⟨hs, hc, -⟩ := id hB
  refine ev_aload_n (pc := 96) dX1_stand_96 rfl ?_
  refine ev_aload_n (pc := 97) dX1_stand_97 rfl ?_
  refine get_F_size (pc := 98) dX1_stand_98 Fl_X1_50 hs ?_
  refine callV1V (pc := 101) dX1_stand_101 Ml_X1_120 M_X1_giveEvenly rfl rfl rfl rfl (c_X1_giveEvenly hc) ?_
  refine ev_aload_n (pc := 104) dX1_stand_104 rfl ?_
  refine ev_aload_n (pc := 105) dX1_stand_105 rfl ?_
  refine ev_iload_n (pc := 106) dX1_stand_106 rfl ?_
  refine callV2V (pc := 107) dX1_stand_107 Ml_X1_124 M_X1_payDebts rfl rfl rfl rfl (c_X1_payDebts (hB.eq (giveS_eq nf _))) ?_
  exact ev_ret (pc := 110) dX1_stand_110 rfl rv
theorem c_X1_stand_0 {grp : Int32} {nf nc nb : Nat} (hB : Bs S nf nc nb) : Ct g mX1_stand [.ref 17, .ref 1, .ref 35, .int grp] (hC S) (RV (standS 0 grp nf S)) := by
  refine ct_of rfl rfl ?_
  have h2 := sd_loop_0 (hB.eq (sd0_eq S)) 0 (Nat.zero_le _) _ (sd_end_0 (g := g) (grp := grp) (hB.eq ((eqB.it (sdB_eq 0 grp) nf _).tr (sd0_eq S))))
  rw [it_0] at h2
  refine ev_aload_n (pc := 0) dX1_stand_0 rfl ?_
  refine get_BK_able (pc := 1) dX1_stand_1 Fl_X1_27 ?_
  refine ev_lconst (pc := 4) (v := 0) dX1_stand_4 (by decide) ?_
  refine callS2V (pc := 5) dX1_stand_5 Ml_X1_36 M_J7_fill_d0a16 rfl rfl c_fill_BK_able ?_
  refine ev_aload_n (pc := 8) dX1_stand_8 rfl ?_
  refine ev_lconst (pc := 9) (v := 0) dX1_stand_9 (by decide) ?_
  refine put_BK_owedTogether (pc := 10) dX1_stand_10 Fp_X1_103 ?_
  refine ev_aload_n (pc := 13) dX1_stand_13 rfl ?_
  refine ev_lconst (pc := 14) (v := 0) dX1_stand_14 (by decide) ?_
  refine put_BK_ableTogether (pc := 15) dX1_stand_15 Fp_X1_107 ?_
  refine ev_iconst (pc := 18) (v := nI 0) dX1_stand_18 (by decide) ?_
  refine ev_istore (pc := 19) (lv' := [(0, .ref 17), (1, .ref 1), (2, .ref 35), (3, .int _), (4, .int _)]) dX1_stand_19 (Nat.le_of_ble_eq_true rfl) rfl ?_
  exact h2
theorem sd_step_1 {grp : Int32} {nf nc nb : Nat} (X : St) (k : Nat) (Post : Option Value → List va_E → Prop) (hk : k < nf) (hB : Bs X nf nc nb) (ih : Ev g mX1_stand 21 [(0, .ref 17), (1, .ref 1), (2, .ref 39), (3, .int grp), (4, .int (nI (k + 1)))] [] (hC (sdB 1 grp k X)) Post) : Ev g mX1_stand 21 [(0, .ref 17), (1, .ref 1), (2, .ref 39), (3, .int grp), (4, .int (nI k))] [] (hC X) Post := by
  obtain ⟨hs, hc, -⟩ := hB
  unfold sdB at ih
  refine ev_iload (pc := 21) dX1_stand_21 rfl ?_
  refine ev_aload_n (pc := 23) dX1_stand_23 rfl ?_
  refine get_F_size (pc := 24) dX1_stand_24 Fl_X1_50 hs ?_
  refine ev_icmp_geN (pc := 27) (tgt := 96) (by omega) (by omega) dX1_stand_27 (by decide) (fun c27 => absurd c27 (by omega)) (fun c27 => ?_)
  refine ev_aload_n (pc := 30) dX1_stand_30 rfl ?_
  refine get_F_group (pc := 31) dX1_stand_31 Fl_X1_110 ?_
  refine ev_iload (pc := 34) dX1_stand_34 rfl ?_
  refine ldN_F_group (pc := 36) dX1_stand_36 (by omega) rfl ?_
  refine ev_iload_n (pc := 37) dX1_stand_37 rfl ?_
  refine ev_icmp_ne (pc := 38) (tgt := 90) dX1_stand_38 (by decide) (fun c38 => ?_) (fun c38 => ?_)
  · rw [if_neg c38] at ih
    refine ev_iincN (pc := 90) (lv' := [(0, .ref 17), (1, .ref 1), (2, .ref 39), (3, .int _), (4, .int _)]) dX1_stand_90 rfl (Nat.le_of_ble_eq_true rfl) rfl ?_
    refine ev_goto (pc := 93) (tgt := 21) dX1_stand_93 (by decide) ?_
    exact ih
  · rw [if_pos c38] at ih
    refine ev_aload_n (pc := 41) dX1_stand_41 rfl ?_
    refine get_BK_able (pc := 42) dX1_stand_42 Fl_X1_27 ?_
    refine ev_iload (pc := 45) dX1_stand_45 rfl ?_
    refine ev_aload_n (pc := 47) dX1_stand_47 rfl ?_
    refine ev_iconst (pc := 48) (v := nI 2) dX1_stand_48 (by decide) ?_
    refine ev_aload_n (pc := 49) dX1_stand_49 rfl ?_
    refine ev_iload (pc := 50) dX1_stand_50 rfl ?_
    refine callV1L (pc := 52) dX1_stand_52 Ml_X1_113 M_X1_pay rfl rfl rfl rfl (c_X1_pay (by omega)) ?_
    refine callV2L (pc := 55) dX1_stand_55 Ml_X1_58 M_X8_shareOf rfl rfl rfl rfl (c_X8_shareOf_1 (by decide)) ?_
    refine asN_BK_able (pc := 58) dX1_stand_58 (by omega) ?_
    refine ev_aload_n (pc := 59) dX1_stand_59 rfl ?_
    refine ev_dup (pc := 60) dX1_stand_60 rfl ?_
    refine get_BK_ableTogether (pc := 61) dX1_stand_61 Fl_X1_107 rfl ?_
    refine ev_aload_n (pc := 64) dX1_stand_64 rfl ?_
    refine get_BK_able (pc := 65) dX1_stand_65 Fl_X1_27 ?_
    refine ev_iload (pc := 68) dX1_stand_68 rfl ?_
    refine ldN_BK_able (pc := 70) dX1_stand_70 (by omega) rfl ?_
    refine ev_ladd (pc := 71) dX1_stand_71 ?_
    refine put_BK_ableTogether (pc := 72) dX1_stand_72 Fp_X1_107 ?_
    refine ev_aload_n (pc := 75) dX1_stand_75 rfl ?_
    refine ev_dup (pc := 76) dX1_stand_76 rfl ?_
    refine get_BK_owedTogether (pc := 77) dX1_stand_77 Fl_X1_103 rfl ?_
    refine ev_aload_n (pc := 80) dX1_stand_80 rfl ?_
    refine ev_iload (pc := 81) dX1_stand_81 rfl ?_
    refine callV1L (pc := 83) dX1_stand_83 Ml_X1_117 M_X1_debt rfl rfl rfl rfl (c_X1_debt (by omega)) ?_
    refine ev_ladd (pc := 86) dX1_stand_86 ?_
    refine put_BK_owedTogether (pc := 87) dX1_stand_87 Fp_X1_103 ?_
    refine ev_iincN (pc := 90) (lv' := [(0, .ref 17), (1, .ref 1), (2, .ref 39), (3, .int _), (4, .int _)]) dX1_stand_90 rfl (Nat.le_of_ble_eq_true rfl) rfl ?_
    refine ev_goto (pc := 93) (tgt := 21) dX1_stand_93 (by decide) ?_
    exact ih
theorem sd_loop_1 {grp : Int32} {nf nc nb : Nat} (hB : Bs S nf nc nb) (k : Nat) (hk : k ≤ nf) (Post : Option Value → List va_E → Prop) (hx : Ev g mX1_stand 96 [(0, .ref 17), (1, .ref 1), (2, .ref 39), (3, .int grp), (4, .int (nI nf))] [] (hC (it (sdB 1 grp) nf S)) Post) : Ev g mX1_stand 21 [(0, .ref 17), (1, .ref 1), (2, .ref 39), (3, .int grp), (4, .int (nI k))] [] (hC (it (sdB 1 grp) k S)) Post := by
  revert k
  refine loop_up nf ?_ ?_
  · obtain ⟨hs, hc, -⟩ := hB.eq (eqB.it (sdB_eq 1 grp) nf S)
    refine ev_iload (pc := 21) dX1_stand_21 rfl ?_
    refine ev_aload_n (pc := 23) dX1_stand_23 rfl ?_
    refine get_F_size (pc := 24) dX1_stand_24 Fl_X1_50 hs ?_
    refine ev_icmp_geN (pc := 27) (tgt := 96) (by omega) (by omega) dX1_stand_27 (by decide) (fun c27 => ?_) (fun c27 => absurd (Nat.le_refl nf) c27)
    exact hx
  · intro k hk ih
    exact sd_step_1 _ k _ hk (hB.eq (eqB.it (sdB_eq 1 grp) k S)) ih
theorem sd_end_1 {grp : Int32} {nf nc nb : Nat} (hB : Bs S nf nc nb) : Ev g mX1_stand 96 [(0, .ref 17), (1, .ref 1), (2, .ref 39), (3, .int grp), (4, .int (nI nf))] [] (hC S) (RV (it (pdB grp) nf (giveS nf S, (giveS nf S).2.2.1 2)).1) := by
  obtain ⟨hs, hc, -⟩ := id hB
  refine ev_aload_n (pc := 96) dX1_stand_96 rfl ?_
  refine ev_aload_n (pc := 97) dX1_stand_97 rfl ?_
  refine get_F_size (pc := 98) dX1_stand_98 Fl_X1_50 hs ?_
  refine callV1V (pc := 101) dX1_stand_101 Ml_X1_120 M_X1_giveEvenly rfl rfl rfl rfl (c_X1_giveEvenly hc) ?_
  refine ev_aload_n (pc := 104) dX1_stand_104 rfl ?_
  refine ev_aload_n (pc := 105) dX1_stand_105 rfl ?_
  refine ev_iload_n (pc := 106) dX1_stand_106 rfl ?_
  refine callV2V (pc := 107) dX1_stand_107 Ml_X1_124 M_X1_payDebts rfl rfl rfl rfl (c_X1_payDebts (hB.eq (giveS_eq nf _))) ?_
  exact ev_ret (pc := 110) dX1_stand_110 rfl rv
theorem c_X1_stand_1 {grp : Int32} {nf nc nb : Nat} (hB : Bs S nf nc nb) : Ct g mX1_stand [.ref 17, .ref 1, .ref 39, .int grp] (hC S) (RV (standS 1 grp nf S)) := by
  refine ct_of rfl rfl ?_
  have h2 := sd_loop_1 (hB.eq (sd0_eq S)) 0 (Nat.zero_le _) _ (sd_end_1 (g := g) (grp := grp) (hB.eq ((eqB.it (sdB_eq 1 grp) nf _).tr (sd0_eq S))))
  rw [it_0] at h2
  refine ev_aload_n (pc := 0) dX1_stand_0 rfl ?_
  refine get_BK_able (pc := 1) dX1_stand_1 Fl_X1_27 ?_
  refine ev_lconst (pc := 4) (v := 0) dX1_stand_4 (by decide) ?_
  refine callS2V (pc := 5) dX1_stand_5 Ml_X1_36 M_J7_fill_d0a16 rfl rfl c_fill_BK_able ?_
  refine ev_aload_n (pc := 8) dX1_stand_8 rfl ?_
  refine ev_lconst (pc := 9) (v := 0) dX1_stand_9 (by decide) ?_
  refine put_BK_owedTogether (pc := 10) dX1_stand_10 Fp_X1_103 ?_
  refine ev_aload_n (pc := 13) dX1_stand_13 rfl ?_
  refine ev_lconst (pc := 14) (v := 0) dX1_stand_14 (by decide) ?_
  refine put_BK_ableTogether (pc := 15) dX1_stand_15 Fp_X1_107 ?_
  refine ev_iconst (pc := 18) (v := nI 0) dX1_stand_18 (by decide) ?_
  refine ev_istore (pc := 19) (lv' := [(0, .ref 17), (1, .ref 1), (2, .ref 39), (3, .int _), (4, .int _)]) dX1_stand_19 (Nat.le_of_ble_eq_true rfl) rfl ?_
  exact h2
end BK3
end
section
section RD
variable {g : GG} {S : St} {M : MD} {pc : Nat} {lv : List (Nat × Value)} {st : List Value} {hp : List va_E} {Post : Option Value → List va_E → Prop}
theorem nI_z {k : Nat} (h : k < 2 ^ 31) : nI k = 0 ↔ k = 0 := by
  have := nI_eq (a := k) (b := 0) h (by decide)
  rw [← nI_0]; exact this
theorem ev_if_neN {k : Nat} {off : Int} {tgt : Nat} (hk : k < 2 ^ 31) (d : decode M.2.1 pc = .ok (.ifCond .ne off, 3)) (ht : (pc : Int) + off = (tgt : Int)) (kt : ¬ k = 0 → Ev g M tgt lv st hp Post) (kf : k = 0 → Ev g M (pc + 3) lv st hp Post) : Ev g M pc lv (.int (nI k) :: st) hp Post := ev_if_ne d ht (fun q => kt (fun z => q ((nI_z hk).mpr z))) (fun q => kf ((nI_z hk).mp q))
theorem ev_if_eqN {k : Nat} {off : Int} {tgt : Nat} (hk : k < 2 ^ 31) (d : decode M.2.1 pc = .ok (.ifCond .eq off, 3)) (ht : (pc : Int) + off = (tgt : Int)) (kt : k = 0 → Ev g M tgt lv st hp Post) (kf : ¬ k = 0 → Ev g M (pc + 3) lv st hp Post) : Ev g M pc lv (.int (nI k) :: st) hp Post := ev_if_eq d ht (fun q => kt ((nI_z hk).mp q)) (fun q => kf (fun z => q ((nI_z hk).mpr z)))
theorem ev_if_leN {k : Nat} {off : Int} {tgt : Nat} (hk : k < 2 ^ 31) (d : decode M.2.1 pc = .ok (.ifCond .le off, 3)) (ht : (pc : Int) + off = (tgt : Int)) (kt : k = 0 → Ev g M tgt lv st hp Post) (kf : ¬ k = 0 → Ev g M (pc + 3) lv st hp Post) : Ev g M pc lv (.int (nI k) :: st) hp Post := ev_if_le d ht (fun q => kt (by rcases Nat.eq_zero_or_pos k with h | h; exact h; exact absurd q (nI_nle h hk))) (fun q => kf (fun z => q (by rw [z]; decide)))
/-- the cell's place -/
def cellN (r a b s m : Nat) : Nat := ((a * (r + 1) + b) * 2 + s) * 17 + m
theorem c_X6_cellOf {a b s m r : Nat} (hr : S.1 15 = nI r) : Ct g mX6_cellOf [.ref 30, .int (nI a), .int (nI b), .int (nI s), .int (nI m)] (hC S) (RI (nI (cellN r a b s m)) S) := by
  refine ct_of rfl rfl ?_
  refine ev_iload_n (pc := 0) dX6_cellOf_0 rfl ?_
  refine ev_aload_n (pc := 1) dX6_cellOf_1 rfl ?_
  refine get_RD_right (pc := 2) dX6_cellOf_2 Fl_X6_34 hr ?_
  refine ev_iconst (pc := 5) (v := nI 1) dX6_cellOf_5 (by decide) ?_
  refine ev_iadd (pc := 6) dX6_cellOf_6 ?_
  refine ev_imul (pc := 7) dX6_cellOf_7 ?_
  refine ev_iload_n (pc := 8) dX6_cellOf_8 rfl ?_
  refine ev_iadd (pc := 9) dX6_cellOf_9 ?_
  refine ev_iconst (pc := 10) (v := nI 2) dX6_cellOf_10 (by decide) ?_
  refine ev_imul (pc := 11) dX6_cellOf_11 ?_
  refine ev_iload_n (pc := 12) dX6_cellOf_12 rfl ?_
  refine ev_iadd (pc := 13) dX6_cellOf_13 ?_
  refine ev_bipush (pc := 14) (v := nI 17) dX6_cellOf_14 (by decide) ?_
  refine ev_imul (pc := 16) dX6_cellOf_16 ?_
  refine ev_iload (pc := 17) dX6_cellOf_17 rfl ?_
  refine ev_iadd (pc := 19) dX6_cellOf_19 ?_
  exact ev_iret (pc := 20) dX6_cellOf_20 rfl rfl (ri' (by simp only [nI_add, pk_mul, cellN]) rfl)
def arrS (c : Nat) (t l : Int32) (S : St) : St := setA S 16 (upd (S.2.1 16) (if l < t then c else c + 1) (if t < S.2.1 16 (if l < t then c else c + 1) then t else S.2.1 16 (if l < t then c else c + 1)))
theorem c_X6_arrive {c : Nat} {t l : Int32} (hc : c + 1 < 2754) : Ct g mX6_arrive [.ref 30, .int (nI c), .int t, .int l] (hC S) (RV (arrS c t l S)) := by
  refine ct_of rfl rfl ?_
  unfold arrS
  refine ev_iload_n (pc := 0) dX6_arrive_0 rfl ?_
  refine ev_iload_n (pc := 1) dX6_arrive_1 rfl ?_
  refine ev_icmp_gt (pc := 2) (tgt := 11) dX6_arrive_2 (by decide) (fun c2 => ?_) (fun c2 => ?_)
  · simp only [if_pos c2]
    refine ev_iload_n (pc := 11) dX6_arrive_11 rfl ?_
    refine ev_istore (pc := 12) (lv' := [(0, .ref 30), (1, .int _), (2, .int _), (3, .int _), (4, .int _)]) dX6_arrive_12 (Nat.le_of_ble_eq_true rfl) rfl ?_
    refine ev_aload_n (pc := 14) dX6_arrive_14 rfl ?_
    refine get_RD_earliest (pc := 15) dX6_arrive_15 Fl_X6_18 ?_
    refine ev_iload (pc := 18) dX6_arrive_18 rfl ?_
    refine ev_aload_n (pc := 20) dX6_arrive_20 rfl ?_
    refine get_RD_earliest (pc := 21) dX6_arrive_21 Fl_X6_18 ?_
    refine ev_iload (pc := 24) dX6_arrive_24 rfl ?_
    refine ldN_RD_earliest (pc := 26) dX6_arrive_26 (by omega) rfl ?_
    refine ev_iload_n (pc := 27) dX6_arrive_27 rfl ?_
    refine ev_mmin (pc := 28) dX6_arrive_28 Mx_X6_56 Mxs_minI In_Math Mxc_minI rfl rfl ?_
    refine asN_RD_earliest (pc := 31) dX6_arrive_31 (by omega) ?_
    exact ev_ret (pc := 32) dX6_arrive_32 rfl rv
  · simp only [if_neg c2]
    refine ev_iload_n (pc := 5) dX6_arrive_5 rfl ?_
    refine ev_iconst (pc := 6) (v := nI 1) dX6_arrive_6 (by decide) ?_
    refine ev_iadd (pc := 7) dX6_arrive_7 ?_
    rw [nI_add]
    refine ev_goto (pc := 8) (tgt := 12) dX6_arrive_8 (by decide) ?_
    refine ev_istore (pc := 12) (lv' := [(0, .ref 30), (1, .int _), (2, .int _), (3, .int _), (4, .int _)]) dX6_arrive_12 (Nat.le_of_ble_eq_true rfl) rfl ?_
    refine ev_aload_n (pc := 14) dX6_arrive_14 rfl ?_
    refine get_RD_earliest (pc := 15) dX6_arrive_15 Fl_X6_18 ?_
    refine ev_iload (pc := 18) dX6_arrive_18 rfl ?_
    refine ev_aload_n (pc := 20) dX6_arrive_20 rfl ?_
    refine get_RD_earliest (pc := 21) dX6_arrive_21 Fl_X6_18 ?_
    refine ev_iload (pc := 24) dX6_arrive_24 rfl ?_
    refine ldN_RD_earliest (pc := 26) dX6_arrive_26 (by omega) rfl ?_
    refine ev_iload_n (pc := 27) dX6_arrive_27 rfl ?_
    refine ev_mmin (pc := 28) dX6_arrive_28 Mx_X6_56 Mxs_minI In_Math Mxc_minI rfl rfl ?_
    refine asN_RD_earliest (pc := 31) dX6_arrive_31 (by omega) ?_
    exact ev_ret (pc := 32) dX6_arrive_32 rfl rv
def endP (S : St) (l a b s : Nat) : Int32 := if s = 0 then (if a = 0 then S.1 13 else S.2.1 14 (l - a)) else (if b = 0 then S.1 13 else S.2.1 14 (l + b - 1))
theorem c_X6_placeAtEnd {l a b s : Nat} (hl : S.1 14 = nI l) (ha : a ≤ l) (hb : l + b ≤ 16) (hs : s < 2) : Ct g mX6_placeAtEnd [.ref 30, .int (nI a), .int (nI b), .int (nI s)] (hC S) (RI (endP S l a b s) S) := by
  refine ct_of rfl rfl ?_
  unfold endP
  refine ev_iload_n (pc := 0) dX6_placeAtEnd_0 rfl ?_
  refine ev_if_neN (pc := 1) (tgt := 27) (by omega) dX6_placeAtEnd_1 (by decide) (fun c1 => ?_) (fun c1 => ?_)
  · simp only [if_neg c1]
    refine ev_iload_n (pc := 27) dX6_placeAtEnd_27 rfl ?_
    refine ev_if_neN (pc := 28) (tgt := 38) (by omega) dX6_placeAtEnd_28 (by decide) (fun c28 => ?_) (fun c28 => ?_)
    · simp only [if_neg c28]
      refine ev_aload_n (pc := 38) dX6_placeAtEnd_38 rfl ?_
      refine get_RD_place (pc := 39) dX6_placeAtEnd_39 Fl_X6_9 ?_
      refine ev_aload_n (pc := 42) dX6_placeAtEnd_42 rfl ?_
      refine get_RD_left (pc := 43) dX6_placeAtEnd_43 Fl_X6_31 hl ?_
      refine ev_iload_n (pc := 46) dX6_placeAtEnd_46 rfl ?_
      refine ev_iadd (pc := 47) dX6_placeAtEnd_47 ?_
      refine ev_iconst (pc := 48) (v := nI 1) dX6_placeAtEnd_48 (by decide) ?_
      refine ev_isub (pc := 49) dX6_placeAtEnd_49 ?_
      rw [nI_add, pk_sub (by omega)]
      refine ldN_RD_place (pc := 50) dX6_placeAtEnd_50 (by omega) rfl ?_
      exact ev_iret (pc := 51) dX6_placeAtEnd_51 rfl rfl ri
    · simp only [if_pos c28]
      refine ev_aload_n (pc := 31) dX6_placeAtEnd_31 rfl ?_
      refine get_RD_begin (pc := 32) dX6_placeAtEnd_32 Fl_X6_28 rfl ?_
      refine ev_goto (pc := 35) (tgt := 51) dX6_placeAtEnd_35 (by decide) ?_
      exact ev_iret (pc := 51) dX6_placeAtEnd_51 rfl rfl ri
  · simp only [if_pos c1]
    refine ev_iload_n (pc := 4) dX6_placeAtEnd_4 rfl ?_
    refine ev_if_neN (pc := 5) (tgt := 15) (by omega) dX6_placeAtEnd_5 (by decide) (fun c5 => ?_) (fun c5 => ?_)
    · simp only [if_neg c5]
      refine ev_aload_n (pc := 15) dX6_placeAtEnd_15 rfl ?_
      refine get_RD_place (pc := 16) dX6_placeAtEnd_16 Fl_X6_9 ?_
      refine ev_aload_n (pc := 19) dX6_placeAtEnd_19 rfl ?_
      refine get_RD_left (pc := 20) dX6_placeAtEnd_20 Fl_X6_31 hl ?_
      refine ev_iload_n (pc := 23) dX6_placeAtEnd_23 rfl ?_
      refine ev_isub (pc := 24) dX6_placeAtEnd_24 ?_
      rw [pk_sub ha]
      refine ldN_RD_place (pc := 25) dX6_placeAtEnd_25 (by omega) rfl ?_
      exact ev_iret (pc := 26) dX6_placeAtEnd_26 rfl rfl ri
    · simp only [if_pos c5]
      refine ev_aload_n (pc := 8) dX6_placeAtEnd_8 rfl ?_
      refine get_RD_begin (pc := 9) dX6_placeAtEnd_9 Fl_X6_28 rfl ?_
      refine ev_goto (pc := 12) (tgt := 26) dX6_placeAtEnd_12 (by decide) ?_
      exact ev_iret (pc := 26) dX6_placeAtEnd_26 rfl rfl ri
def goB (l r a b s : Nat) (here : Int32) (m : Nat) (X : St) : St :=
  if X.2.1 16 (cellN r a b s m) = 1000000 then X else
  let now := X.2.1 16 (cellN r a b s m)
  let X1 := setA X 17 (upd (X.2.1 17) m (if now < X.2.1 17 m then now else X.2.1 17 m))
  let X2 := if l ≤ a then X1 else arrS (cellN r (a + 1) b 0 m) (now + here - X1.2.1 14 (l - a - 1)) (X1.2.1 15 (l - a - 1)) X1
  if r ≤ b then X2 else arrS (cellN r a (b + 1) 1 m) (now + X2.2.1 14 (l + b) - here) (X2.2.1 15 (l + b)) X2
/-- the same but for the two tables of the walk -/
def eqA (X S : St) : Prop := X.1 = S.1 ∧ X.2.2 = S.2.2 ∧ ∀ n, n ≠ 16 → n ≠ 17 → X.2.1 n = S.2.1 n
theorem eqA.rf : eqA S S := ⟨rfl, rfl, fun _ _ _ => rfl⟩
theorem eqA.tr {X Y : St} (h : eqA Y X) (h2 : eqA X S) : eqA Y S := ⟨h.1.trans h2.1, h.2.1.trans h2.2.1, fun n a b => (h.2.2 n a b).trans (h2.2.2 n a b)⟩
theorem eqA.e (f : Nat → Int32) : eqA (setA S 16 f) S := ⟨rfl, rfl, fun n a _ => by show va_up S.2.1 _ f n = _; simp [va_up, a]⟩
theorem eqA.h (f : Nat → Int32) : eqA (setA S 17 f) S := ⟨rfl, rfl, fun n _ b => by show va_up S.2.1 _ f n = _; simp [va_up, b]⟩
theorem eqA.it {f : Nat → St → St} (h : ∀ k X, eqA (f k X) X) : ∀ k S, eqA (it f k S) S
  | 0, _ => eqA.rf
  | k + 1, S => (h k _).tr (eqA.it h k S)
theorem arrS_eq (c : Nat) (t l : Int32) (X : St) : eqA (arrS c t l X) X := eqA.e _
theorem goB_eq (l r a b s : Nat) (here : Int32) (m : Nat) (X : St) : eqA (goB l r a b s here m X) X := by
  unfold goB
  by_cases h : X.2.1 16 (cellN r a b s m) = 1000000
  · rw [if_pos h]; exact eqA.rf
  · rw [if_neg h]
    dsimp only
    generalize (if X.2.1 16 (cellN r a b s m) < X.2.1 17 m then X.2.1 16 (cellN r a b s m) else X.2.1 17 m) = w
    generalize X.2.1 16 (cellN r a b s m) = now
    by_cases h1 : l ≤ a <;> by_cases h2 : r ≤ b <;> simp only [if_pos, if_neg, h1, h2, not_false_eq_true]
    · exact eqA.h _
    · exact (arrS_eq _ _ _ _).tr (eqA.h _)
    · exact (arrS_eq _ _ _ _).tr (eqA.h _)
    · exact (arrS_eq _ _ _ _).tr ((arrS_eq _ _ _ _).tr (eqA.h _))
theorem sq81 : ∀ l, l < 17 → ∀ r, r < 17 → l + r ≤ 16 → (l + 1) * (r + 1) ≤ 81 := by decide +kernel
theorem cell_le {l r a b s m : Nat} (hlr : l + r ≤ 16) (ha : a ≤ l) (hb : b ≤ r) (hs : s < 2) (hm : m ≤ 16) : cellN r a b s m < 2754 := by
  have h1 := sq81 l (by omega) r (by omega) hlr
  have h2 : a * (r + 1) ≤ l * (r + 1) := Nat.mul_le_mul_right _ ha
  have h3 : (l + 1) * (r + 1) = l * (r + 1) + (r + 1) := by rw [Nat.add_mul, Nat.one_mul]
  unfold cellN
  omega
/-- the road as it is walked -/
def Rs (S : St) (l r : Nat) : Prop := S.1 14 = nI l ∧ S.1 15 = nI r ∧ l + r ≤ 16
theorem Rs.eq {X : St} {l r : Nat} (h : Rs S l r) (e : eqA X S) : Rs X l r := by
  unfold Rs; rw [e.1]; exact h
theorem go_step {l r a b s m : Nat} {here : Int32} (X : St) (Post : Option Value → List va_E → Prop) (hR : Rs X l r) (ha : a ≤ l) (hb : b ≤ r) (hs : s < 2) (hm : m ≤ a + b) (ih : Ev g mX6_goOnFrom 12 [(0, .ref 30), (1, .int (nI a)), (2, .int (nI b)), (3, .int (nI s)), (4, .int here), (5, .int (nI (m + 1)))] [] (hC (goB l r a b s here m X)) Post) : Ev g mX6_goOnFrom 12 [(0, .ref 30), (1, .int (nI a)), (2, .int (nI b)), (3, .int (nI s)), (4, .int here), (5, .int (nI m))] [] (hC X) Post := by
  obtain ⟨hl, hr, hlr⟩ := hR
  have hc0 := cell_le hlr ha hb hs (show m ≤ 16 by omega)
  have t2 : ∀ (X : St) (now : Int32) (Post : Option Value → List va_E → Prop), X.1 14 = nI l → X.1 15 = nI r → Ev g mX6_goOnFrom 12 [(0, .ref 30), (1, .int (nI a)), (2, .int (nI b)), (3, .int (nI s)), (4, .int here), (5, .int (nI (m + 1)))] [] (hC (if r ≤ b then X else arrS (cellN r a (b + 1) 1 m) (now + X.2.1 14 (l + b) - here) (X.2.1 15 (l + b)) X)) Post → Ev g mX6_goOnFrom 122 [(0, .ref 30), (1, .int (nI a)), (2, .int (nI b)), (3, .int (nI s)), (4, .int here), (5, .int (nI m)), (6, .int now)] [] (hC X) Post := by
    intro X now Post hl hr k
    refine ev_iload_n (pc := 122) dX6_goOnFrom_122 rfl ?_
    refine ev_aload_n (pc := 123) dX6_goOnFrom_123 rfl ?_
    refine get_RD_right (pc := 124) dX6_goOnFrom_124 Fl_X6_34 hr ?_
    refine ev_icmp_geN (pc := 127) (tgt := 177) (by omega) (by omega) dX6_goOnFrom_127 (by decide) (fun c127 => ?_) (fun c127 => ?_)
    · rw [if_pos c127] at k
      refine ev_iincN (pc := 177) (lv' := [(0, .ref 30), (1, .int _), (2, .int _), (3, .int _), (4, .int _), (5, .int _), (6, .int _)]) dX6_goOnFrom_177 rfl (Nat.le_of_ble_eq_true rfl) rfl ?_
      refine ev_goto (pc := 180) (tgt := 12) dX6_goOnFrom_180 (by decide) ?_
      exact ev_keep [0, 1, 2, 3, 4, 5] k
    · rw [if_neg c127] at k
      refine ev_aload_n (pc := 130) dX6_goOnFrom_130 rfl ?_
      refine get_RD_left (pc := 131) dX6_goOnFrom_131 Fl_X6_31 hl ?_
      refine ev_iload_n (pc := 134) dX6_goOnFrom_134 rfl ?_
      refine ev_iadd (pc := 135) dX6_goOnFrom_135 ?_
      rw [nI_add]
      refine ev_istore (pc := 136) (lv' := [(0, .ref 30), (1, .int _), (2, .int _), (3, .int _), (4, .int _), (5, .int _), (6, .int _), (7, .int _)]) dX6_goOnFrom_136 (Nat.le_of_ble_eq_true rfl) rfl ?_
      refine ev_iload (pc := 138) dX6_goOnFrom_138 rfl ?_
      refine ev_aload_n (pc := 140) dX6_goOnFrom_140 rfl ?_
      refine get_RD_place (pc := 141) dX6_goOnFrom_141 Fl_X6_9 ?_
      refine ev_iload (pc := 144) dX6_goOnFrom_144 rfl ?_
      refine ldN_RD_place (pc := 146) dX6_goOnFrom_146 (by omega) rfl ?_
      refine ev_iadd (pc := 147) dX6_goOnFrom_147 ?_
      refine ev_iload (pc := 148) dX6_goOnFrom_148 rfl ?_
      refine ev_isub (pc := 150) dX6_goOnFrom_150 ?_
      refine ev_istore (pc := 151) (lv' := [(0, .ref 30), (1, .int _), (2, .int _), (3, .int _), (4, .int _), (5, .int _), (6, .int _), (7, .int _), (8, .int _)]) dX6_goOnFrom_151 (Nat.le_of_ble_eq_true rfl) rfl ?_
      refine ev_aload_n (pc := 153) dX6_goOnFrom_153 rfl ?_
      refine ev_aload_n (pc := 154) dX6_goOnFrom_154 rfl ?_
      refine ev_iload_n (pc := 155) dX6_goOnFrom_155 rfl ?_
      refine ev_iload_n (pc := 156) dX6_goOnFrom_156 rfl ?_
      refine ev_iconst (pc := 157) (v := nI 1) dX6_goOnFrom_157 (by decide) ?_
      refine ev_iadd (pc := 158) dX6_goOnFrom_158 ?_
      rw [nI_add]
      refine ev_iconst (pc := 159) (v := nI 1) dX6_goOnFrom_159 (by decide) ?_
      refine ev_iload (pc := 160) dX6_goOnFrom_160 rfl ?_
      refine callV4I (pc := 162) dX6_goOnFrom_162 Ml_X6_44 M_X6_cellOf rfl rfl rfl rfl (c_X6_cellOf hr) ?_
      refine ev_iload (pc := 165) dX6_goOnFrom_165 rfl ?_
      refine ev_aload_n (pc := 167) dX6_goOnFrom_167 rfl ?_
      refine get_RD_hour (pc := 168) dX6_goOnFrom_168 Fl_X6_15 ?_
      refine ev_iload (pc := 171) dX6_goOnFrom_171 rfl ?_
      refine ldN_RD_hour (pc := 173) dX6_goOnFrom_173 (by omega) rfl ?_
      refine callV3V (pc := 174) dX6_goOnFrom_174 Ml_X6_62 M_X6_arrive rfl rfl rfl rfl (c_X6_arrive (by have := cell_le (l := l) (r := r) (a := a) (b := b + 1) (s := 1) (m := m + 1) hlr ha (by omega) (by omega) (by omega); unfold cellN at *; omega)) ?_
      refine ev_iincN (pc := 177) (lv' := [(0, .ref 30), (1, .int _), (2, .int _), (3, .int _), (4, .int _), (5, .int _), (6, .int _), (7, .int _), (8, .int _)]) dX6_goOnFrom_177 rfl (Nat.le_of_ble_eq_true rfl) rfl ?_
      refine ev_goto (pc := 180) (tgt := 12) dX6_goOnFrom_180 (by decide) ?_
      exact ev_keep [0, 1, 2, 3, 4, 5] k
  have t1 : ∀ (X : St) (now : Int32) (Post : Option Value → List va_E → Prop), X.1 14 = nI l → X.1 15 = nI r → Ev g mX6_goOnFrom 122 [(0, .ref 30), (1, .int (nI a)), (2, .int (nI b)), (3, .int (nI s)), (4, .int here), (5, .int (nI m)), (6, .int now)] [] (hC (if l ≤ a then X else arrS (cellN r (a + 1) b 0 m) (now + here - X.2.1 14 (l - a - 1)) (X.2.1 15 (l - a - 1)) X)) Post → Ev g mX6_goOnFrom 65 [(0, .ref 30), (1, .int (nI a)), (2, .int (nI b)), (3, .int (nI s)), (4, .int here), (5, .int (nI m)), (6, .int now)] [] (hC X) Post := by
    intro X now Post hl hr k
    refine ev_iload_n (pc := 65) dX6_goOnFrom_65 rfl ?_
    refine ev_aload_n (pc := 66) dX6_goOnFrom_66 rfl ?_
    refine get_RD_left (pc := 67) dX6_goOnFrom_67 Fl_X6_31 hl ?_
    refine ev_icmp_geN (pc := 70) (tgt := 122) (by omega) (by omega) dX6_goOnFrom_70 (by decide) (fun c70 => ?_) (fun c70 => ?_)
    · rw [if_pos c70] at k
      exact ev_keep [0, 1, 2, 3, 4, 5, 6] k
    · rw [if_neg c70] at k
      refine ev_aload_n (pc := 73) dX6_goOnFrom_73 rfl ?_
      refine get_RD_left (pc := 74) dX6_goOnFrom_74 Fl_X6_31 hl ?_
      refine ev_iload_n (pc := 77) dX6_goOnFrom_77 rfl ?_
      refine ev_isub (pc := 78) dX6_goOnFrom_78 ?_
      refine ev_iconst (pc := 79) (v := nI 1) dX6_goOnFrom_79 (by decide) ?_
      refine ev_isub (pc := 80) dX6_goOnFrom_80 ?_
      rw [pk_sub ha, pk_sub (by omega)]
      refine ev_istore (pc := 81) (lv' := [(0, .ref 30), (1, .int _), (2, .int _), (3, .int _), (4, .int _), (5, .int _), (6, .int _), (7, .int _)]) dX6_goOnFrom_81 (Nat.le_of_ble_eq_true rfl) rfl ?_
      refine ev_iload (pc := 83) dX6_goOnFrom_83 rfl ?_
      refine ev_iload (pc := 85) dX6_goOnFrom_85 rfl ?_
      refine ev_iadd (pc := 87) dX6_goOnFrom_87 ?_
      refine ev_aload_n (pc := 88) dX6_goOnFrom_88 rfl ?_
      refine get_RD_place (pc := 89) dX6_goOnFrom_89 Fl_X6_9 ?_
      refine ev_iload (pc := 92) dX6_goOnFrom_92 rfl ?_
      refine ldN_RD_place (pc := 94) dX6_goOnFrom_94 (by omega) rfl ?_
      refine ev_isub (pc := 95) dX6_goOnFrom_95 ?_
      refine ev_istore (pc := 96) (lv' := [(0, .ref 30), (1, .int _), (2, .int _), (3, .int _), (4, .int _), (5, .int _), (6, .int _), (7, .int _), (8, .int _)]) dX6_goOnFrom_96 (Nat.le_of_ble_eq_true rfl) rfl ?_
      refine ev_aload_n (pc := 98) dX6_goOnFrom_98 rfl ?_
      refine ev_aload_n (pc := 99) dX6_goOnFrom_99 rfl ?_
      refine ev_iload_n (pc := 100) dX6_goOnFrom_100 rfl ?_
      refine ev_iconst (pc := 101) (v := nI 1) dX6_goOnFrom_101 (by decide) ?_
      refine ev_iadd (pc := 102) dX6_goOnFrom_102 ?_
      rw [nI_add]
      refine ev_iload_n (pc := 103) dX6_goOnFrom_103 rfl ?_
      refine ev_iconst (pc := 104) (v := nI 0) dX6_goOnFrom_104 (by decide) ?_
      refine ev_iload (pc := 105) dX6_goOnFrom_105 rfl ?_
      refine callV4I (pc := 107) dX6_goOnFrom_107 Ml_X6_44 M_X6_cellOf rfl rfl rfl rfl (c_X6_cellOf hr) ?_
      refine ev_iload (pc := 110) dX6_goOnFrom_110 rfl ?_
      refine ev_aload_n (pc := 112) dX6_goOnFrom_112 rfl ?_
      refine get_RD_hour (pc := 113) dX6_goOnFrom_113 Fl_X6_15 ?_
      refine ev_iload (pc := 116) dX6_goOnFrom_116 rfl ?_
      refine ldN_RD_hour (pc := 118) dX6_goOnFrom_118 (by omega) rfl ?_
      refine callV3V (pc := 119) dX6_goOnFrom_119 Ml_X6_62 M_X6_arrive rfl rfl rfl rfl (c_X6_arrive (by have := cell_le (l := l) (r := r) (a := a + 1) (b := b) (s := 0) (m := m + 1) hlr (by omega) hb (by omega) (by omega); unfold cellN at *; omega)) ?_
      exact ev_keep [0, 1, 2, 3, 4, 5, 6] k
  unfold goB at ih
  refine ev_iload (pc := 12) dX6_goOnFrom_12 rfl ?_
  refine ev_iload_n (pc := 14) dX6_goOnFrom_14 rfl ?_
  refine ev_iload_n (pc := 15) dX6_goOnFrom_15 rfl ?_
  refine ev_iadd (pc := 16) dX6_goOnFrom_16 ?_
  rw [nI_add]
  refine ev_icmp_gtN (pc := 17) (tgt := 183) (by omega) (by omega) dX6_goOnFrom_17 (by decide) (fun c17 => absurd c17 (by omega)) (fun c17 => ?_)
  refine ev_aload_n (pc := 20) dX6_goOnFrom_20 rfl ?_
  refine get_RD_earliest (pc := 21) dX6_goOnFrom_21 Fl_X6_18 ?_
  refine ev_aload_n (pc := 24) dX6_goOnFrom_24 rfl ?_
  refine ev_iload_n (pc := 25) dX6_goOnFrom_25 rfl ?_
  refine ev_iload_n (pc := 26) dX6_goOnFrom_26 rfl ?_
  refine ev_iload_n (pc := 27) dX6_goOnFrom_27 rfl ?_
  refine ev_iload (pc := 28) dX6_goOnFrom_28 rfl ?_
  refine callV4I (pc := 30) dX6_goOnFrom_30 Ml_X6_44 M_X6_cellOf rfl rfl rfl rfl (c_X6_cellOf hr) ?_
  refine ldN_RD_earliest (pc := 33) dX6_goOnFrom_33 (by omega) rfl ?_
  refine ev_istore (pc := 34) (lv' := [(0, .ref 30), (1, .int _), (2, .int _), (3, .int _), (4, .int _), (5, .int _), (6, .int _)]) dX6_goOnFrom_34 (Nat.le_of_ble_eq_true rfl) rfl ?_
  refine ev_iload (pc := 36) dX6_goOnFrom_36 rfl ?_
  refine ev_ldc (pc := 38) dX6_goOnFrom_38 Cn_X6_37 ?_
  refine ev_icmp_ne (pc := 40) (tgt := 46) dX6_goOnFrom_40 (by decide) (fun c40 => ?_) (fun c40 => ?_)
  · rw [if_neg c40] at ih
    refine ev_aload_n (pc := 46) dX6_goOnFrom_46 rfl ?_
    refine get_RD_hourOfCount (pc := 47) dX6_goOnFrom_47 Fl_X6_21 ?_
    refine ev_iload (pc := 50) dX6_goOnFrom_50 rfl ?_
    refine ev_aload_n (pc := 52) dX6_goOnFrom_52 rfl ?_
    refine get_RD_hourOfCount (pc := 53) dX6_goOnFrom_53 Fl_X6_21 ?_
    refine ev_iload (pc := 56) dX6_goOnFrom_56 rfl ?_
    refine ldN_RD_hourOfCount (pc := 58) dX6_goOnFrom_58 (by omega) rfl ?_
    refine ev_iload (pc := 59) dX6_goOnFrom_59 rfl ?_
    refine ev_mmin (pc := 61) dX6_goOnFrom_61 Mx_X6_56 Mxs_minI In_Math Mxc_minI rfl rfl ?_
    refine asN_RD_hourOfCount (pc := 64) dX6_goOnFrom_64 (by omega) ?_
    refine t1 _ _ Post hl hr ?_
    refine t2 _ _ Post (by split <;> exact hl) (by split <;> exact hr) ?_
    exact ih
  · rw [if_pos c40] at ih
    refine ev_goto (pc := 43) (tgt := 177) dX6_goOnFrom_43 (by decide) ?_
    refine ev_iincN (pc := 177) (lv' := [(0, .ref 30), (1, .int _), (2, .int _), (3, .int _), (4, .int _), (5, .int _), (6, .int _)]) dX6_goOnFrom_177 rfl (Nat.le_of_ble_eq_true rfl) rfl ?_
    refine ev_goto (pc := 180) (tgt := 12) dX6_goOnFrom_180 (by decide) ?_
    exact ev_keep [0, 1, 2, 3, 4, 5] ih
def goS (l r a b s : Nat) (X : St) : St := it (goB l r a b s (endP X l a b s)) (a + b + 1) X
theorem goS_eq (l r a b s : Nat) (X : St) : eqA (goS l r a b s X) X := eqA.it (goB_eq l r a b s _) _ _
theorem c_X6_goOnFrom {l r a b s : Nat} (hR : Rs S l r) (ha : a ≤ l) (hb : b ≤ r) (hs : s < 2) : Ct g mX6_goOnFrom [.ref 30, .int (nI a), .int (nI b), .int (nI s)] (hC S) (RV (goS l r a b s S)) := by
  have L : ∀ m, m ≤ a + b + 1 → Ev g mX6_goOnFrom 12 [(0, .ref 30), (1, .int (nI a)), (2, .int (nI b)), (3, .int (nI s)), (4, .int (endP S l a b s)), (5, .int (nI m))] [] (hC (it (goB l r a b s (endP S l a b s)) m S)) (RV (goS l r a b s S)) := by
    refine loop_up _ ?_ ?_
    · have hlr := hR.2.2
      refine ev_iload (pc := 12) dX6_goOnFrom_12 rfl ?_
      refine ev_iload_n (pc := 14) dX6_goOnFrom_14 rfl ?_
      refine ev_iload_n (pc := 15) dX6_goOnFrom_15 rfl ?_
      refine ev_iadd (pc := 16) dX6_goOnFrom_16 ?_
      rw [nI_add]
      refine ev_icmp_gtN (pc := 17) (tgt := 183) (by omega) (by omega) dX6_goOnFrom_17 (by decide) (fun c17 => ?_) (fun c17 => absurd (show a + b < a + b + 1 by omega) c17)
      exact ev_ret (pc := 183) dX6_goOnFrom_183 rfl rv
    · intro m hm ih
      exact go_step _ _ (hR.eq (eqA.it (goB_eq l r a b s _) _ _)) ha hb hs (by omega) ih
  have hlr := hR.2.2
  refine ct_of rfl rfl ?_
  refine ev_aload_n (pc := 0) dX6_goOnFrom_0 rfl ?_
  refine ev_iload_n (pc := 1) dX6_goOnFrom_1 rfl ?_
  refine ev_iload_n (pc := 2) dX6_goOnFrom_2 rfl ?_
  refine ev_iload_n (pc := 3) dX6_goOnFrom_3 rfl ?_
  refine callV3I (pc := 4) dX6_goOnFrom_4 Ml_X6_52 M_X6_placeAtEnd rfl rfl rfl rfl (c_X6_placeAtEnd hR.1 ha (by omega) hs) ?_
  refine ev_istore (pc := 7) (lv' := [(0, .ref 30), (1, .int _), (2, .int _), (3, .int _), (4, .int _)]) dX6_goOnFrom_7 (Nat.le_of_ble_eq_true rfl) rfl ?_
  refine ev_iconst (pc := 9) (v := nI 0) dX6_goOnFrom_9 (by decide) ?_
  refine ev_istore (pc := 10) (lv' := [(0, .ref 30), (1, .int _), (2, .int _), (3, .int _), (4, .int _), (5, .int _)]) dX6_goOnFrom_10 (Nat.le_of_ble_eq_true rfl) rfl ?_
  exact L 0 (Nat.zero_le _)
end RD
end
section
section RD2
variable {g : GG} {S : St}
/-- how many lie ahead of the beginning -/
def lcF (pl : Nat → Int32) (bg : Int32) : Nat → Nat → Nat
  | 0, k => k
  | r + 1, k => if bg ≤ pl k then k else lcF pl bg r (k + 1)
theorem lcF_le (pl : Nat → Int32) (bg : Int32) : ∀ r k, lcF pl bg r k ≤ k + r
  | 0, k => Nat.le_refl _
  | r + 1, k => by
    unfold lcF
    split
    · omega
    · have := lcF_le pl bg r (k + 1); omega
def goAB (l r a b : Nat) (X : St) : St := goS l r a b 1 (goS l r a b 0 X)
theorem goAB_eq (l r a b : Nat) (X : St) : eqA (goAB l r a b X) X := (goS_eq l r a b 1 _).tr (goS_eq l r a b 0 X)
def goA (l r a : Nat) (X : St) : St := it (goAB l r a) (r + 1) X
theorem goA_eq (l r a : Nat) (X : St) : eqA (goA l r a X) X := eqA.it (goAB_eq l r a) _ _
def walk0 (bg : Int32) (n : Nat) (S : St) : St :=
  let l := lcF (S.2.1 14) bg n 0
  let X1 := setI (setI (setI S 13 bg) 14 (nI l)) 15 (nI (n - l))
  let X2 := setA X1 16 (fillF 2754 1000000 (X1.2.1 16))
  let X3 := setA X2 17 (fillF 17 1000000 (X2.2.1 17))
  setA X3 16 (upd (X3.2.1 16) 0 0)
def walkS (bg : Int32) (n : Nat) (S : St) : St :=
  let l := lcF (S.2.1 14) bg n 0
  it (goA l (n - l)) (l + 1) (walk0 bg n S)
theorem setI_set (S : St) (n : Nat) (x y : Int32) : setI (setI S n x) n y = setI S n y := by
  unfold setI
  congr 1
  funext j
  simp only [va_up]
  split <;> rfl
theorem wk_left {bg : Int32} {n : Nat} (hs : S.1 12 = nI n) (hn : n ≤ 16) (Post : Option Value → List va_E → Prop) (k : Ev g mX6_walk 50 [(0, .ref 30), (1, .int bg)] [] (hC (setI (setI S 13 bg) 14 (nI (lcF (S.2.1 14) bg n 0)))) Post) : Ev g mX6_walk 0 [(0, .ref 30), (1, .int bg)] [] (hC S) Post := by
  have L : ∀ (r j : Nat), j + r = n → Ev g mX6_walk 50 [(0, .ref 30), (1, .int bg)] [] (hC (setI (setI S 13 bg) 14 (nI (lcF (S.2.1 14) bg r j)))) Post → Ev g mX6_walk 10 [(0, .ref 30), (1, .int bg)] [] (hC (setI (setI S 13 bg) 14 (nI j))) Post := by
    intro r
    induction r with
    | zero =>
      intro j hj k
      refine ev_aload_n (pc := 10) dX6_walk_10 rfl ?_
      refine get_RD_left (pc := 11) dX6_walk_11 Fl_X6_31 (show _ = nI j from rfl) ?_
      refine ev_aload_n (pc := 14) dX6_walk_14 rfl ?_
      refine get_RD_size (pc := 15) dX6_walk_15 Fl_X6_24 hs ?_
      refine ev_icmp_geN (pc := 18) (tgt := 50) (by omega) (by omega) dX6_walk_18 (by decide) (fun c18 => ?_) (fun c18 => absurd (show n ≤ j by omega) c18)
      exact k
    | succ r ih =>
      intro j hj k
      unfold lcF at k
      refine ev_aload_n (pc := 10) dX6_walk_10 rfl ?_
      refine get_RD_left (pc := 11) dX6_walk_11 Fl_X6_31 (show _ = nI j from rfl) ?_
      refine ev_aload_n (pc := 14) dX6_walk_14 rfl ?_
      refine get_RD_size (pc := 15) dX6_walk_15 Fl_X6_24 hs ?_
      refine ev_icmp_geN (pc := 18) (tgt := 50) (by omega) (by omega) dX6_walk_18 (by decide) (fun c18 => absurd c18 (by omega)) (fun c18 => ?_)
      refine ev_aload_n (pc := 21) dX6_walk_21 rfl ?_
      refine get_RD_place (pc := 22) dX6_walk_22 Fl_X6_9 ?_
      refine ev_aload_n (pc := 25) dX6_walk_25 rfl ?_
      refine get_RD_left (pc := 26) dX6_walk_26 Fl_X6_31 (show _ = nI j from rfl) ?_
      refine ldN_RD_place (pc := 29) dX6_walk_29 (by omega) rfl ?_
      refine ev_aload_n (pc := 30) dX6_walk_30 rfl ?_
      refine get_RD_begin (pc := 31) dX6_walk_31 Fl_X6_28 (show _ = bg from rfl) ?_
      refine ev_icmp_ge (pc := 34) (tgt := 50) dX6_walk_34 (by decide) (fun c34 => ?_) (fun c34 => ?_)
      · have c34 : bg ≤ S.2.1 14 j := c34
        rw [if_pos c34] at k
        exact k
      · have c34 : ¬ bg ≤ S.2.1 14 j := c34
        rw [if_neg c34] at k
        refine ev_aload_n (pc := 37) dX6_walk_37 rfl ?_
        refine ev_dup (pc := 38) dX6_walk_38 rfl ?_
        refine get_RD_left (pc := 39) dX6_walk_39 Fl_X6_31 (show _ = nI j from rfl) ?_
        refine ev_iconst (pc := 42) (v := 1) dX6_walk_42 (by decide) ?_
        refine ev_iadd (pc := 43) dX6_walk_43 ?_
        rw [nI_1]
        refine put_RD_left (pc := 44) dX6_walk_44 Fp_X6_31 ?_
        refine ev_goto (pc := 47) (tgt := 10) dX6_walk_47 (by decide) ?_
        rw [setI_set]
        exact ih (j + 1) (by omega) k
  refine ev_aload_n (pc := 0) dX6_walk_0 rfl ?_
  refine ev_iload_n (pc := 1) dX6_walk_1 rfl ?_
  refine put_RD_begin (pc := 2) dX6_walk_2 Fp_X6_28 ?_
  refine ev_aload_n (pc := 5) dX6_walk_5 rfl ?_
  refine ev_iconst (pc := 6) (v := nI 0) dX6_walk_6 (by decide) ?_
  refine put_RD_left (pc := 7) dX6_walk_7 Fp_X6_31 ?_
  exact L n 0 (by omega) k
theorem wk_mid {bg : Int32} {n l : Nat} (hs : S.1 12 = nI n) (hn : n ≤ 16) (hl : S.1 14 = nI l) (hln : l ≤ n) (Post : Option Value → List va_E → Prop) (k : Ev g mX6_walk 97 [(0, .ref 30), (1, .int bg), (2, .int (nI 0))] [] (hC (
    let X1 := setI S 15 (nI (n - l))
    let X2 := setA X1 16 (fillF 2754 1000000 (X1.2.1 16))
    let X3 := setA X2 17 (fillF 17 1000000 (X2.2.1 17))
    setA X3 16 (upd (X3.2.1 16) 0 0))) Post) : Ev g mX6_walk 50 [(0, .ref 30), (1, .int bg)] [] (hC S) Post := by
  refine ev_aload_n (pc := 50) dX6_walk_50 rfl ?_
  refine ev_aload_n (pc := 51) dX6_walk_51 rfl ?_
  refine get_RD_size (pc := 52) dX6_walk_52 Fl_X6_24 hs ?_
  refine ev_aload_n (pc := 55) dX6_walk_55 rfl ?_
  refine get_RD_left (pc := 56) dX6_walk_56 Fl_X6_31 hl ?_
  refine ev_isub (pc := 59) dX6_walk_59 ?_
  rw [pk_sub hln]
  refine put_RD_right (pc := 60) dX6_walk_60 Fp_X6_34 ?_
  refine ev_aload_n (pc := 63) dX6_walk_63 rfl ?_
  refine get_RD_earliest (pc := 64) dX6_walk_64 Fl_X6_18 ?_
  refine ev_ldc (pc := 67) dX6_walk_67 Cn_X6_37 ?_
  refine callS2V (pc := 69) dX6_walk_69 Ml_X6_38 M_J7_fill_53178 rfl rfl c_fill_RD_earliest ?_
  refine ev_aload_n (pc := 72) dX6_walk_72 rfl ?_
  refine get_RD_hourOfCount (pc := 73) dX6_walk_73 Fl_X6_21 ?_
  refine ev_ldc (pc := 76) dX6_walk_76 Cn_X6_37 ?_
  refine callS2V (pc := 78) dX6_walk_78 Ml_X6_38 M_J7_fill_53178 rfl rfl c_fill_RD_hourOfCount ?_
  refine ev_aload_n (pc := 81) dX6_walk_81 rfl ?_
  refine get_RD_earliest (pc := 82) dX6_walk_82 Fl_X6_18 ?_
  refine ev_aload_n (pc := 85) dX6_walk_85 rfl ?_
  refine ev_iconst (pc := 86) (v := nI 0) dX6_walk_86 (by decide) ?_
  refine ev_iconst (pc := 87) (v := nI 0) dX6_walk_87 (by decide) ?_
  refine ev_iconst (pc := 88) (v := nI 0) dX6_walk_88 (by decide) ?_
  refine ev_iconst (pc := 89) (v := nI 0) dX6_walk_89 (by decide) ?_
  refine callV4I (pc := 90) dX6_walk_90 Ml_X6_44 M_X6_cellOf rfl rfl rfl rfl (c_X6_cellOf (r := n - l) rfl) ?_
  refine ev_iconst (pc := 93) (v := 0) dX6_walk_93 (by decide) ?_
  rw [show cellN (n - l) 0 0 0 0 = 0 by simp [cellN]]
  refine asN_RD_earliest (pc := 94) dX6_walk_94 (by omega) ?_
  refine ev_iconst (pc := 95) (v := nI 0) dX6_walk_95 (by decide) ?_
  refine ev_istore_n (pc := 96) (lv' := [(0, .ref 30), (1, .int _), (2, .int _)]) dX6_walk_96 (Nat.le_of_ble_eq_true rfl) rfl ?_
  exact k
theorem wk_in {bg : Int32} {l r a : Nat} (hR : Rs S l r) (ha : a ≤ l) (Post : Option Value → List va_E → Prop) (k : Ev g mX6_walk 97 [(0, .ref 30), (1, .int bg), (2, .int (nI (a + 1)))] [] (hC (goA l r a S)) Post) : Ev g mX6_walk 97 [(0, .ref 30), (1, .int bg), (2, .int (nI a))] [] (hC S) Post := by
  have L : ∀ b, b ≤ r + 1 → Ev g mX6_walk 107 [(0, .ref 30), (1, .int bg), (2, .int (nI a)), (3, .int (nI b))] [] (hC (it (goAB l r a) b S)) Post := by
    refine loop_up _ ?_ ?_
    · obtain ⟨hl, hr, hlr⟩ := hR.eq (eqA.it (goAB_eq l r a) (r + 1) S)
      refine ev_iload_n (pc := 107) dX6_walk_107 rfl ?_
      refine ev_aload_n (pc := 108) dX6_walk_108 rfl ?_
      refine get_RD_right (pc := 109) dX6_walk_109 Fl_X6_34 hr ?_
      refine ev_icmp_gtN (pc := 112) (tgt := 135) (by omega) (by omega) dX6_walk_112 (by decide) (fun c112 => ?_) (fun c112 => absurd (show r < r + 1 by omega) c112)
      refine ev_iincN (pc := 135) (lv' := [(0, .ref 30), (1, .int _), (2, .int _), (3, .int _)]) dX6_walk_135 rfl (Nat.le_of_ble_eq_true rfl) rfl ?_
      refine ev_goto (pc := 138) (tgt := 97) dX6_walk_138 (by decide) ?_
      exact ev_keep [0, 1, 2] k
    · intro b hb ih
      have hR' := hR.eq (eqA.it (goAB_eq l r a) b S)
      rw [it_s] at ih
      generalize it (goAB l r a) b S = X at *
      obtain ⟨hl, hr, hlr⟩ := id hR'
      refine ev_iload_n (pc := 107) dX6_walk_107 rfl ?_
      refine ev_aload_n (pc := 108) dX6_walk_108 rfl ?_
      refine get_RD_right (pc := 109) dX6_walk_109 Fl_X6_34 hr ?_
      refine ev_icmp_gtN (pc := 112) (tgt := 135) (by omega) (by omega) dX6_walk_112 (by decide) (fun c112 => absurd c112 (by omega)) (fun c112 => ?_)
      refine ev_aload_n (pc := 115) dX6_walk_115 rfl ?_
      refine ev_iload_n (pc := 116) dX6_walk_116 rfl ?_
      refine ev_iload_n (pc := 117) dX6_walk_117 rfl ?_
      refine ev_iconst (pc := 118) (v := nI 0) dX6_walk_118 (by decide) ?_
      refine callV3V (pc := 119) dX6_walk_119 Ml_X6_48 M_X6_goOnFrom rfl rfl rfl rfl (c_X6_goOnFrom hR' ha (by omega) (by decide)) ?_
      refine ev_aload_n (pc := 122) dX6_walk_122 rfl ?_
      refine ev_iload_n (pc := 123) dX6_walk_123 rfl ?_
      refine ev_iload_n (pc := 124) dX6_walk_124 rfl ?_
      refine ev_iconst (pc := 125) (v := nI 1) dX6_walk_125 (by decide) ?_
      refine callV3V (pc := 126) dX6_walk_126 Ml_X6_48 M_X6_goOnFrom rfl rfl rfl rfl (c_X6_goOnFrom (hR'.eq (goS_eq l r a b 0 X)) ha (by omega) (by decide)) ?_
      refine ev_iincN (pc := 129) (lv' := [(0, .ref 30), (1, .int _), (2, .int _), (3, .int _)]) dX6_walk_129 rfl (Nat.le_of_ble_eq_true rfl) rfl ?_
      refine ev_goto (pc := 132) (tgt := 107) dX6_walk_132 (by decide) ?_
      exact ih
  obtain ⟨hl, hr, hlr⟩ := hR
  have L0 := L 0 (Nat.zero_le _)
  rw [it_0] at L0
  refine ev_iload_n (pc := 97) dX6_walk_97 rfl ?_
  refine ev_aload_n (pc := 98) dX6_walk_98 rfl ?_
  refine get_RD_left (pc := 99) dX6_walk_99 Fl_X6_31 hl ?_
  refine ev_icmp_gtN (pc := 102) (tgt := 141) (by omega) (by omega) dX6_walk_102 (by decide) (fun c102 => absurd c102 (by omega)) (fun c102 => ?_)
  refine ev_iconst (pc := 105) (v := nI 0) dX6_walk_105 (by decide) ?_
  refine ev_istore_n (pc := 106) (lv' := [(0, .ref 30), (1, .int _), (2, .int _), (3, .int _)]) dX6_walk_106 (Nat.le_of_ble_eq_true rfl) rfl ?_
  exact L0
theorem wk_out {bg : Int32} {l r : Nat} (hR : Rs S l r) : Ev g mX6_walk 97 [(0, .ref 30), (1, .int bg), (2, .int (nI 0))] [] (hC S) (RV (it (goA l r) (l + 1) S)) := by
  have L : ∀ a, a ≤ l + 1 → Ev g mX6_walk 97 [(0, .ref 30), (1, .int bg), (2, .int (nI a))] [] (hC (it (goA l r) a S)) (RV (it (goA l r) (l + 1) S)) := by
    refine loop_up _ ?_ ?_
    · obtain ⟨hl, hr, hlr⟩ := hR.eq (eqA.it (goA_eq l r) (l + 1) S)
      refine ev_iload_n (pc := 97) dX6_walk_97 rfl ?_
      refine ev_aload_n (pc := 98) dX6_walk_98 rfl ?_
      refine get_RD_left (pc := 99) dX6_walk_99 Fl_X6_31 hl ?_
      refine ev_icmp_gtN (pc := 102) (tgt := 141) (by omega) (by omega) dX6_walk_102 (by decide) (fun c102 => ?_) (fun c102 => absurd (show l < l + 1 by omega) c102)
      exact ev_ret (pc := 141) dX6_walk_141 rfl rv
    · intro a ha ih
      exact wk_in (hR.eq (eqA.it (goA_eq l r) a S)) (by omega) _ ih
  have L0 := L 0 (Nat.zero_le _)
  rw [it_0] at L0
  exact L0
theorem c_X6_walk {bg : Int32} {n : Nat} (hs : S.1 12 = nI n) (hn : n ≤ 16) : Ct g mX6_walk [.ref 30, .int bg] (hC S) (RV (walkS bg n S)) := by
  have hl := lcF_le (S.2.1 14) bg n 0
  have h : Ev g mX6_walk 97 [(0, .ref 30), (1, .int bg), (2, .int (nI 0))] [] (hC (walk0 bg n S)) (RV (walkS bg n S)) := wk_out (S := walk0 bg n S) (l := lcF (S.2.1 14) bg n 0) (r := n - lcF (S.2.1 14) bg n 0) ⟨rfl, rfl, by omega⟩
  have h2 := wk_mid (g := g) (S := setI (setI S 13 bg) 14 (nI (lcF (S.2.1 14) bg n 0))) (bg := bg) (n := n) (l := lcF (S.2.1 14) bg n 0) hs hn rfl (by omega) _ h
  exact ct_of rfl rfl (wk_left hs hn _ h2)
def mostF (h : Nat → Int32) : Nat → Nat
  | 0 => 0
  | k + 1 => if h (k + 1) = 1000000 then mostF h k else k + 1
theorem mostF_le (h : Nat → Int32) : ∀ k, mostF h k ≤ k
  | 0 => Nat.le_refl _
  | k + 1 => by
    unfold mostF
    have := mostF_le h k
    split <;> omega
theorem c_X6_mostMet {n : Nat} (hs : S.1 12 = nI n) (hn : n ≤ 16) : Ct g mX6_mostMet [.ref 30] (hC S) (RI (nI (mostF (S.2.1 17) n)) S) := by
  have L : ∀ k, k ≤ n → Ev g mX6_mostMet 4 [(0, .ref 30), (1, .int (nI (mostF (S.2.1 17) k))), (2, .int (nI (k + 1)))] [] (hC S) (RI (nI (mostF (S.2.1 17) n)) S) := by
    refine loop_up n ?_ ?_
    · skip
      refine ev_iload_n (pc := 4) dX6_mostMet_4 rfl ?_
      refine ev_aload_n (pc := 5) dX6_mostMet_5 rfl ?_
      refine get_RD_size (pc := 6) dX6_mostMet_6 Fl_X6_24 hs ?_
      refine ev_icmp_gtN (pc := 9) (tgt := 31) (by omega) (by omega) dX6_mostMet_9 (by decide) (fun c9 => ?_) (fun c9 => absurd (show n < n + 1 by omega) c9)
      refine ev_iload_n (pc := 31) dX6_mostMet_31 rfl ?_
      exact ev_iret (pc := 32) dX6_mostMet_32 rfl rfl ri
    · intro k hk ih
      rw [mostF] at ih
      refine ev_iload_n (pc := 4) dX6_mostMet_4 rfl ?_
      refine ev_aload_n (pc := 5) dX6_mostMet_5 rfl ?_
      refine get_RD_size (pc := 6) dX6_mostMet_6 Fl_X6_24 hs ?_
      refine ev_icmp_gtN (pc := 9) (tgt := 31) (by omega) (by omega) dX6_mostMet_9 (by decide) (fun c9 => absurd c9 (by omega)) (fun c9 => ?_)
      refine ev_aload_n (pc := 12) dX6_mostMet_12 rfl ?_
      refine get_RD_hourOfCount (pc := 13) dX6_mostMet_13 Fl_X6_21 ?_
      refine ev_iload_n (pc := 16) dX6_mostMet_16 rfl ?_
      refine ldN_RD_hourOfCount (pc := 17) dX6_mostMet_17 (by omega) rfl ?_
      refine ev_ldc (pc := 18) dX6_mostMet_18 Cn_X6_37 ?_
      refine ev_icmp_eq (pc := 20) (tgt := 25) dX6_mostMet_20 (by decide) (fun c20 => ?_) (fun c20 => ?_)
      · rw [if_pos c20] at ih
        refine ev_iincN (pc := 25) (lv' := [(0, .ref 30), (1, .int _), (2, .int _)]) dX6_mostMet_25 rfl (Nat.le_of_ble_eq_true rfl) rfl ?_
        refine ev_goto (pc := 28) (tgt := 4) dX6_mostMet_28 (by decide) ?_
        exact ih
      · rw [if_neg c20] at ih
        refine ev_iload_n (pc := 23) dX6_mostMet_23 rfl ?_
        refine ev_istore_n (pc := 24) (lv' := [(0, .ref 30), (1, .int _), (2, .int _)]) dX6_mostMet_24 (Nat.le_of_ble_eq_true rfl) rfl ?_
        refine ev_iincN (pc := 25) (lv' := [(0, .ref 30), (1, .int _), (2, .int _)]) dX6_mostMet_25 rfl (Nat.le_of_ble_eq_true rfl) rfl ?_
        refine ev_goto (pc := 28) (tgt := 4) dX6_mostMet_28 (by decide) ?_
        exact ih
  refine ct_of rfl rfl ?_
  refine ev_iconst (pc := 0) (v := nI 0) dX6_mostMet_0 (by decide) ?_
  refine ev_istore_n (pc := 1) (lv' := [(0, .ref 30), (1, .int _)]) dX6_mostMet_1 (Nat.le_of_ble_eq_true rfl) rfl ?_
  refine ev_iconst (pc := 2) (v := nI 1) dX6_mostMet_2 (by decide) ?_
  refine ev_istore_n (pc := 3) (lv' := [(0, .ref 30), (1, .int _), (2, .int _)]) dX6_mostMet_3 (Nat.le_of_ble_eq_true rfl) rfl ?_
  exact L 0 (Nat.zero_le _)
def fhF (h : Nat → Int32) : Nat → Nat → Int32 → Int32
  | 0, _, a => a
  | r + 1, k, a => fhF h r (k + 1) (if h k < a then h k else a)
theorem c_X6_firstHourWith {n m : Nat} (hs : S.1 12 = nI n) (hn : n ≤ 16) (hm : m ≤ n) : Ct g mX6_firstHourWith [.ref 30, .int (nI m)] (hC S) (RI (fhF (S.2.1 17) (n + 1 - m) m 1000000) S) := by
  have L : ∀ (r k : Nat) (a : Int32), k + r = n + 1 → Ev g mX6_firstHourWith 5 [(0, .ref 30), (1, .int (nI m)), (2, .int a), (3, .int (nI k))] [] (hC S) (RI (fhF (S.2.1 17) r k a) S) := by
    intro r
    induction r with
    | zero =>
      intro k a hk
      refine ev_iload_n (pc := 5) dX6_firstHourWith_5 rfl ?_
      refine ev_aload_n (pc := 6) dX6_firstHourWith_6 rfl ?_
      refine get_RD_size (pc := 7) dX6_firstHourWith_7 Fl_X6_24 hs ?_
      refine ev_icmp_gtN (pc := 10) (tgt := 30) (by omega) (by omega) dX6_firstHourWith_10 (by decide) (fun c10 => ?_) (fun c10 => absurd (show n < k by omega) c10)
      refine ev_iload_n (pc := 30) dX6_firstHourWith_30 rfl ?_
      exact ev_iret (pc := 31) dX6_firstHourWith_31 rfl rfl ri
    | succ r ih =>
      intro k a hk
      unfold fhF
      refine ev_iload_n (pc := 5) dX6_firstHourWith_5 rfl ?_
      refine ev_aload_n (pc := 6) dX6_firstHourWith_6 rfl ?_
      refine get_RD_size (pc := 7) dX6_firstHourWith_7 Fl_X6_24 hs ?_
      refine ev_icmp_gtN (pc := 10) (tgt := 30) (by omega) (by omega) dX6_firstHourWith_10 (by decide) (fun c10 => absurd c10 (by omega)) (fun c10 => ?_)
      refine ev_iload_n (pc := 13) dX6_firstHourWith_13 rfl ?_
      refine ev_aload_n (pc := 14) dX6_firstHourWith_14 rfl ?_
      refine get_RD_hourOfCount (pc := 15) dX6_firstHourWith_15 Fl_X6_21 ?_
      refine ev_iload_n (pc := 18) dX6_firstHourWith_18 rfl ?_
      refine ldN_RD_hourOfCount (pc := 19) dX6_firstHourWith_19 (by omega) rfl ?_
      refine ev_mmin (pc := 20) dX6_firstHourWith_20 Mx_X6_56 Mxs_minI In_Math Mxc_minI rfl rfl ?_
      refine ev_istore_n (pc := 23) (lv' := [(0, .ref 30), (1, .int _), (2, .int _), (3, .int _)]) dX6_firstHourWith_23 (Nat.le_of_ble_eq_true rfl) rfl ?_
      refine ev_iincN (pc := 24) (lv' := [(0, .ref 30), (1, .int _), (2, .int _), (3, .int _)]) dX6_firstHourWith_24 rfl (Nat.le_of_ble_eq_true rfl) rfl ?_
      refine ev_goto (pc := 27) (tgt := 5) dX6_firstHourWith_27 (by decide) ?_
      exact ih _ _ (by omega)
  refine ct_of rfl rfl ?_
  refine ev_ldc (pc := 0) dX6_firstHourWith_0 Cn_X6_37 ?_
  refine ev_istore_n (pc := 2) (lv' := [(0, .ref 30), (1, .int _), (2, .int _)]) dX6_firstHourWith_2 (Nat.le_of_ble_eq_true rfl) rfl ?_
  refine ev_iload_n (pc := 3) dX6_firstHourWith_3 rfl ?_
  refine ev_istore_n (pc := 4) (lv' := [(0, .ref 30), (1, .int _), (2, .int _), (3, .int _)]) dX6_firstHourWith_4 (Nat.le_of_ble_eq_true rfl) rfl ?_
  exact L _ _ _ (by omega)
/-- room for one at its place: what stands behind goes on by one -/
def shS (k : Nat) (X : St) : St :=
  let Y := setA X 14 (upd (X.2.1 14) (k + 1) (X.2.1 14 k))
  setA Y 15 (upd (Y.2.1 15) (k + 1) (Y.2.1 15 k))
def insP (p : Int32) : Nat → St → Nat × St
  | 0, X => (0, X)
  | k + 1, X => if X.2.1 14 k ≤ p then (k + 1, X) else insP p k (shS k X)
def addV (n : Nat) (p h : Int32) (S : St) : St :=
  let q := insP p n S
  let Y := setA q.2 14 (upd (q.2.2.1 14) q.1 p)
  setI (setA Y 15 (upd (Y.2.1 15) q.1 h)) 12 (nI n + 1)
theorem insP_le (p : Int32) : ∀ k X, (insP p k X).1 ≤ k ∧ (insP p k X).2.1 = X.1
  | 0, X => ⟨Nat.le_refl _, rfl⟩
  | k + 1, X => by
    unfold insP
    split
    · exact ⟨Nat.le_refl _, rfl⟩
    · have := insP_le p k (shS k X)
      exact ⟨by omega, this.2⟩
theorem c_X6_add {p h : Int32} {n : Nat} (hs : S.1 12 = nI n) (hn : n < 16) : Ct g mX6_add [.ref 30, .int p, .int h] (hC S) (RV (addV n p h S)) := by
  have L : ∀ (k : Nat) (X : St) (Post : Option Value → List va_E → Prop), k ≤ n → Ev g mX6_add 65 [(0, .ref 30), (1, .int p), (2, .int h), (3, .int (nI (insP p k X).1))] [] (hC (insP p k X).2) Post → Ev g mX6_add 15 [(0, .ref 30), (1, .int p), (2, .int h), (3, .int (nI k))] [] (hC X) Post := by
    intro k
    induction k with
    | zero =>
      intro X Post hk ih
      refine ev_iload_n (pc := 15) dX6_add_15 rfl ?_
      refine ev_if_leN (pc := 16) (tgt := 65) (by omega) dX6_add_16 (by decide) (fun c16 => ?_) (fun c16 => absurd rfl c16)
      exact ih
    | succ k ihk =>
      intro X Post hk ih
      unfold insP at ih
      refine ev_iload_n (pc := 15) dX6_add_15 rfl ?_
      refine ev_if_leN (pc := 16) (tgt := 65) (by omega) dX6_add_16 (by decide) (fun c16 => absurd c16 (by omega)) (fun c16 => ?_)
      refine ev_aload_n (pc := 19) dX6_add_19 rfl ?_
      refine get_RD_place (pc := 20) dX6_add_20 Fl_X6_9 ?_
      refine ev_iload_n (pc := 23) dX6_add_23 rfl ?_
      refine ev_iconst (pc := 24) (v := 1) dX6_add_24 (by decide) ?_
      refine ev_isub (pc := 25) dX6_add_25 ?_
      rw [nI_pred]
      refine ldN_RD_place (pc := 26) dX6_add_26 (by omega) rfl ?_
      refine ev_iload_n (pc := 27) dX6_add_27 rfl ?_
      refine ev_icmp_le (pc := 28) (tgt := 65) dX6_add_28 (by decide) (fun c28 => ?_) (fun c28 => ?_)
      · rw [if_pos c28] at ih
        exact ih
      · rw [if_neg c28] at ih
        refine ev_aload_n (pc := 31) dX6_add_31 rfl ?_
        refine get_RD_place (pc := 32) dX6_add_32 Fl_X6_9 ?_
        refine ev_iload_n (pc := 35) dX6_add_35 rfl ?_
        refine ev_aload_n (pc := 36) dX6_add_36 rfl ?_
        refine get_RD_place (pc := 37) dX6_add_37 Fl_X6_9 ?_
        refine ev_iload_n (pc := 40) dX6_add_40 rfl ?_
        refine ev_iconst (pc := 41) (v := 1) dX6_add_41 (by decide) ?_
        refine ev_isub (pc := 42) dX6_add_42 ?_
        rw [nI_pred]
        refine ldN_RD_place (pc := 43) dX6_add_43 (by omega) rfl ?_
        refine asN_RD_place (pc := 44) dX6_add_44 (by omega) ?_
        refine ev_aload_n (pc := 45) dX6_add_45 rfl ?_
        refine get_RD_hour (pc := 46) dX6_add_46 Fl_X6_15 ?_
        refine ev_iload_n (pc := 49) dX6_add_49 rfl ?_
        refine ev_aload_n (pc := 50) dX6_add_50 rfl ?_
        refine get_RD_hour (pc := 51) dX6_add_51 Fl_X6_15 ?_
        refine ev_iload_n (pc := 54) dX6_add_54 rfl ?_
        refine ev_iconst (pc := 55) (v := 1) dX6_add_55 (by decide) ?_
        refine ev_isub (pc := 56) dX6_add_56 ?_
        rw [nI_pred]
        refine ldN_RD_hour (pc := 57) dX6_add_57 (by omega) rfl ?_
        refine asN_RD_hour (pc := 58) dX6_add_58 (by omega) ?_
        refine ev_iinc (pc := 59) (lv' := [(0, .ref 30), (1, .int _), (2, .int _), (3, .int _)]) dX6_add_59 rfl (Nat.le_of_ble_eq_true rfl) rfl ?_
        refine ev_goto (pc := 62) (tgt := 15) dX6_add_62 (by decide) ?_
        rw [nI_dec]
        exact ihk _ _ (by omega) ih
  obtain ⟨h1, h2⟩ := insP_le p n S
  have hs2 : (insP p n S).2.1 12 = nI n := by rw [h2]; exact hs
  refine ct_of rfl rfl ?_
  unfold addV
  have fin : ∀ (q : Nat) (X : St), q ≤ n → X.1 12 = nI n → Ev g mX6_add 65 [(0, .ref 30), (1, .int p), (2, .int h), (3, .int (nI q))] [] (hC X) (RV (
      let Y := setA X 14 (upd (X.2.1 14) q p)
      setI (setA Y 15 (upd (Y.2.1 15) q h)) 12 (nI n + 1))) := by
    intro q X hq hs
    refine ev_aload_n (pc := 65) dX6_add_65 rfl ?_
    refine get_RD_place (pc := 66) dX6_add_66 Fl_X6_9 ?_
    refine ev_iload_n (pc := 69) dX6_add_69 rfl ?_
    refine ev_iload_n (pc := 70) dX6_add_70 rfl ?_
    refine asN_RD_place (pc := 71) dX6_add_71 (by omega) ?_
    refine ev_aload_n (pc := 72) dX6_add_72 rfl ?_
    refine get_RD_hour (pc := 73) dX6_add_73 Fl_X6_15 ?_
    refine ev_iload_n (pc := 76) dX6_add_76 rfl ?_
    refine ev_iload_n (pc := 77) dX6_add_77 rfl ?_
    refine asN_RD_hour (pc := 78) dX6_add_78 (by omega) ?_
    refine ev_aload_n (pc := 79) dX6_add_79 rfl ?_
    refine ev_dup (pc := 80) dX6_add_80 rfl ?_
    refine get_RD_size (pc := 81) dX6_add_81 Fl_X6_24 hs ?_
    refine ev_iconst (pc := 84) (v := 1) dX6_add_84 (by decide) ?_
    refine ev_iadd (pc := 85) dX6_add_85 ?_
    refine put_RD_size (pc := 86) dX6_add_86 Fp_X6_24 ?_
    exact ev_ret (pc := 89) dX6_add_89 rfl rv
  refine ev_aload_n (pc := 0) dX6_add_0 rfl ?_
  refine get_RD_size (pc := 1) dX6_add_1 Fl_X6_24 hs ?_
  refine ev_bipush (pc := 4) (v := nI 16) dX6_add_4 (by decide) ?_
  refine ev_icmp_ltN (pc := 6) (tgt := 10) (by omega) (by omega) dX6_add_6 (by decide) (fun c6 => ?_) (fun c6 => absurd hn c6)
  refine ev_aload_n (pc := 10) dX6_add_10 rfl ?_
  refine get_RD_size (pc := 11) dX6_add_11 Fl_X6_24 hs ?_
  refine ev_istore_n (pc := 14) (lv' := [(0, .ref 30), (1, .int _), (2, .int _), (3, .int _)]) dX6_add_14 (Nat.le_of_ble_eq_true rfl) rfl ?_
  exact L n S _ (Nat.le_refl _) (fin _ _ h1 hs2)
end RD2
end
