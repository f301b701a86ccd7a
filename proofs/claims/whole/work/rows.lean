section
-- ===== PART A: goes FIRST, ahead of the names: the tables' words, and 'selects' of the private methods out of them =====
/-- a private method of a class that the tables say can be made, by its rows of tables_1 -/
def lw_okq (q : MethodName × Nat) : Prop := (q.1.cls ≠ "java/lang/invoke/MethodHandle" ∧ q.1.cls ≠ "java/lang/invoke/VarHandle") ∧ Cond.instantiable q.1.cls q.2 ∈ tables_1 ∧ Cond.privateMethod q.1 ∈ tables_1 ∧ Cond.instanceMethod q.1 ∈ tables_1
theorem lw_p0 : lw_okq (⟨"MillFarmers$Terms", "reset", "()V"⟩, 5) := ⟨⟨by decide +kernel, by decide +kernel⟩, List.mem_of_getElem? (i := 232) (by decide +kernel), List.mem_of_getElem? (i := 238) (by decide +kernel), List.mem_of_getElem? (i := 239) (by decide +kernel)⟩
theorem lw_p1 : lw_okq (⟨"MillFarmers$Terms", "setShare", "(III)V"⟩, 5) := ⟨⟨by decide +kernel, by decide +kernel⟩, List.mem_of_getElem? (i := 232) (by decide +kernel), List.mem_of_getElem? (i := 245) (by decide +kernel), List.mem_of_getElem? (i := 246) (by decide +kernel)⟩
theorem lw_p2 : lw_okq (⟨"MillFarmers", "refuse", "(I)I"⟩, 12) := ⟨⟨by decide +kernel, by decide +kernel⟩, List.mem_of_getElem? (i := 20) (by decide +kernel), List.mem_of_getElem? (i := 337) (by decide +kernel), List.mem_of_getElem? (i := 338) (by decide +kernel)⟩
theorem lw_p3 : lw_okq (⟨"MillFarmers$Farmers", "add", "(III)V"⟩, 4) := ⟨⟨by decide +kernel, by decide +kernel⟩, List.mem_of_getElem? (i := 28) (by decide +kernel), List.mem_of_getElem? (i := 341) (by decide +kernel), List.mem_of_getElem? (i := 342) (by decide +kernel)⟩
theorem lw_p4 : lw_okq (⟨"MillFarmers", "accept", "(I)I"⟩, 12) := ⟨⟨by decide +kernel, by decide +kernel⟩, List.mem_of_getElem? (i := 20) (by decide +kernel), List.mem_of_getElem? (i := 345) (by decide +kernel), List.mem_of_getElem? (i := 346) (by decide +kernel)⟩
theorem lw_p5 : lw_okq (⟨"MillFarmers", "isNoFarmer", "(I)Z"⟩, 12) := ⟨⟨by decide +kernel, by decide +kernel⟩, List.mem_of_getElem? (i := 20) (by decide +kernel), List.mem_of_getElem? (i := 354) (by decide +kernel), List.mem_of_getElem? (i := 355) (by decide +kernel)⟩
theorem lw_p6 : lw_okq (⟨"MillFarmers$Credits", "add", "(III)V"⟩, 4) := ⟨⟨by decide +kernel, by decide +kernel⟩, List.mem_of_getElem? (i := 55) (by decide +kernel), List.mem_of_getElem? (i := 358) (by decide +kernel), List.mem_of_getElem? (i := 359) (by decide +kernel)⟩
theorem lw_p7 : lw_okq (⟨"MillFarmers$Baskets", "add", "(IIII)V"⟩, 6) := ⟨⟨by decide +kernel, by decide +kernel⟩, List.mem_of_getElem? (i := 79) (by decide +kernel), List.mem_of_getElem? (i := 366) (by decide +kernel), List.mem_of_getElem? (i := 367) (by decide +kernel)⟩
theorem lw_p8 : lw_okq (⟨"MillFarmers$Tape", "append", "(I)V"⟩, 2) := ⟨⟨by decide +kernel, by decide +kernel⟩, List.mem_of_getElem? (i := 111) (by decide +kernel), List.mem_of_getElem? (i := 374) (by decide +kernel), List.mem_of_getElem? (i := 375) (by decide +kernel)⟩
theorem lw_p9 : lw_okq (⟨"MillFarmers$ContractReader", "read", "(LMillFarmers$Terms;)I"⟩, 5) := ⟨⟨by decide +kernel, by decide +kernel⟩, List.mem_of_getElem? (i := 271) (by decide +kernel), List.mem_of_getElem? (i := 386) (by decide +kernel), List.mem_of_getElem? (i := 387) (by decide +kernel)⟩
theorem lw_p10 : lw_okq (⟨"MillFarmers$ContractReader", "next", "()V"⟩, 5) := ⟨⟨by decide +kernel, by decide +kernel⟩, List.mem_of_getElem? (i := 271) (by decide +kernel), List.mem_of_getElem? (i := 391) (by decide +kernel), List.mem_of_getElem? (i := 392) (by decide +kernel)⟩
theorem lw_p11 : lw_okq (⟨"MillFarmers$ContractReader", "kindAt", "(I)I"⟩, 5) := ⟨⟨by decide +kernel, by decide +kernel⟩, List.mem_of_getElem? (i := 271) (by decide +kernel), List.mem_of_getElem? (i := 395) (by decide +kernel), List.mem_of_getElem? (i := 396) (by decide +kernel)⟩
theorem lw_p12 : lw_okq (⟨"MillFarmers$ContractReader", "readClause", "()Z"⟩, 5) := ⟨⟨by decide +kernel, by decide +kernel⟩, List.mem_of_getElem? (i := 271) (by decide +kernel), List.mem_of_getElem? (i := 399) (by decide +kernel), List.mem_of_getElem? (i := 400) (by decide +kernel)⟩
theorem lw_p13 : lw_okq (⟨"MillFarmers$ContractReader", "isWord", "(Ljava/lang/String;)Z"⟩, 5) := ⟨⟨by decide +kernel, by decide +kernel⟩, List.mem_of_getElem? (i := 271) (by decide +kernel), List.mem_of_getElem? (i := 404) (by decide +kernel), List.mem_of_getElem? (i := 405) (by decide +kernel)⟩
theorem lw_p14 : lw_okq (⟨"MillFarmers$ContractReader", "readPrice", "()Z"⟩, 5) := ⟨⟨by decide +kernel, by decide +kernel⟩, List.mem_of_getElem? (i := 271) (by decide +kernel), List.mem_of_getElem? (i := 456) (by decide +kernel), List.mem_of_getElem? (i := 457) (by decide +kernel)⟩
theorem lw_p15 : lw_okq (⟨"MillFarmers$ContractReader", "number", "()I"⟩, 5) := ⟨⟨by decide +kernel, by decide +kernel⟩, List.mem_of_getElem? (i := 271) (by decide +kernel), List.mem_of_getElem? (i := 460) (by decide +kernel), List.mem_of_getElem? (i := 461) (by decide +kernel)⟩
def lw_privs_1 : List (MethodName × Nat) := [(⟨"MillFarmers$Terms", "reset", "()V"⟩, 5), (⟨"MillFarmers$Terms", "setShare", "(III)V"⟩, 5), (⟨"MillFarmers", "refuse", "(I)I"⟩, 12), (⟨"MillFarmers$Farmers", "add", "(III)V"⟩, 4), (⟨"MillFarmers", "accept", "(I)I"⟩, 12), (⟨"MillFarmers", "isNoFarmer", "(I)Z"⟩, 12), (⟨"MillFarmers$Credits", "add", "(III)V"⟩, 4), (⟨"MillFarmers$Baskets", "add", "(IIII)V"⟩, 6), (⟨"MillFarmers$Tape", "append", "(I)V"⟩, 2), (⟨"MillFarmers$ContractReader", "read", "(LMillFarmers$Terms;)I"⟩, 5), (⟨"MillFarmers$ContractReader", "next", "()V"⟩, 5), (⟨"MillFarmers$ContractReader", "kindAt", "(I)I"⟩, 5), (⟨"MillFarmers$ContractReader", "readClause", "()Z"⟩, 5), (⟨"MillFarmers$ContractReader", "isWord", "(Ljava/lang/String;)Z"⟩, 5), (⟨"MillFarmers$ContractReader", "readPrice", "()Z"⟩, 5), (⟨"MillFarmers$ContractReader", "number", "()I"⟩, 5)]
theorem lw_r1 : ∀ q ∈ lw_privs_1, lw_okq q := List.forall_mem_cons.mpr ⟨lw_p0, List.forall_mem_cons.mpr ⟨lw_p1, List.forall_mem_cons.mpr ⟨lw_p2, List.forall_mem_cons.mpr ⟨lw_p3, List.forall_mem_cons.mpr ⟨lw_p4, List.forall_mem_cons.mpr ⟨lw_p5, List.forall_mem_cons.mpr ⟨lw_p6, List.forall_mem_cons.mpr ⟨lw_p7, List.forall_mem_cons.mpr ⟨lw_p8, List.forall_mem_cons.mpr ⟨lw_p9, List.forall_mem_cons.mpr ⟨lw_p10, List.forall_mem_cons.mpr ⟨lw_p11, List.forall_mem_cons.mpr ⟨lw_p12, List.forall_mem_cons.mpr ⟨lw_p13, List.forall_mem_cons.mpr ⟨lw_p14, List.forall_mem_cons.mpr ⟨lw_p15, fun _ h => absurd h List.not_mem_nil⟩⟩⟩⟩⟩⟩⟩⟩⟩⟩⟩⟩⟩⟩⟩⟩
theorem lw_p16 : lw_okq (⟨"MillFarmers$ContractReader", "readQuota", "()Z"⟩, 5) := ⟨⟨by decide +kernel, by decide +kernel⟩, List.mem_of_getElem? (i := 271) (by decide +kernel), List.mem_of_getElem? (i := 469) (by decide +kernel), List.mem_of_getElem? (i := 470) (by decide +kernel)⟩
theorem lw_p17 : lw_okq (⟨"MillFarmers$ContractReader", "readShare", "(I)Z"⟩, 5) := ⟨⟨by decide +kernel, by decide +kernel⟩, List.mem_of_getElem? (i := 271) (by decide +kernel), List.mem_of_getElem? (i := 474) (by decide +kernel), List.mem_of_getElem? (i := 475) (by decide +kernel)⟩
theorem lw_p18 : lw_okq (⟨"MillFarmers$ContractReader", "isSemicolon", "()Z"⟩, 5) := ⟨⟨by decide +kernel, by decide +kernel⟩, List.mem_of_getElem? (i := 271) (by decide +kernel), List.mem_of_getElem? (i := 486) (by decide +kernel), List.mem_of_getElem? (i := 487) (by decide +kernel)⟩
theorem lw_p19 : lw_okq (⟨"MillFarmers$Books", "draw", "(LMillFarmers$Farmers;LMillFarmers$Credits;LMillFarmers$Baskets;LMillFarmers$Terms;I)V"⟩, 11) := ⟨⟨by decide +kernel, by decide +kernel⟩, List.mem_of_getElem? (i := 127) (by decide +kernel), List.mem_of_getElem? (i := 500) (by decide +kernel), List.mem_of_getElem? (i := 501) (by decide +kernel)⟩
theorem lw_p20 : lw_okq (⟨"MillFarmers$Books", "addCredits", "(LMillFarmers$Credits;I)V"⟩, 11) := ⟨⟨by decide +kernel, by decide +kernel⟩, List.mem_of_getElem? (i := 127) (by decide +kernel), List.mem_of_getElem? (i := 507) (by decide +kernel), List.mem_of_getElem? (i := 508) (by decide +kernel)⟩
theorem lw_p21 : lw_okq (⟨"MillFarmers$Books", "addBaskets", "(LMillFarmers$Farmers;LMillFarmers$Baskets;LMillFarmers$Terms;I)V"⟩, 11) := ⟨⟨by decide +kernel, by decide +kernel⟩, List.mem_of_getElem? (i := 127) (by decide +kernel), List.mem_of_getElem? (i := 511) (by decide +kernel), List.mem_of_getElem? (i := 512) (by decide +kernel)⟩
theorem lw_p22 : lw_okq (⟨"MillFarmers$Terms", "shareOf", "(IJ)J"⟩, 5) := ⟨⟨by decide +kernel, by decide +kernel⟩, List.mem_of_getElem? (i := 232) (by decide +kernel), List.mem_of_getElem? (i := 521) (by decide +kernel), List.mem_of_getElem? (i := 522) (by decide +kernel)⟩
theorem lw_p23 : lw_okq (⟨"MillFarmers$Books", "stand", "(LMillFarmers$Farmers;LMillFarmers$Terms;I)V"⟩, 11) := ⟨⟨by decide +kernel, by decide +kernel⟩, List.mem_of_getElem? (i := 127) (by decide +kernel), List.mem_of_getElem? (i := 525) (by decide +kernel), List.mem_of_getElem? (i := 526) (by decide +kernel)⟩
theorem lw_p24 : lw_okq (⟨"MillFarmers$Books", "pay", "(I)J"⟩, 11) := ⟨⟨by decide +kernel, by decide +kernel⟩, List.mem_of_getElem? (i := 127) (by decide +kernel), List.mem_of_getElem? (i := 529) (by decide +kernel), List.mem_of_getElem? (i := 530) (by decide +kernel)⟩
theorem lw_p25 : lw_okq (⟨"MillFarmers$Books", "debt", "(I)J"⟩, 11) := ⟨⟨by decide +kernel, by decide +kernel⟩, List.mem_of_getElem? (i := 127) (by decide +kernel), List.mem_of_getElem? (i := 533) (by decide +kernel), List.mem_of_getElem? (i := 534) (by decide +kernel)⟩
theorem lw_p26 : lw_okq (⟨"MillFarmers$Books", "giveEvenly", "(I)V"⟩, 11) := ⟨⟨by decide +kernel, by decide +kernel⟩, List.mem_of_getElem? (i := 127) (by decide +kernel), List.mem_of_getElem? (i := 537) (by decide +kernel), List.mem_of_getElem? (i := 538) (by decide +kernel)⟩
theorem lw_p27 : lw_okq (⟨"MillFarmers$Books", "greatestLevel", "(I)J"⟩, 11) := ⟨⟨by decide +kernel, by decide +kernel⟩, List.mem_of_getElem? (i := 127) (by decide +kernel), List.mem_of_getElem? (i := 544) (by decide +kernel), List.mem_of_getElem? (i := 545) (by decide +kernel)⟩
theorem lw_p28 : lw_okq (⟨"MillFarmers$Books", "sumAtLevel", "(JI)J"⟩, 11) := ⟨⟨by decide +kernel, by decide +kernel⟩, List.mem_of_getElem? (i := 127) (by decide +kernel), List.mem_of_getElem? (i := 549) (by decide +kernel), List.mem_of_getElem? (i := 550) (by decide +kernel)⟩
theorem lw_p29 : lw_okq (⟨"MillFarmers$Books", "payDebts", "(LMillFarmers$Farmers;I)V"⟩, 11) := ⟨⟨by decide +kernel, by decide +kernel⟩, List.mem_of_getElem? (i := 127) (by decide +kernel), List.mem_of_getElem? (i := 553) (by decide +kernel), List.mem_of_getElem? (i := 554) (by decide +kernel)⟩
theorem lw_p30 : lw_okq (⟨"MillFarmers", "foretold", "(I)J"⟩, 12) := ⟨⟨by decide +kernel, by decide +kernel⟩, List.mem_of_getElem? (i := 20) (by decide +kernel), List.mem_of_getElem? (i := 559) (by decide +kernel), List.mem_of_getElem? (i := 560) (by decide +kernel)⟩
theorem lw_p31 : lw_okq (⟨"MillFarmers$Land", "foretold", "(II)J"⟩, 5) := ⟨⟨by decide +kernel, by decide +kernel⟩, List.mem_of_getElem? (i := 176) (by decide +kernel), List.mem_of_getElem? (i := 563) (by decide +kernel), List.mem_of_getElem? (i := 564) (by decide +kernel)⟩
def lw_privs_2 : List (MethodName × Nat) := [(⟨"MillFarmers$ContractReader", "readQuota", "()Z"⟩, 5), (⟨"MillFarmers$ContractReader", "readShare", "(I)Z"⟩, 5), (⟨"MillFarmers$ContractReader", "isSemicolon", "()Z"⟩, 5), (⟨"MillFarmers$Books", "draw", "(LMillFarmers$Farmers;LMillFarmers$Credits;LMillFarmers$Baskets;LMillFarmers$Terms;I)V"⟩, 11), (⟨"MillFarmers$Books", "addCredits", "(LMillFarmers$Credits;I)V"⟩, 11), (⟨"MillFarmers$Books", "addBaskets", "(LMillFarmers$Farmers;LMillFarmers$Baskets;LMillFarmers$Terms;I)V"⟩, 11), (⟨"MillFarmers$Terms", "shareOf", "(IJ)J"⟩, 5), (⟨"MillFarmers$Books", "stand", "(LMillFarmers$Farmers;LMillFarmers$Terms;I)V"⟩, 11), (⟨"MillFarmers$Books", "pay", "(I)J"⟩, 11), (⟨"MillFarmers$Books", "debt", "(I)J"⟩, 11), (⟨"MillFarmers$Books", "giveEvenly", "(I)V"⟩, 11), (⟨"MillFarmers$Books", "greatestLevel", "(I)J"⟩, 11), (⟨"MillFarmers$Books", "sumAtLevel", "(JI)J"⟩, 11), (⟨"MillFarmers$Books", "payDebts", "(LMillFarmers$Farmers;I)V"⟩, 11), (⟨"MillFarmers", "foretold", "(I)J"⟩, 12), (⟨"MillFarmers$Land", "foretold", "(II)J"⟩, 5)]
theorem lw_r2 : ∀ q ∈ lw_privs_2, lw_okq q := List.forall_mem_cons.mpr ⟨lw_p16, List.forall_mem_cons.mpr ⟨lw_p17, List.forall_mem_cons.mpr ⟨lw_p18, List.forall_mem_cons.mpr ⟨lw_p19, List.forall_mem_cons.mpr ⟨lw_p20, List.forall_mem_cons.mpr ⟨lw_p21, List.forall_mem_cons.mpr ⟨lw_p22, List.forall_mem_cons.mpr ⟨lw_p23, List.forall_mem_cons.mpr ⟨lw_p24, List.forall_mem_cons.mpr ⟨lw_p25, List.forall_mem_cons.mpr ⟨lw_p26, List.forall_mem_cons.mpr ⟨lw_p27, List.forall_mem_cons.mpr ⟨lw_p28, List.forall_mem_cons.mpr ⟨lw_p29, List.forall_mem_cons.mpr ⟨lw_p30, List.forall_mem_cons.mpr ⟨lw_p31, fun _ h => absurd h List.not_mem_nil⟩⟩⟩⟩⟩⟩⟩⟩⟩⟩⟩⟩⟩⟩⟩⟩
theorem lw_p32 : lw_okq (⟨"MillFarmers$Land", "lostAt", "(I)I"⟩, 5) := ⟨⟨by decide +kernel, by decide +kernel⟩, List.mem_of_getElem? (i := 176) (by decide +kernel), List.mem_of_getElem? (i := 567) (by decide +kernel), List.mem_of_getElem? (i := 568) (by decide +kernel)⟩
theorem lw_p33 : lw_okq (⟨"MillFarmers", "isShort", "(I)Z"⟩, 12) := ⟨⟨by decide +kernel, by decide +kernel⟩, List.mem_of_getElem? (i := 20) (by decide +kernel), List.mem_of_getElem? (i := 572) (by decide +kernel), List.mem_of_getElem? (i := 573) (by decide +kernel)⟩
theorem lw_p34 : lw_okq (⟨"MillFarmers$Farmers", "howManyIn", "(I)I"⟩, 4) := ⟨⟨by decide +kernel, by decide +kernel⟩, List.mem_of_getElem? (i := 28) (by decide +kernel), List.mem_of_getElem? (i := 581) (by decide +kernel), List.mem_of_getElem? (i := 582) (by decide +kernel)⟩
theorem lw_p35 : lw_okq (⟨"MillFarmers$Land", "add", "(III)V"⟩, 5) := ⟨⟨by decide +kernel, by decide +kernel⟩, List.mem_of_getElem? (i := 176) (by decide +kernel), List.mem_of_getElem? (i := 593) (by decide +kernel), List.mem_of_getElem? (i := 594) (by decide +kernel)⟩
theorem lw_p36 : lw_okq (⟨"MillFarmers$Road", "add", "(II)V"⟩, 8) := ⟨⟨by decide +kernel, by decide +kernel⟩, List.mem_of_getElem? (i := 200) (by decide +kernel), List.mem_of_getElem? (i := 601) (by decide +kernel), List.mem_of_getElem? (i := 602) (by decide +kernel)⟩
theorem lw_p37 : lw_okq (⟨"MillFarmers$Road", "walk", "(I)V"⟩, 8) := ⟨⟨by decide +kernel, by decide +kernel⟩, List.mem_of_getElem? (i := 200) (by decide +kernel), List.mem_of_getElem? (i := 613) (by decide +kernel), List.mem_of_getElem? (i := 614) (by decide +kernel)⟩
theorem lw_p38 : lw_okq (⟨"MillFarmers$Road", "cellOf", "(IIII)I"⟩, 8) := ⟨⟨by decide +kernel, by decide +kernel⟩, List.mem_of_getElem? (i := 200) (by decide +kernel), List.mem_of_getElem? (i := 619) (by decide +kernel), List.mem_of_getElem? (i := 620) (by decide +kernel)⟩
theorem lw_p39 : lw_okq (⟨"MillFarmers$Road", "goOnFrom", "(III)V"⟩, 8) := ⟨⟨by decide +kernel, by decide +kernel⟩, List.mem_of_getElem? (i := 200) (by decide +kernel), List.mem_of_getElem? (i := 623) (by decide +kernel), List.mem_of_getElem? (i := 624) (by decide +kernel)⟩
theorem lw_p40 : lw_okq (⟨"MillFarmers$Road", "placeAtEnd", "(III)I"⟩, 8) := ⟨⟨by decide +kernel, by decide +kernel⟩, List.mem_of_getElem? (i := 200) (by decide +kernel), List.mem_of_getElem? (i := 627) (by decide +kernel), List.mem_of_getElem? (i := 628) (by decide +kernel)⟩
theorem lw_p41 : lw_okq (⟨"MillFarmers$Road", "arrive", "(III)V"⟩, 8) := ⟨⟨by decide +kernel, by decide +kernel⟩, List.mem_of_getElem? (i := 200) (by decide +kernel), List.mem_of_getElem? (i := 632) (by decide +kernel), List.mem_of_getElem? (i := 633) (by decide +kernel)⟩
theorem lw_p42 : lw_okq (⟨"MillFarmers$Road", "mostMet", "()I"⟩, 8) := ⟨⟨by decide +kernel, by decide +kernel⟩, List.mem_of_getElem? (i := 200) (by decide +kernel), List.mem_of_getElem? (i := 636) (by decide +kernel), List.mem_of_getElem? (i := 637) (by decide +kernel)⟩
theorem lw_p43 : lw_okq (⟨"MillFarmers$Road", "firstHourWith", "(I)I"⟩, 8) := ⟨⟨by decide +kernel, by decide +kernel⟩, List.mem_of_getElem? (i := 200) (by decide +kernel), List.mem_of_getElem? (i := 644) (by decide +kernel), List.mem_of_getElem? (i := 645) (by decide +kernel)⟩
theorem lw_p44 : lw_okq (⟨"MillFarmers$Baskets", "ownerOf", "(II)I"⟩, 6) := ⟨⟨by decide +kernel, by decide +kernel⟩, List.mem_of_getElem? (i := 79) (by decide +kernel), List.mem_of_getElem? (i := 653) (by decide +kernel), List.mem_of_getElem? (i := 654) (by decide +kernel)⟩
theorem lw_p45 : lw_okq (⟨"MillFarmersModel", "told", "(I)I"⟩, 53) := ⟨⟨by decide +kernel, by decide +kernel⟩, List.mem_of_getElem? (i := 665) (by decide +kernel), List.mem_of_getElem? (i := 841) (by decide +kernel), List.mem_of_getElem? (i := 842) (by decide +kernel)⟩
theorem lw_p46 : lw_okq (⟨"MillFarmersModel", "isFarmer", "(I)Z"⟩, 53) := ⟨⟨by decide +kernel, by decide +kernel⟩, List.mem_of_getElem? (i := 665) (by decide +kernel), List.mem_of_getElem? (i := 854) (by decide +kernel), List.mem_of_getElem? (i := 855) (by decide +kernel)⟩
theorem lw_p47 : lw_okq (⟨"MillFarmersModel", "four", "(I)V"⟩, 53) := ⟨⟨by decide +kernel, by decide +kernel⟩, List.mem_of_getElem? (i := 665) (by decide +kernel), List.mem_of_getElem? (i := 867) (by decide +kernel), List.mem_of_getElem? (i := 868) (by decide +kernel)⟩
def lw_privs_3 : List (MethodName × Nat) := [(⟨"MillFarmers$Land", "lostAt", "(I)I"⟩, 5), (⟨"MillFarmers", "isShort", "(I)Z"⟩, 12), (⟨"MillFarmers$Farmers", "howManyIn", "(I)I"⟩, 4), (⟨"MillFarmers$Land", "add", "(III)V"⟩, 5), (⟨"MillFarmers$Road", "add", "(II)V"⟩, 8), (⟨"MillFarmers$Road", "walk", "(I)V"⟩, 8), (⟨"MillFarmers$Road", "cellOf", "(IIII)I"⟩, 8), (⟨"MillFarmers$Road", "goOnFrom", "(III)V"⟩, 8), (⟨"MillFarmers$Road", "placeAtEnd", "(III)I"⟩, 8), (⟨"MillFarmers$Road", "arrive", "(III)V"⟩, 8), (⟨"MillFarmers$Road", "mostMet", "()I"⟩, 8), (⟨"MillFarmers$Road", "firstHourWith", "(I)I"⟩, 8), (⟨"MillFarmers$Baskets", "ownerOf", "(II)I"⟩, 6), (⟨"MillFarmersModel", "told", "(I)I"⟩, 53), (⟨"MillFarmersModel", "isFarmer", "(I)Z"⟩, 53), (⟨"MillFarmersModel", "four", "(I)V"⟩, 53)]
theorem lw_r3 : ∀ q ∈ lw_privs_3, lw_okq q := List.forall_mem_cons.mpr ⟨lw_p32, List.forall_mem_cons.mpr ⟨lw_p33, List.forall_mem_cons.mpr ⟨lw_p34, List.forall_mem_cons.mpr ⟨lw_p35, List.forall_mem_cons.mpr ⟨lw_p36, List.forall_mem_cons.mpr ⟨lw_p37, List.forall_mem_cons.mpr ⟨lw_p38, List.forall_mem_cons.mpr ⟨lw_p39, List.forall_mem_cons.mpr ⟨lw_p40, List.forall_mem_cons.mpr ⟨lw_p41, List.forall_mem_cons.mpr ⟨lw_p42, List.forall_mem_cons.mpr ⟨lw_p43, List.forall_mem_cons.mpr ⟨lw_p44, List.forall_mem_cons.mpr ⟨lw_p45, List.forall_mem_cons.mpr ⟨lw_p46, List.forall_mem_cons.mpr ⟨lw_p47, fun _ h => absurd h List.not_mem_nil⟩⟩⟩⟩⟩⟩⟩⟩⟩⟩⟩⟩⟩⟩⟩⟩
theorem lw_p48 : lw_okq (⟨"MillFarmersModel", "next", "()V"⟩, 53) := ⟨⟨by decide +kernel, by decide +kernel⟩, List.mem_of_getElem? (i := 665) (by decide +kernel), List.mem_of_getElem? (i := 879) (by decide +kernel), List.mem_of_getElem? (i := 880) (by decide +kernel)⟩
theorem lw_p49 : lw_okq (⟨"MillFarmersModel", "readClause", "()V"⟩, 53) := ⟨⟨by decide +kernel, by decide +kernel⟩, List.mem_of_getElem? (i := 665) (by decide +kernel), List.mem_of_getElem? (i := 895) (by decide +kernel), List.mem_of_getElem? (i := 896) (by decide +kernel)⟩
theorem lw_p50 : lw_okq (⟨"MillFarmersModel", "isWord", "(IIIII)Z"⟩, 53) := ⟨⟨by decide +kernel, by decide +kernel⟩, List.mem_of_getElem? (i := 665) (by decide +kernel), List.mem_of_getElem? (i := 899) (by decide +kernel), List.mem_of_getElem? (i := 900) (by decide +kernel)⟩
theorem lw_p51 : lw_okq (⟨"MillFarmersModel", "partAt", "()I"⟩, 53) := ⟨⟨by decide +kernel, by decide +kernel⟩, List.mem_of_getElem? (i := 665) (by decide +kernel), List.mem_of_getElem? (i := 903) (by decide +kernel), List.mem_of_getElem? (i := 904) (by decide +kernel)⟩
theorem lw_p52 : lw_okq (⟨"MillFarmersModel", "must", "(Z)V"⟩, 53) := ⟨⟨by decide +kernel, by decide +kernel⟩, List.mem_of_getElem? (i := 665) (by decide +kernel), List.mem_of_getElem? (i := 907) (by decide +kernel), List.mem_of_getElem? (i := 908) (by decide +kernel)⟩
theorem lw_p53 : lw_okq (⟨"MillFarmersModel", "number", "(JJ)I"⟩, 53) := ⟨⟨by decide +kernel, by decide +kernel⟩, List.mem_of_getElem? (i := 665) (by decide +kernel), List.mem_of_getElem? (i := 911) (by decide +kernel), List.mem_of_getElem? (i := 912) (by decide +kernel)⟩
theorem lw_p54 : lw_okq (⟨"MillFarmersModel", "reckon", "(I)V"⟩, 53) := ⟨⟨by decide +kernel, by decide +kernel⟩, List.mem_of_getElem? (i := 665) (by decide +kernel), List.mem_of_getElem? (i := 933) (by decide +kernel), List.mem_of_getElem? (i := 934) (by decide +kernel)⟩
theorem lw_p55 : lw_okq (⟨"MillFarmersModel", "partOf", "(JI)J"⟩, 53) := ⟨⟨by decide +kernel, by decide +kernel⟩, List.mem_of_getElem? (i := 665) (by decide +kernel), List.mem_of_getElem? (i := 938) (by decide +kernel), List.mem_of_getElem? (i := 939) (by decide +kernel)⟩
theorem lw_p56 : lw_okq (⟨"MillFarmersModel", "stand", "(I)V"⟩, 53) := ⟨⟨by decide +kernel, by decide +kernel⟩, List.mem_of_getElem? (i := 665) (by decide +kernel), List.mem_of_getElem? (i := 942) (by decide +kernel), List.mem_of_getElem? (i := 943) (by decide +kernel)⟩
theorem lw_p57 : lw_okq (⟨"MillFarmersModel", "givenAt", "(IJ)J"⟩, 53) := ⟨⟨by decide +kernel, by decide +kernel⟩, List.mem_of_getElem? (i := 665) (by decide +kernel), List.mem_of_getElem? (i := 947) (by decide +kernel), List.mem_of_getElem? (i := 948) (by decide +kernel)⟩
theorem lw_p58 : lw_okq (⟨"MillFarmersModel", "foretold", "(I)J"⟩, 53) := ⟨⟨by decide +kernel, by decide +kernel⟩, List.mem_of_getElem? (i := 665) (by decide +kernel), List.mem_of_getElem? (i := 951) (by decide +kernel), List.mem_of_getElem? (i := 952) (by decide +kernel)⟩
theorem lw_p59 : lw_okq (⟨"MillFarmersModel", "walk", "(I)V"⟩, 53) := ⟨⟨by decide +kernel, by decide +kernel⟩, List.mem_of_getElem? (i := 665) (by decide +kernel), List.mem_of_getElem? (i := 973) (by decide +kernel), List.mem_of_getElem? (i := 974) (by decide +kernel)⟩
theorem lw_p60 : lw_okq (⟨"MillFarmersModel", "addPlace", "(I)V"⟩, 53) := ⟨⟨by decide +kernel, by decide +kernel⟩, List.mem_of_getElem? (i := 665) (by decide +kernel), List.mem_of_getElem? (i := 977) (by decide +kernel), List.mem_of_getElem? (i := 978) (by decide +kernel)⟩
theorem lw_p61 : lw_okq (⟨"MillFarmersModel", "metAt", "(II)I"⟩, 53) := ⟨⟨by decide +kernel, by decide +kernel⟩, List.mem_of_getElem? (i := 665) (by decide +kernel), List.mem_of_getElem? (i := 982) (by decide +kernel), List.mem_of_getElem? (i := 983) (by decide +kernel)⟩
theorem lw_p62 : lw_okq (⟨"MillFarmersModel", "widen", "(IIIIII)V"⟩, 53) := ⟨⟨by decide +kernel, by decide +kernel⟩, List.mem_of_getElem? (i := 665) (by decide +kernel), List.mem_of_getElem? (i := 989) (by decide +kernel), List.mem_of_getElem? (i := 990) (by decide +kernel)⟩
theorem lw_p63 : lw_okq (⟨"MillFarmersModel", "leastOf", "(I)I"⟩, 53) := ⟨⟨by decide +kernel, by decide +kernel⟩, List.mem_of_getElem? (i := 665) (by decide +kernel), List.mem_of_getElem? (i := 993) (by decide +kernel), List.mem_of_getElem? (i := 994) (by decide +kernel)⟩
def lw_privs_4 : List (MethodName × Nat) := [(⟨"MillFarmersModel", "next", "()V"⟩, 53), (⟨"MillFarmersModel", "readClause", "()V"⟩, 53), (⟨"MillFarmersModel", "isWord", "(IIIII)Z"⟩, 53), (⟨"MillFarmersModel", "partAt", "()I"⟩, 53), (⟨"MillFarmersModel", "must", "(Z)V"⟩, 53), (⟨"MillFarmersModel", "number", "(JJ)I"⟩, 53), (⟨"MillFarmersModel", "reckon", "(I)V"⟩, 53), (⟨"MillFarmersModel", "partOf", "(JI)J"⟩, 53), (⟨"MillFarmersModel", "stand", "(I)V"⟩, 53), (⟨"MillFarmersModel", "givenAt", "(IJ)J"⟩, 53), (⟨"MillFarmersModel", "foretold", "(I)J"⟩, 53), (⟨"MillFarmersModel", "walk", "(I)V"⟩, 53), (⟨"MillFarmersModel", "addPlace", "(I)V"⟩, 53), (⟨"MillFarmersModel", "metAt", "(II)I"⟩, 53), (⟨"MillFarmersModel", "widen", "(IIIIII)V"⟩, 53), (⟨"MillFarmersModel", "leastOf", "(I)I"⟩, 53)]
theorem lw_r4 : ∀ q ∈ lw_privs_4, lw_okq q := List.forall_mem_cons.mpr ⟨lw_p48, List.forall_mem_cons.mpr ⟨lw_p49, List.forall_mem_cons.mpr ⟨lw_p50, List.forall_mem_cons.mpr ⟨lw_p51, List.forall_mem_cons.mpr ⟨lw_p52, List.forall_mem_cons.mpr ⟨lw_p53, List.forall_mem_cons.mpr ⟨lw_p54, List.forall_mem_cons.mpr ⟨lw_p55, List.forall_mem_cons.mpr ⟨lw_p56, List.forall_mem_cons.mpr ⟨lw_p57, List.forall_mem_cons.mpr ⟨lw_p58, List.forall_mem_cons.mpr ⟨lw_p59, List.forall_mem_cons.mpr ⟨lw_p60, List.forall_mem_cons.mpr ⟨lw_p61, List.forall_mem_cons.mpr ⟨lw_p62, List.forall_mem_cons.mpr ⟨lw_p63, fun _ h => absurd h List.not_mem_nil⟩⟩⟩⟩⟩⟩⟩⟩⟩⟩⟩⟩⟩⟩⟩⟩
def lw_privs : List (MethodName × Nat) := lw_privs_1 ++ (lw_privs_2 ++ (lw_privs_3 ++ (lw_privs_4)))
def lw_tbl : List Cond := k2_sels lw_privs ++ tables_1
theorem lw_privs_ok : ∀ q ∈ lw_privs, lw_okq q := by
  show ∀ q ∈ lw_privs_1 ++ (lw_privs_2 ++ (lw_privs_3 ++ (lw_privs_4))), lw_okq q
  exact List.forall_mem_append.mpr ⟨lw_r1, List.forall_mem_append.mpr ⟨lw_r2, List.forall_mem_append.mpr ⟨lw_r3, lw_r4⟩⟩⟩
-- ===== end of PART A; then your names; then what follows =====
end
section
def RX0 : String := "MillFarmers$Baskets"
def TX0 : u_T := fun k => match k with
  | 0 => ("MillFarmers$Baskets", "farmer", "[I", true)
  | 1 => ("MillFarmers$Baskets", "weight", "[I", true)
  | 2 => ("MillFarmers$Baskets", "grade", "[I", true)
  | 3 => ("MillFarmers$Baskets", "known", "[I", true)
  | 4 => ("MillFarmers$Baskets", "size", "I", false)
  | _ => ("MillFarmers$Baskets", "weightTogether", "I", false)
def tyX0 : Nat → FieldType := fun k => match k with
  | 0 => .array .int
  | 1 => .array .int
  | 2 => .array .int
  | 3 => .array .int
  | 4 => .int
  | _ => .int
abbrev wsX00 : List Cond := u_ws RX0 TX0 6
theorem nmX0 : ∀ a, a < 6 → ∀ b, b < 6 → a ≠ b → (TX0 a).2.1 ≠ (TX0 b).2.1 := by decide +kernel
theorem tyX0_ok : ∀ k, k < 6 → parseFieldDescriptor (TX0 k).2.2.1 = some (tyX0 k) := by decide +kernel
abbrev cX0_init : ByteArray := prog_2_method_1_code
def yX0_init : MethodName := ⟨RX0, "<init>", "()V"⟩
abbrev cX0_add : ByteArray := prog_2_method_2_code
def yX0_add : MethodName := ⟨RX0, "add", "(IIII)V"⟩
abbrev cX0_ownerOf : ByteArray := prog_2_method_3_code
def yX0_ownerOf : MethodName := ⟨RX0, "ownerOf", "(II)I"⟩
def RX1 : String := "MillFarmers$Books"
def TX1 : u_T := fun k => match k with
  | 0 => ("MillFarmers$Books", "weight", "[J", true)
  | 1 => ("MillFarmers$Books", "lent", "[J", true)
  | 2 => ("MillFarmers$Books", "check", "[J", true)
  | 3 => ("MillFarmers$Books", "beyond", "[J", true)
  | 4 => ("MillFarmers$Books", "off", "[J", true)
  | 5 => ("MillFarmers$Books", "able", "[J", true)
  | 6 => ("MillFarmers$Books", "given", "[J", true)
  | 7 => ("MillFarmers$Books", "paid", "[J", true)
  | 8 => ("MillFarmers$Books", "owedTogether", "J", false)
  | 9 => ("MillFarmers$Books", "ableTogether", "J", false)
  | _ => ("MillFarmers$Books", "givenTogether", "J", false)
def tyX1 : Nat → FieldType := fun k => match k with
  | 0 => .array .long
  | 1 => .array .long
  | 2 => .array .long
  | 3 => .array .long
  | 4 => .array .long
  | 5 => .array .long
  | 6 => .array .long
  | 7 => .array .long
  | 8 => .long
  | 9 => .long
  | _ => .long
abbrev wsX10 : List Cond := u_ws RX1 TX1 11
theorem nmX1 : ∀ a, a < 11 → ∀ b, b < 11 → a ≠ b → (TX1 a).2.1 ≠ (TX1 b).2.1 := by decide +kernel
theorem tyX1_ok : ∀ k, k < 11 → parseFieldDescriptor (TX1 k).2.2.1 = some (tyX1 k) := by decide +kernel
abbrev cX1_init : ByteArray := prog_3_method_1_code
def yX1_init : MethodName := ⟨RX1, "<init>", "()V"⟩
abbrev cX1_draw : ByteArray := prog_3_method_2_code
def yX1_draw : MethodName := ⟨RX1, "draw", "(LMillFarmers$Farmers;LMillFarmers$Credits;LMillFarmers$Baskets;LMillFarmers$Terms;I)V"⟩
abbrev cX1_addCredits : ByteArray := prog_3_method_3_code
def yX1_addCredits : MethodName := ⟨RX1, "addCredits", "(LMillFarmers$Credits;I)V"⟩
abbrev cX1_addBaskets : ByteArray := prog_3_method_4_code
def yX1_addBaskets : MethodName := ⟨RX1, "addBaskets", "(LMillFarmers$Farmers;LMillFarmers$Baskets;LMillFarmers$Terms;I)V"⟩
abbrev cX1_pay : ByteArray := prog_3_method_5_code
def yX1_pay : MethodName := ⟨RX1, "pay", "(I)J"⟩
abbrev cX1_debt : ByteArray := prog_3_method_6_code
def yX1_debt : MethodName := ⟨RX1, "debt", "(I)J"⟩
abbrev cX1_stand : ByteArray := prog_3_method_7_code
def yX1_stand : MethodName := ⟨RX1, "stand", "(LMillFarmers$Farmers;LMillFarmers$Terms;I)V"⟩
abbrev cX1_giveEvenly : ByteArray := prog_3_method_8_code
def yX1_giveEvenly : MethodName := ⟨RX1, "giveEvenly", "(I)V"⟩
abbrev cX1_greatestLevel : ByteArray := prog_3_method_9_code
def yX1_greatestLevel : MethodName := ⟨RX1, "greatestLevel", "(I)J"⟩
abbrev cX1_sumAtLevel : ByteArray := prog_3_method_10_code
def yX1_sumAtLevel : MethodName := ⟨RX1, "sumAtLevel", "(JI)J"⟩
abbrev cX1_payDebts : ByteArray := prog_3_method_11_code
def yX1_payDebts : MethodName := ⟨RX1, "payDebts", "(LMillFarmers$Farmers;I)V"⟩
def RX2 : String := "MillFarmers$ContractReader"
def TX2 : u_T := fun k => match k with
  | 0 => ("MillFarmers$ContractReader", "text", "LMillFarmers$Tape;", true)
  | 1 => ("MillFarmers$ContractReader", "terms", "LMillFarmers$Terms;", false)
  | 2 => ("MillFarmers$ContractReader", "kind", "I", false)
  | 3 => ("MillFarmers$ContractReader", "start", "I", false)
  | _ => ("MillFarmers$ContractReader", "behind", "I", false)
def tyX2 : Nat → FieldType := fun k => match k with
  | 0 => .object "MillFarmers$Tape"
  | 1 => .object "MillFarmers$Terms"
  | 2 => .int
  | 3 => .int
  | _ => .int
abbrev wsX20 : List Cond := u_ws RX2 TX2 5
theorem nmX2 : ∀ a, a < 5 → ∀ b, b < 5 → a ≠ b → (TX2 a).2.1 ≠ (TX2 b).2.1 := by decide +kernel
theorem tyX2_ok : ∀ k, k < 5 → parseFieldDescriptor (TX2 k).2.2.1 = some (tyX2 k) := by decide +kernel
abbrev cX2_init : ByteArray := prog_4_method_1_code
def yX2_init : MethodName := ⟨RX2, "<init>", "(LMillFarmers$Tape;LMillFarmers$Terms;)V"⟩
abbrev cX2_read : ByteArray := prog_4_method_2_code
def yX2_read : MethodName := ⟨RX2, "read", "(LMillFarmers$Terms;)I"⟩
abbrev cX2_readClause : ByteArray := prog_4_method_3_code
def yX2_readClause : MethodName := ⟨RX2, "readClause", "()Z"⟩
abbrev cX2_readPrice : ByteArray := prog_4_method_4_code
def yX2_readPrice : MethodName := ⟨RX2, "readPrice", "()Z"⟩
abbrev cX2_readQuota : ByteArray := prog_4_method_5_code
def yX2_readQuota : MethodName := ⟨RX2, "readQuota", "()Z"⟩
abbrev cX2_readShare : ByteArray := prog_4_method_6_code
def yX2_readShare : MethodName := ⟨RX2, "readShare", "(I)Z"⟩
abbrev cX2_next : ByteArray := prog_4_method_7_code
def yX2_next : MethodName := ⟨RX2, "next", "()V"⟩
abbrev cX2_kindAt : ByteArray := prog_4_method_8_code
def yX2_kindAt : MethodName := ⟨RX2, "kindAt", "(I)I"⟩
abbrev cX2_isSemicolon : ByteArray := prog_4_method_9_code
def yX2_isSemicolon : MethodName := ⟨RX2, "isSemicolon", "()Z"⟩
abbrev cX2_isWord : ByteArray := prog_4_method_10_code
def yX2_isWord : MethodName := ⟨RX2, "isWord", "(Ljava/lang/String;)Z"⟩
abbrev cX2_number : ByteArray := prog_4_method_11_code
def yX2_number : MethodName := ⟨RX2, "number", "()I"⟩
def RX3 : String := "MillFarmers$Credits"
def TX3 : u_T := fun k => match k with
  | 0 => ("MillFarmers$Credits", "farmer", "[I", true)
  | 1 => ("MillFarmers$Credits", "amount", "[I", true)
  | 2 => ("MillFarmers$Credits", "known", "[I", true)
  | _ => ("MillFarmers$Credits", "size", "I", false)
def tyX3 : Nat → FieldType := fun k => match k with
  | 0 => .array .int
  | 1 => .array .int
  | 2 => .array .int
  | _ => .int
abbrev wsX30 : List Cond := u_ws RX3 TX3 4
theorem nmX3 : ∀ a, a < 4 → ∀ b, b < 4 → a ≠ b → (TX3 a).2.1 ≠ (TX3 b).2.1 := by decide +kernel
theorem tyX3_ok : ∀ k, k < 4 → parseFieldDescriptor (TX3 k).2.2.1 = some (tyX3 k) := by decide +kernel
abbrev cX3_init : ByteArray := prog_5_method_1_code
def yX3_init : MethodName := ⟨RX3, "<init>", "()V"⟩
abbrev cX3_add : ByteArray := prog_5_method_2_code
def yX3_add : MethodName := ⟨RX3, "add", "(III)V"⟩
def RX4 : String := "MillFarmers$Farmers"
def TX4 : u_T := fun k => match k with
  | 0 => ("MillFarmers$Farmers", "group", "[I", true)
  | 1 => ("MillFarmers$Farmers", "place", "[I", true)
  | 2 => ("MillFarmers$Farmers", "fields", "[I", true)
  | _ => ("MillFarmers$Farmers", "size", "I", false)
def tyX4 : Nat → FieldType := fun k => match k with
  | 0 => .array .int
  | 1 => .array .int
  | 2 => .array .int
  | _ => .int
abbrev wsX40 : List Cond := u_ws RX4 TX4 4
theorem nmX4 : ∀ a, a < 4 → ∀ b, b < 4 → a ≠ b → (TX4 a).2.1 ≠ (TX4 b).2.1 := by decide +kernel
theorem tyX4_ok : ∀ k, k < 4 → parseFieldDescriptor (TX4 k).2.2.1 = some (tyX4 k) := by decide +kernel
abbrev cX4_init : ByteArray := prog_6_method_1_code
def yX4_init : MethodName := ⟨RX4, "<init>", "()V"⟩
abbrev cX4_add : ByteArray := prog_6_method_2_code
def yX4_add : MethodName := ⟨RX4, "add", "(III)V"⟩
abbrev cX4_howManyIn : ByteArray := prog_6_method_3_code
def yX4_howManyIn : MethodName := ⟨RX4, "howManyIn", "(I)I"⟩
def RX5 : String := "MillFarmers$Land"
def TX5 : u_T := fun k => match k with
  | 0 => ("MillFarmers$Land", "from", "[I", true)
  | 1 => ("MillFarmers$Land", "to", "[I", true)
  | 2 => ("MillFarmers$Land", "part", "[I", true)
  | 3 => ("MillFarmers$Land", "size", "I", false)
  | _ => ("MillFarmers$Land", "yieldOfField", "I", false)
def tyX5 : Nat → FieldType := fun k => match k with
  | 0 => .array .int
  | 1 => .array .int
  | 2 => .array .int
  | 3 => .int
  | _ => .int
abbrev wsX50 : List Cond := u_ws RX5 TX5 5
theorem nmX5 : ∀ a, a < 5 → ∀ b, b < 5 → a ≠ b → (TX5 a).2.1 ≠ (TX5 b).2.1 := by decide +kernel
theorem tyX5_ok : ∀ k, k < 5 → parseFieldDescriptor (TX5 k).2.2.1 = some (tyX5 k) := by decide +kernel
abbrev cX5_init : ByteArray := prog_7_method_1_code
def yX5_init : MethodName := ⟨RX5, "<init>", "()V"⟩
abbrev cX5_add : ByteArray := prog_7_method_2_code
def yX5_add : MethodName := ⟨RX5, "add", "(III)V"⟩
abbrev cX5_lostAt : ByteArray := prog_7_method_3_code
def yX5_lostAt : MethodName := ⟨RX5, "lostAt", "(I)I"⟩
abbrev cX5_foretold : ByteArray := prog_7_method_4_code
def yX5_foretold : MethodName := ⟨RX5, "foretold", "(II)J"⟩
def RX6 : String := "MillFarmers$Road"
def TX6 : u_T := fun k => match k with
  | 0 => ("MillFarmers$Road", "place", "[I", true)
  | 1 => ("MillFarmers$Road", "hour", "[I", true)
  | 2 => ("MillFarmers$Road", "earliest", "[I", true)
  | 3 => ("MillFarmers$Road", "hourOfCount", "[I", true)
  | 4 => ("MillFarmers$Road", "size", "I", false)
  | 5 => ("MillFarmers$Road", "begin", "I", false)
  | 6 => ("MillFarmers$Road", "left", "I", false)
  | _ => ("MillFarmers$Road", "right", "I", false)
def tyX6 : Nat → FieldType := fun k => match k with
  | 0 => .array .int
  | 1 => .array .int
  | 2 => .array .int
  | 3 => .array .int
  | 4 => .int
  | 5 => .int
  | 6 => .int
  | _ => .int
abbrev wsX60 : List Cond := u_ws RX6 TX6 8
theorem nmX6 : ∀ a, a < 8 → ∀ b, b < 8 → a ≠ b → (TX6 a).2.1 ≠ (TX6 b).2.1 := by decide +kernel
theorem tyX6_ok : ∀ k, k < 8 → parseFieldDescriptor (TX6 k).2.2.1 = some (tyX6 k) := by decide +kernel
abbrev cX6_init : ByteArray := prog_8_method_1_code
def yX6_init : MethodName := ⟨RX6, "<init>", "()V"⟩
abbrev cX6_add : ByteArray := prog_8_method_2_code
def yX6_add : MethodName := ⟨RX6, "add", "(II)V"⟩
abbrev cX6_walk : ByteArray := prog_8_method_3_code
def yX6_walk : MethodName := ⟨RX6, "walk", "(I)V"⟩
abbrev cX6_goOnFrom : ByteArray := prog_8_method_4_code
def yX6_goOnFrom : MethodName := ⟨RX6, "goOnFrom", "(III)V"⟩
abbrev cX6_arrive : ByteArray := prog_8_method_5_code
def yX6_arrive : MethodName := ⟨RX6, "arrive", "(III)V"⟩
abbrev cX6_placeAtEnd : ByteArray := prog_8_method_6_code
def yX6_placeAtEnd : MethodName := ⟨RX6, "placeAtEnd", "(III)I"⟩
abbrev cX6_cellOf : ByteArray := prog_8_method_7_code
def yX6_cellOf : MethodName := ⟨RX6, "cellOf", "(IIII)I"⟩
abbrev cX6_mostMet : ByteArray := prog_8_method_8_code
def yX6_mostMet : MethodName := ⟨RX6, "mostMet", "()I"⟩
abbrev cX6_firstHourWith : ByteArray := prog_8_method_9_code
def yX6_firstHourWith : MethodName := ⟨RX6, "firstHourWith", "(I)I"⟩
def RX7 : String := "MillFarmers$Tape"
def TX7 : u_T := fun k => match k with
  | 0 => ("MillFarmers$Tape", "bytes", "[I", true)
  | _ => ("MillFarmers$Tape", "length", "I", false)
def tyX7 : Nat → FieldType := fun k => match k with
  | 0 => .array .int
  | _ => .int
abbrev wsX70 : List Cond := u_ws RX7 TX7 2
theorem nmX7 : ∀ a, a < 2 → ∀ b, b < 2 → a ≠ b → (TX7 a).2.1 ≠ (TX7 b).2.1 := by decide +kernel
theorem tyX7_ok : ∀ k, k < 2 → parseFieldDescriptor (TX7 k).2.2.1 = some (tyX7 k) := by decide +kernel
abbrev cX7_init : ByteArray := prog_9_method_1_code
def yX7_init : MethodName := ⟨RX7, "<init>", "()V"⟩
abbrev cX7_append : ByteArray := prog_9_method_2_code
def yX7_append : MethodName := ⟨RX7, "append", "(I)V"⟩
def RX8 : String := "MillFarmers$Terms"
def TX8 : u_T := fun k => match k with
  | 0 => ("MillFarmers$Terms", "price", "[I", true)
  | 1 => ("MillFarmers$Terms", "upper", "[I", true)
  | 2 => ("MillFarmers$Terms", "lower", "[I", true)
  | 3 => ("MillFarmers$Terms", "quota", "I", false)
  | _ => ("MillFarmers$Terms", "clauses", "I", false)
def tyX8 : Nat → FieldType := fun k => match k with
  | 0 => .array .int
  | 1 => .array .int
  | 2 => .array .int
  | 3 => .int
  | _ => .int
abbrev wsX80 : List Cond := u_ws RX8 TX8 5
theorem nmX8 : ∀ a, a < 5 → ∀ b, b < 5 → a ≠ b → (TX8 a).2.1 ≠ (TX8 b).2.1 := by decide +kernel
theorem tyX8_ok : ∀ k, k < 5 → parseFieldDescriptor (TX8 k).2.2.1 = some (tyX8 k) := by decide +kernel
abbrev cX8_init : ByteArray := prog_10_method_1_code
def yX8_init : MethodName := ⟨RX8, "<init>", "()V"⟩
abbrev cX8_reset : ByteArray := prog_10_method_2_code
def yX8_reset : MethodName := ⟨RX8, "reset", "()V"⟩
abbrev cX8_setShare : ByteArray := prog_10_method_3_code
def yX8_setShare : MethodName := ⟨RX8, "setShare", "(III)V"⟩
abbrev cX8_shareOf : ByteArray := prog_10_method_4_code
def yX8_shareOf : MethodName := ⟨RX8, "shareOf", "(IJ)J"⟩
def RX9 : String := "MillFarmers"
def TX9 : u_T := fun k => match k with
  | 0 => ("MillFarmers", "farmers", "LMillFarmers$Farmers;", true)
  | 1 => ("MillFarmers", "credits", "LMillFarmers$Credits;", true)
  | 2 => ("MillFarmers", "baskets", "LMillFarmers$Baskets;", true)
  | 3 => ("MillFarmers", "tape", "LMillFarmers$Tape;", true)
  | 4 => ("MillFarmers", "reader", "LMillFarmers$ContractReader;", true)
  | 5 => ("MillFarmers", "books", "LMillFarmers$Books;", true)
  | 6 => ("MillFarmers", "land", "LMillFarmers$Land;", true)
  | 7 => ("MillFarmers", "road", "LMillFarmers$Road;", true)
  | 8 => ("MillFarmers", "terms", "LMillFarmers$Terms;", false)
  | 9 => ("MillFarmers", "draft", "LMillFarmers$Terms;", false)
  | 10 => ("MillFarmers", "faultPlace", "I", false)
  | _ => ("MillFarmers", "refusal", "I", false)
def tyX9 : Nat → FieldType := fun k => match k with
  | 0 => .object "MillFarmers$Farmers"
  | 1 => .object "MillFarmers$Credits"
  | 2 => .object "MillFarmers$Baskets"
  | 3 => .object "MillFarmers$Tape"
  | 4 => .object "MillFarmers$ContractReader"
  | 5 => .object "MillFarmers$Books"
  | 6 => .object "MillFarmers$Land"
  | 7 => .object "MillFarmers$Road"
  | 8 => .object "MillFarmers$Terms"
  | 9 => .object "MillFarmers$Terms"
  | 10 => .int
  | _ => .int
abbrev wsX90 : List Cond := u_ws RX9 TX9 12
theorem nmX9 : ∀ a, a < 12 → ∀ b, b < 12 → a ≠ b → (TX9 a).2.1 ≠ (TX9 b).2.1 := by decide +kernel
theorem tyX9_ok : ∀ k, k < 12 → parseFieldDescriptor (TX9 k).2.2.1 = some (tyX9 k) := by decide +kernel
abbrev cX9_init : ByteArray := prog_1_method_1_code
def yX9_init : MethodName := ⟨RX9, "<init>", "()V"⟩
abbrev cX9_farmer : ByteArray := prog_1_method_2_code
def yX9_farmer : MethodName := ⟨RX9, "farmer", "(III)I"⟩
abbrev cX9_credit : ByteArray := prog_1_method_3_code
def yX9_credit : MethodName := ⟨RX9, "credit", "(III)I"⟩
abbrev cX9_basket : ByteArray := prog_1_method_4_code
def yX9_basket : MethodName := ⟨RX9, "basket", "(IIII)I"⟩
abbrev cX9_feed : ByteArray := prog_1_method_5_code
def yX9_feed : MethodName := ⟨RX9, "feed", "(IIIII)I"⟩
abbrev cX9_end : ByteArray := prog_1_method_6_code
def yX9_end : MethodName := ⟨RX9, "end", "(I)I"⟩
abbrev cX9_contract : ByteArray := prog_1_method_7_code
def yX9_contract : MethodName := ⟨RX9, "contract", "()I"⟩
abbrev cX9_fault : ByteArray := prog_1_method_8_code
def yX9_fault : MethodName := ⟨RX9, "fault", "()I"⟩
abbrev cX9_of : ByteArray := prog_1_method_9_code
def yX9_of : MethodName := ⟨RX9, "of", "(III)J"⟩
abbrev cX9_group : ByteArray := prog_1_method_10_code
def yX9_group : MethodName := ⟨RX9, "group", "(III)J"⟩
abbrev cX9_bears : ByteArray := prog_1_method_11_code
def yX9_bears : MethodName := ⟨RX9, "bears", "(I)I"⟩
abbrev cX9_drought : ByteArray := prog_1_method_12_code
def yX9_drought : MethodName := ⟨RX9, "drought", "(III)I"⟩
abbrev cX9_visit : ByteArray := prog_1_method_13_code
def yX9_visit : MethodName := ⟨RX9, "visit", "(II)I"⟩
abbrev cX9_clear : ByteArray := prog_1_method_14_code
def yX9_clear : MethodName := ⟨RX9, "clear", "()I"⟩
abbrev cX9_most : ByteArray := prog_1_method_15_code
def yX9_most : MethodName := ⟨RX9, "most", "(I)I"⟩
abbrev cX9_least : ByteArray := prog_1_method_16_code
def yX9_least : MethodName := ⟨RX9, "least", "(II)I"⟩
abbrev cX9_led : ByteArray := prog_1_method_17_code
def yX9_led : MethodName := ⟨RX9, "led", "(II)I"⟩
abbrev cX9_count : ByteArray := prog_1_method_18_code
def yX9_count : MethodName := ⟨RX9, "count", "(I)I"⟩
abbrev cX9_status : ByteArray := prog_1_method_19_code
def yX9_status : MethodName := ⟨RX9, "status", "()I"⟩
abbrev cX9_refuse : ByteArray := prog_1_method_20_code
def yX9_refuse : MethodName := ⟨RX9, "refuse", "(I)I"⟩
abbrev cX9_accept : ByteArray := prog_1_method_21_code
def yX9_accept : MethodName := ⟨RX9, "accept", "(I)I"⟩
abbrev cX9_isNoFarmer : ByteArray := prog_1_method_22_code
def yX9_isNoFarmer : MethodName := ⟨RX9, "isNoFarmer", "(I)Z"⟩
abbrev cX9_foretold : ByteArray := prog_1_method_23_code
def yX9_foretold : MethodName := ⟨RX9, "foretold", "(I)J"⟩
abbrev cX9_isShort : ByteArray := prog_1_method_24_code
def yX9_isShort : MethodName := ⟨RX9, "isShort", "(I)Z"⟩
abbrev cX9_outside : ByteArray := prog_1_method_25_code
def yX9_outside : MethodName := ⟨RX9, "outside", "(III)Z"⟩
def RX10 : String := "MillFarmersModel"
def TX10 : u_T := fun k => match k with
  | 0 => ("MillFarmersModel", "thrown", "I", false)
  | 1 => ("MillFarmersModel", "status", "I", false)
  | 2 => ("MillFarmersModel", "farmers", "I", false)
  | 3 => ("MillFarmersModel", "fGroup", "[I", true)
  | 4 => ("MillFarmersModel", "fPlace", "[I", true)
  | 5 => ("MillFarmersModel", "fFields", "[I", true)
  | 6 => ("MillFarmersModel", "credits", "I", false)
  | 7 => ("MillFarmersModel", "cFarmer", "[I", true)
  | 8 => ("MillFarmersModel", "cAmount", "[I", true)
  | 9 => ("MillFarmersModel", "cKnown", "[I", true)
  | 10 => ("MillFarmersModel", "baskets", "I", false)
  | 11 => ("MillFarmersModel", "bFarmer", "[I", true)
  | 12 => ("MillFarmersModel", "bWeight", "[I", true)
  | 13 => ("MillFarmersModel", "bGrade", "[I", true)
  | 14 => ("MillFarmersModel", "bKnown", "[I", true)
  | 15 => ("MillFarmersModel", "clauses", "I", false)
  | 16 => ("MillFarmersModel", "prices", "[I", true)
  | 17 => ("MillFarmersModel", "quota", "I", false)
  | 18 => ("MillFarmersModel", "partA", "[I", true)
  | 19 => ("MillFarmersModel", "partB", "[I", true)
  | 20 => ("MillFarmersModel", "nMany", "I", false)
  | 21 => ("MillFarmersModel", "nPrices", "[I", true)
  | 22 => ("MillFarmersModel", "nQuota", "I", false)
  | 23 => ("MillFarmersModel", "nA", "[I", true)
  | 24 => ("MillFarmersModel", "nB", "[I", true)
  | 25 => ("MillFarmersModel", "tape", "[I", true)
  | 26 => ("MillFarmersModel", "taped", "I", false)
  | 27 => ("MillFarmersModel", "from", "I", false)
  | 28 => ("MillFarmersModel", "to", "I", false)
  | 29 => ("MillFarmersModel", "sort", "I", false)
  | 30 => ("MillFarmersModel", "worth", "J", false)
  | 31 => ("MillFarmersModel", "fault", "I", false)
  | 32 => ("MillFarmersModel", "bad", "Z", false)
  | 33 => ("MillFarmersModel", "weights", "[J", true)
  | 34 => ("MillFarmersModel", "owes", "[J", true)
  | 35 => ("MillFarmersModel", "checks", "[J", true)
  | 36 => ("MillFarmersModel", "offs", "[J", true)
  | 37 => ("MillFarmersModel", "rests", "[J", true)
  | 38 => ("MillFarmersModel", "quotas", "[J", true)
  | 39 => ("MillFarmersModel", "can", "[J", true)
  | 40 => ("MillFarmersModel", "given", "[J", true)
  | 41 => ("MillFarmersModel", "left", "[J", true)
  | 42 => ("MillFarmersModel", "bearing", "I", false)
  | 43 => ("MillFarmersModel", "droughts", "I", false)
  | 44 => ("MillFarmersModel", "dFrom", "[I", true)
  | 45 => ("MillFarmersModel", "dTo", "[I", true)
  | 46 => ("MillFarmersModel", "dPart", "[I", true)
  | 47 => ("MillFarmersModel", "visits", "I", false)
  | 48 => ("MillFarmersModel", "vFarmer", "[I", true)
  | 49 => ("MillFarmersModel", "vHour", "[I", true)
  | 50 => ("MillFarmersModel", "places", "I", false)
  | 51 => ("MillFarmersModel", "place", "[I", true)
  | _ => ("MillFarmersModel", "early", "[I", true)
def tyX10 : Nat → FieldType := fun k => match k with
  | 0 => .int
  | 1 => .int
  | 2 => .int
  | 3 => .array .int
  | 4 => .array .int
  | 5 => .array .int
  | 6 => .int
  | 7 => .array .int
  | 8 => .array .int
  | 9 => .array .int
  | 10 => .int
  | 11 => .array .int
  | 12 => .array .int
  | 13 => .array .int
  | 14 => .array .int
  | 15 => .int
  | 16 => .array .int
  | 17 => .int
  | 18 => .array .int
  | 19 => .array .int
  | 20 => .int
  | 21 => .array .int
  | 22 => .int
  | 23 => .array .int
  | 24 => .array .int
  | 25 => .array .int
  | 26 => .int
  | 27 => .int
  | 28 => .int
  | 29 => .int
  | 30 => .long
  | 31 => .int
  | 32 => .boolean
  | 33 => .array .long
  | 34 => .array .long
  | 35 => .array .long
  | 36 => .array .long
  | 37 => .array .long
  | 38 => .array .long
  | 39 => .array .long
  | 40 => .array .long
  | 41 => .array .long
  | 42 => .int
  | 43 => .int
  | 44 => .array .int
  | 45 => .array .int
  | 46 => .array .int
  | 47 => .int
  | 48 => .array .int
  | 49 => .array .int
  | 50 => .int
  | 51 => .array .int
  | _ => .array .int
abbrev wsX100 : List Cond := u_ws RX10 TX10 53
theorem nmX10 : ∀ a, a < 53 → ∀ b, b < 53 → a ≠ b → (TX10 a).2.1 ≠ (TX10 b).2.1 := by decide +kernel
theorem tyX10_ok : ∀ k, k < 53 → parseFieldDescriptor (TX10 k).2.2.1 = some (tyX10 k) := by decide +kernel
abbrev cX10_init : ByteArray := prog_12_method_1_code
def yX10_init : MethodName := ⟨RX10, "<init>", "()V"⟩
abbrev cX10_in : ByteArray := prog_12_method_3_code
def yX10_in : MethodName := ⟨RX10, "in", "(JJJ)Z"⟩
abbrev cX10_told : ByteArray := prog_12_method_4_code
def yX10_told : MethodName := ⟨RX10, "told", "(I)I"⟩
abbrev cX10_isDay : ByteArray := prog_12_method_5_code
def yX10_isDay : MethodName := ⟨RX10, "isDay", "(I)Z"⟩
abbrev cX10_isFarmer : ByteArray := prog_12_method_6_code
def yX10_isFarmer : MethodName := ⟨RX10, "isFarmer", "(I)Z"⟩
abbrev cX10_farmer : ByteArray := prog_12_method_7_code
def yX10_farmer : MethodName := ⟨RX10, "farmer", "(III)I"⟩
abbrev cX10_credit : ByteArray := prog_12_method_8_code
def yX10_credit : MethodName := ⟨RX10, "credit", "(III)I"⟩
abbrev cX10_basket : ByteArray := prog_12_method_9_code
def yX10_basket : MethodName := ⟨RX10, "basket", "(IIII)I"⟩
abbrev cX10_four : ByteArray := prog_12_method_10_code
def yX10_four : MethodName := ⟨RX10, "four", "(I)V"⟩
abbrev cX10_feed : ByteArray := prog_12_method_11_code
def yX10_feed : MethodName := ⟨RX10, "feed", "(IIIII)I"⟩
abbrev cX10_end : ByteArray := prog_12_method_12_code
def yX10_end : MethodName := ⟨RX10, "end", "(I)I"⟩
abbrev cX10_isSmall : ByteArray := prog_12_method_13_code
def yX10_isSmall : MethodName := ⟨RX10, "isSmall", "(I)Z"⟩
abbrev cX10_isDigit : ByteArray := prog_12_method_14_code
def yX10_isDigit : MethodName := ⟨RX10, "isDigit", "(I)Z"⟩
abbrev cX10_next : ByteArray := prog_12_method_15_code
def yX10_next : MethodName := ⟨RX10, "next", "()V"⟩
abbrev cX10_isWord : ByteArray := prog_12_method_16_code
def yX10_isWord : MethodName := ⟨RX10, "isWord", "(IIIII)Z"⟩
abbrev cX10_must : ByteArray := prog_12_method_17_code
def yX10_must : MethodName := ⟨RX10, "must", "(Z)V"⟩
abbrev cX10_number : ByteArray := prog_12_method_18_code
def yX10_number : MethodName := ⟨RX10, "number", "(JJ)I"⟩
abbrev cX10_partAt : ByteArray := prog_12_method_19_code
def yX10_partAt : MethodName := ⟨RX10, "partAt", "()I"⟩
abbrev cX10_readClause : ByteArray := prog_12_method_20_code
def yX10_readClause : MethodName := ⟨RX10, "readClause", "()V"⟩
abbrev cX10_contract : ByteArray := prog_12_method_21_code
def yX10_contract : MethodName := ⟨RX10, "contract", "()I"⟩
abbrev cX10_fault : ByteArray := prog_12_method_22_code
def yX10_fault : MethodName := ⟨RX10, "fault", "()I"⟩
abbrev cX10_partOf : ByteArray := prog_12_method_23_code
def yX10_partOf : MethodName := ⟨RX10, "partOf", "(JI)J"⟩
abbrev cX10_reckon : ByteArray := prog_12_method_24_code
def yX10_reckon : MethodName := ⟨RX10, "reckon", "(I)V"⟩
abbrev cX10_givenAt : ByteArray := prog_12_method_25_code
def yX10_givenAt : MethodName := ⟨RX10, "givenAt", "(IJ)J"⟩
abbrev cX10_stand : ByteArray := prog_12_method_26_code
def yX10_stand : MethodName := ⟨RX10, "stand", "(I)V"⟩
abbrev cX10_bears : ByteArray := prog_12_method_27_code
def yX10_bears : MethodName := ⟨RX10, "bears", "(I)I"⟩
abbrev cX10_drought : ByteArray := prog_12_method_28_code
def yX10_drought : MethodName := ⟨RX10, "drought", "(III)I"⟩
abbrev cX10_foretold : ByteArray := prog_12_method_29_code
def yX10_foretold : MethodName := ⟨RX10, "foretold", "(I)J"⟩
abbrev cX10_of : ByteArray := prog_12_method_30_code
def yX10_of : MethodName := ⟨RX10, "of", "(III)J"⟩
abbrev cX10_group : ByteArray := prog_12_method_31_code
def yX10_group : MethodName := ⟨RX10, "group", "(III)J"⟩
abbrev cX10_visit : ByteArray := prog_12_method_32_code
def yX10_visit : MethodName := ⟨RX10, "visit", "(II)I"⟩
abbrev cX10_clear : ByteArray := prog_12_method_33_code
def yX10_clear : MethodName := ⟨RX10, "clear", "()I"⟩
abbrev cX10_addPlace : ByteArray := prog_12_method_34_code
def yX10_addPlace : MethodName := ⟨RX10, "addPlace", "(I)V"⟩
abbrev cX10_metAt : ByteArray := prog_12_method_35_code
def yX10_metAt : MethodName := ⟨RX10, "metAt", "(II)I"⟩
abbrev cX10_at : ByteArray := prog_12_method_36_code
def yX10_at : MethodName := ⟨RX10, "at", "(IIII)I"⟩
abbrev cX10_widen : ByteArray := prog_12_method_37_code
def yX10_widen : MethodName := ⟨RX10, "widen", "(IIIIII)V"⟩
abbrev cX10_walk : ByteArray := prog_12_method_38_code
def yX10_walk : MethodName := ⟨RX10, "walk", "(I)V"⟩
abbrev cX10_leastOf : ByteArray := prog_12_method_39_code
def yX10_leastOf : MethodName := ⟨RX10, "leastOf", "(I)I"⟩
abbrev cX10_most : ByteArray := prog_12_method_40_code
def yX10_most : MethodName := ⟨RX10, "most", "(I)I"⟩
abbrev cX10_least : ByteArray := prog_12_method_41_code
def yX10_least : MethodName := ⟨RX10, "least", "(II)I"⟩
abbrev cX10_led : ByteArray := prog_12_method_42_code
def yX10_led : MethodName := ⟨RX10, "led", "(II)I"⟩
abbrev cX10_count : ByteArray := prog_12_method_43_code
def yX10_count : MethodName := ⟨RX10, "count", "(I)I"⟩
abbrev cX10_status : ByteArray := prog_12_method_44_code
def yX10_status : MethodName := ⟨RX10, "status", "()I"⟩
def RJ9 : String := "java/lang/Math"
def TJ9 : u_T := fun k => match k with
  | _ => ("", "", "", false)
def tyJ9 : Nat → FieldType := fun k => match k with
  | _ => .int
abbrev wsJ90 : List Cond := u_ws RJ9 TJ9 0
theorem nmJ9 : ∀ a, a < 0 → ∀ b, b < 0 → a ≠ b → (TJ9 a).2.1 ≠ (TJ9 b).2.1 := by decide +kernel
theorem tyJ9_ok : ∀ k, k < 0 → parseFieldDescriptor (TJ9 k).2.2.1 = some (tyJ9 k) := by decide +kernel
abbrev cJ9_max_7cf53 : ByteArray := prog_13_method_65_code
def yJ9_max_7cf53 : MethodName := ⟨RJ9, "max", "(II)I"⟩
abbrev cJ9_max_f86c9 : ByteArray := prog_13_method_66_code
def yJ9_max_f86c9 : MethodName := ⟨RJ9, "max", "(JJ)J"⟩
abbrev cJ9_min_7cf53 : ByteArray := prog_13_method_69_code
def yJ9_min_7cf53 : MethodName := ⟨RJ9, "min", "(II)I"⟩
abbrev cJ9_min_f86c9 : ByteArray := prog_13_method_70_code
def yJ9_min_f86c9 : MethodName := ⟨RJ9, "min", "(JJ)J"⟩
def RJ0 : String := "java/lang/String"
def TJ0 : u_T := fun k => match k with
  | _ => ("", "", "", false)
def tyJ0 : Nat → FieldType := fun k => match k with
  | _ => .int
abbrev wsJ00 : List Cond := u_ws RJ0 TJ0 0
theorem nmJ0 : ∀ a, a < 0 → ∀ b, b < 0 → a ≠ b → (TJ0 a).2.1 ≠ (TJ0 b).2.1 := by decide +kernel
theorem tyJ0_ok : ∀ k, k < 0 → parseFieldDescriptor (TJ0 k).2.2.1 = some (tyJ0 k) := by decide +kernel
abbrev cJ0_length_8abf5 : ByteArray := prog_14_method_54_code
def yJ0_length_8abf5 : MethodName := ⟨RJ0, "length", "()I"⟩
abbrev cJ0_charAt_5068e : ByteArray := prog_14_method_56_code
def yJ0_charAt_5068e : MethodName := ⟨RJ0, "charAt", "(I)C"⟩
abbrev cJ0_coder_7d493 : ByteArray := prog_14_method_152_code
def yJ0_coder_7d493 : MethodName := ⟨RJ0, "coder", "()B"⟩
abbrev cJ0_isLatin1_aae02 : ByteArray := prog_14_method_154_code
def yJ0_isLatin1_aae02 : MethodName := ⟨RJ0, "isLatin1", "()Z"⟩
abbrev cJ0_checkIndex_df160 : ByteArray := prog_14_method_155_code
def yJ0_checkIndex_df160 : MethodName := ⟨RJ0, "checkIndex", "(II)V"⟩
def RJ1 : String := "java/lang/StringLatin1"
def TJ1 : u_T := fun k => match k with
  | _ => ("", "", "", false)
def tyJ1 : Nat → FieldType := fun k => match k with
  | _ => .int
abbrev wsJ10 : List Cond := u_ws RJ1 TJ1 0
theorem nmJ1 : ∀ a, a < 0 → ∀ b, b < 0 → a ≠ b → (TJ1 a).2.1 ≠ (TJ1 b).2.1 := by decide +kernel
theorem tyJ1_ok : ∀ k, k < 0 → parseFieldDescriptor (TJ1 k).2.2.1 = some (tyJ1 k) := by decide +kernel
abbrev cJ1_charAt_3b067 : ByteArray := prog_15_method_2_code
def yJ1_charAt_3b067 : MethodName := ⟨RJ1, "charAt", "([BI)C"⟩
def RJ2 : String := "java/lang/StringUTF16"
def TJ2 : u_T := fun k => match k with
  | _ => ("", "", "", false)
def tyJ2 : Nat → FieldType := fun k => match k with
  | _ => .int
abbrev wsJ20 : List Cond := u_ws RJ2 TJ2 0
theorem nmJ2 : ∀ a, a < 0 → ∀ b, b < 0 → a ≠ b → (TJ2 a).2.1 ≠ (TJ2 b).2.1 := by decide +kernel
theorem tyJ2_ok : ∀ k, k < 0 → parseFieldDescriptor (TJ2 k).2.2.1 = some (tyJ2 k) := by decide +kernel
abbrev cJ2_getChar_3b067 : ByteArray := prog_16_method_5_code
def yJ2_getChar_3b067 : MethodName := ⟨RJ2, "getChar", "([BI)C"⟩
abbrev cJ2_length_9d52b : ByteArray := prog_16_method_6_code
def yJ2_length_9d52b : MethodName := ⟨RJ2, "length", "([B)I"⟩
abbrev cJ2_charAt_3b067 : ByteArray := prog_16_method_83_code
def yJ2_charAt_3b067 : MethodName := ⟨RJ2, "charAt", "([BI)C"⟩
abbrev cJ2_checkIndex_2214a : ByteArray := prog_16_method_91_code
def yJ2_checkIndex_2214a : MethodName := ⟨RJ2, "checkIndex", "(I[B)V"⟩
def RJ10 : String := "java/lang/System"
def TJ10 : u_T := fun k => match k with
  | _ => ("", "", "", false)
def tyJ10 : Nat → FieldType := fun k => match k with
  | _ => .int
abbrev wsJ100 : List Cond := u_ws RJ10 TJ10 0
theorem nmJ10 : ∀ a, a < 0 → ∀ b, b < 0 → a ≠ b → (TJ10 a).2.1 ≠ (TJ10 b).2.1 := by decide +kernel
theorem tyJ10_ok : ∀ k, k < 0 → parseFieldDescriptor (TJ10 k).2.2.1 = some (tyJ10 k) := by decide +kernel
def RJ7 : String := "java/util/Arrays"
def TJ7 : u_T := fun k => match k with
  | _ => ("", "", "", false)
def tyJ7 : Nat → FieldType := fun k => match k with
  | _ => .int
abbrev wsJ70 : List Cond := u_ws RJ7 TJ7 0
theorem nmJ7 : ∀ a, a < 0 → ∀ b, b < 0 → a ≠ b → (TJ7 a).2.1 ≠ (TJ7 b).2.1 := by decide +kernel
theorem tyJ7_ok : ∀ k, k < 0 → parseFieldDescriptor (TJ7 k).2.2.1 = some (tyJ7 k) := by decide +kernel
abbrev cJ7_fill_d0a16 : ByteArray := prog_18_method_101_code
def yJ7_fill_d0a16 : MethodName := ⟨RJ7, "fill", "([JJ)V"⟩
abbrev cJ7_fill_53178 : ByteArray := prog_18_method_103_code
def yJ7_fill_53178 : MethodName := ⟨RJ7, "fill", "([II)V"⟩
def RJ3 : String := "jdk/internal/util/Preconditions"
def TJ3 : u_T := fun k => match k with
  | _ => ("", "", "", false)
def tyJ3 : Nat → FieldType := fun k => match k with
  | _ => .int
abbrev wsJ30 : List Cond := u_ws RJ3 TJ3 0
theorem nmJ3 : ∀ a, a < 0 → ∀ b, b < 0 → a ≠ b → (TJ3 a).2.1 ≠ (TJ3 b).2.1 := by decide +kernel
theorem tyJ3_ok : ∀ k, k < 0 → parseFieldDescriptor (TJ3 k).2.2.1 = some (tyJ3 k) := by decide +kernel
abbrev cJ3_checkIndex_8e157 : ByteArray := prog_19_method_11_code
def yJ3_checkIndex_8e157 : MethodName := ⟨RJ3, "checkIndex", "(IILjava/util/function/BiFunction;)I"⟩
def RL : String := "MillFarmersLaw"
abbrev cL_law : ByteArray := code
def yL_law : MethodName := ⟨RL, "law", "([I)Z"⟩
abbrev vwCl : List vw_C := [(RX0, TX0, 6), (RX1, TX1, 11), (RX2, TX2, 5), (RX3, TX3, 4), (RX4, TX4, 4), (RX5, TX5, 5), (RX6, TX6, 8), (RX7, TX7, 2), (RX8, TX8, 5), (RX9, TX9, 12), (RX10, TX10, 53)]
end
section
/-! THE LAYER: a method's world is the whole list of cells, by places; a judgement Ev over (pc, locals, stack, cells), a contract Ct -/
def isNest : Cond → Bool
  | .fieldLinkNest .. => true
  | .methodLinkNest .. => true
  | _ => false
def Ts : List Cond := lw_tbl.filter goodWord
def Tn : List Cond := lw_tbl.filter isNest
theorem ts_in {w : Cond} (h : w ∈ lw_tbl) (hg : goodWord w = true) : w ∈ Ts := List.mem_filter.mpr ⟨h, hg⟩
theorem tn_in {w : Cond} (h : w ∈ lw_tbl) (hg : isNest w = true) : w ∈ Tn := List.mem_filter.mpr ⟨h, hg⟩
theorem ts_good {w : Cond} (h : w ∈ Ts) : goodWord w = true := (List.mem_filter.mp h).2
def Nst (U : State) : Prop := ∀ w ∈ Tn, va_Nw w U
theorem Nst.warm {s U : State} (hW : s.WarmedH U.vm) (h : Nst s) : Nst U := by
  intro w hw
  have h1 := h w hw
  have h2 := (List.mem_filter.mp hw).2
  cases w <;> first | exact va_Nw.warmF hW h1 | exact va_Nw.warmM hW h1 | (simp [isNest] at h2)
theorem Nst.same {u U : State} (hv : u.vm = U.vm) (h : Nst u) : Nst U := by
  intro w hw
  have h1 := h w hw
  have h2 := (List.mem_filter.mp hw).2
  cases w <;> first | exact va_Nw.same rfl hv h1 | (simp [isNest] at h2)
/-- a method: its name, its code, its locals, what it returns, its room -/
abbrev MD : Type := MethodName × ByteArray × Nat × Option FieldType × Room
/-- a start: the launch, the classes' numbers and slots, the cells' addresses, the array classes -/
abbrev GG : Type := Launch × va_G × (Nat → Nat) × (Nat → ClassId)
def cv (ad : Nat → Nat) (v : Value) : Value := match v with
  | .ref k => .ref (ad k)
  | w => w
theorem cv_cat (ad : Nat → Nat) (v : Value) : (cv ad v).category = v.category := by cases v <;> rfl
def cz (g : GG) (e : va_E) : va_E := match e with
  | .inl a => .inl (g.2.2.2 a.1, a.2)
  | .inr o => .inr (o.1, o.2.map (cv g.2.2.1))
def wd (g : GG) (hp : List va_E) : va_W := hp.mapIdx (fun k e => (g.2.2.1 k, cz g e))
theorem wd_at {g : GG} {hp : List va_E} {k : Nat} {e : va_E} (h : hp[k]? = some e) : (wd g hp)[k]? = some (g.2.2.1 k, cz g e) := by
  simp [wd, List.getElem?_mapIdx, h]
theorem wd_set {g : GG} {hp : List va_E} {k : Nat} {e : va_E} : (wd g hp).set k (g.2.2.1 k, cz g e) = wd g (hp.set k e) := by
  apply List.ext_getElem?
  intro i
  simp only [wd, List.getElem?_set, List.getElem?_mapIdx, List.length_mapIdx]
  by_cases hi : k = i
  · subst hi
    by_cases hl : k < hp.length
    · simp [hl]
    · simp [hl]
  · simp [hi]
abbrev tysG (g : GG) : List (ClassId × FieldType) := [(g.2.2.2 0, .int), (g.2.2.2 1, .long)]
def nJS : Nat := 7
def lenJS : List Nat := [5, 5, 4, 4, 5, 3, 2]
def bytJS : List (List Int32) := [[112, 114, 105, 99, 101], [113, 117, 111, 116, 97], [111, 118, 101, 114], [100, 101, 98, 116], [115, 116, 97, 110, 100], [100, 117, 101], [111, 102]]
def txJS : List String := ["price", "quota", "over", "debt", "stand", "due", "of"]
def ixJS (i : Nat) : Nat := [47, 56, 61, 67, 69, 71, 86].getD i 0
/-- what stands outside the world: the literals, one static -/
def Sx (g : GG) (A : Nat → Prop) (U : State) (H : Heap) : Prop :=
  vk_S 7 lenJS bytJS (fun i => g.2.2.1 (100 + i)) (fun i => g.2.2.1 (200 + i)) A U H ∧ (∀ i, i < 7 → vk_R RX2 (ixJS i) (txJS.getD i "") (g.2.2.1 (100 + i)) U) ∧ va_Z "java/lang/String" "COMPACT_STRINGS" "Z" (.int 1) A U H
end
section
/-- what a running method knows -/
def Act (g : GG) (M : MD) (A : Nat → Prop) (p : Program) (s : State) (m : MethodId) (args : Array Value) (meth : Method) (c : Code) : Prop :=
  p.tables.exec = Jvm.exec ∧ c.code = M.2.1 ∧ c.maxLocals = M.2.2.1 ∧ s.vm.findClass M.1.cls = some m.cls ∧ (∀ w ∈ Ts, w.before args s = true) ∧ meth.sig.returnType = M.2.2.2.1 ∧ meth.locks = false ∧ va_K g.2.1 vwCl (tysG g) s ∧ Nst s ∧ Sx g A s s.heap ∧ ∀ q, s.heap.size ≤ q → A q
def Qg (g : GG) (A : Nat → Prop) (Post : Option Value → List va_E → Prop) : Array Value → State → Outcome → State → Prop := fun _ st oc t => (∃ (v : Option Value) (hp : List va_E), oc = .returned (v.map (cv g.2.2.1)) ∧ Post v hp ∧ va_P g.2.1 vwCl (wd g hp) t.heap ∧ va_K g.2.1 vwCl (tysG g) t ∧ va_D A (wd g hp)) ∧ va_F A st t
def lvc (g : GG) (lv : List (Nat × Value)) : List (Nat × Value) := lv.map (fun q => (q.1, cv g.2.2.1 q.2))
/-- from here the method comes to its end, with Post -/
def Ev (g : GG) (M : MD) (pc : Nat) (lv : List (Nat × Value)) (st : List Value) (hp : List va_E) (Post : Option Value → List va_E → Prop) : Prop :=
  ∀ (p : Program) (e : Env) (s : State) (m : MethodId) (args : Array Value) (below : List Frame) (meth : Method) (c : Code) (A : Nat → Prop) (H : Heap) (locs : List Loc) (ls : Array Slot), Act g M A p s m args meth c → va_P g.2.1 vwCl (wd g hp) H → va_D A (wd g hp) → va_S A s.heap H locs → lv_has ls M.2.2.1 (lvc g lv) →
    W p g.1 e M.2.2.2.2 s m args below meth c H locs 0 0 (MQ below (Qg g A Post) args s 0 0 A) (F0 m pc ls (st.map (cv g.2.2.1)))
def wsM (M : MD) : List Cond := Cond.code M.1 M.2.1 M.2.2.1 M.2.2.2.1 :: Ts
/-- a method's contract -/
def Ct (g : GG) (M : MD) (as : List Value) (hp : List va_E) (Post : Option Value → List va_E → Prop) : Prop :=
  ∀ sz : Nat, Met g.1 M.1 (wsM M) M.2.2.2.2 (va_Pc (as.map (cv g.2.2.1)) (fun U => U.heap.size = sz ∧ va_P g.2.1 vwCl (wd g hp) U.heap ∧ va_K g.2.1 vwCl (tysG g) U ∧ va_D (fun _ => True) (wd g hp) ∧ Nst U ∧ Sx g (va_A (wd g hp) sz) U U.heap)) (Qg g (va_A (wd g hp) sz) Post) 0 0 (va_A (wd g hp) sz)
def lvGet (lv : List (Nat × Value)) (i : Nat) : Option Value := (lv.find? (fun q => q.1 == i)).map (fun q => q.2)
def lvIns : List (Nat × Value) → Nat → Value → List (Nat × Value)
  | [], i, v => [(i, v)]
  | (j, w) :: t, i, v => if Nat.blt j i then (j, w) :: lvIns t i v else if Nat.beq j i then (i, v) :: t else (i, v) :: (j, w) :: t
def lvSt (lv : List (Nat × Value)) (i : Nat) (v : Value) : List (Nat × Value) := lvIns (lv.filter (fun q => !(q.1 == i) && (!(q.1 == i + 1) && !(q.1 + 1 == i && q.2.category == 2)))) i v
def lvSt1 (lv : List (Nat × Value)) (i : Nat) (v : Value) : List (Nat × Value) := lvIns (lv.filter (fun q => !(q.1 == i) && !(q.1 + 1 == i && q.2.category == 2))) i v
theorem lvIns_mem : ∀ (l : List (Nat × Value)) (i : Nat) (v : Value) (q : Nat × Value), q ∈ lvIns l i v → q = (i, v) ∨ q ∈ l
  | [], i, v, q, h => by simp [lvIns] at h; exact Or.inl h
  | (j, w) :: t, i, v, q, h => by
    unfold lvIns at h
    split at h
    · rcases List.mem_cons.mp h with h | h
      · exact Or.inr (by rw [h]; exact List.mem_cons_self)
      · rcases lvIns_mem t i v q h with h | h
        · exact Or.inl h
        · exact Or.inr (List.mem_cons_of_mem _ h)
    · split at h
      · rcases List.mem_cons.mp h with h | h
        · exact Or.inl h
        · exact Or.inr (List.mem_cons_of_mem _ h)
      · rcases List.mem_cons.mp h with h | h
        · exact Or.inl h
        · exact Or.inr h
theorem lv_memG {ls : Array Slot} {n : Nat} {l l' : List (Nat × Value)} (h : lv_has ls n l) (hs : ∀ q ∈ l', q ∈ l) : lv_has ls n l' := ⟨h.1, h.2.1, fun q hq => h.2.2 q (hs q hq)⟩
theorem lvGet_has {g : GG} {ls : Array Slot} {n : Nat} {lv : List (Nat × Value)} {i : Nat} {v : Value} (h : lv_has ls n (lvc g lv)) (hg : lvGet lv i = some v) : ls[i]? = some (.val (cv g.2.2.1 v)) := by
  unfold lvGet at hg
  cases hf : lv.find? (fun q => q.1 == i) with
  | none => rw [hf] at hg; cases hg
  | some q =>
    rw [hf] at hg
    have h1 := List.mem_of_find?_eq_some hf
    have h2 := List.find?_some hf
    have h3 : q.2 = v := Option.some.inj hg
    have h4 : q.1 = i := by simpa using h2
    have h5 := h.2.2 (q.1, cv g.2.2.1 q.2) (List.mem_map.mpr ⟨q, h1, rfl⟩)
    rw [h3, h4] at h5
    exact h5
theorem lvc_st1 {g : GG} {lv : List (Nat × Value)} {i : Nat} {v : Value} : ∀ q ∈ lvc g (lvSt1 lv i v), q ∈ (i, cv g.2.2.1 v) :: (lvc g lv).filter (fun q => !(q.1 == i) && !(q.1 + 1 == i && q.2.category == 2)) := by
  intro q hq
  obtain ⟨r, hr, rfl⟩ := List.mem_map.mp hq
  rcases lvIns_mem _ _ _ _ hr with h | h
  · rw [h]; exact List.mem_cons_self
  · obtain ⟨h1, h2⟩ := List.mem_filter.mp h
    refine List.mem_cons_of_mem _ (List.mem_filter.mpr ⟨List.mem_map.mpr ⟨r, h1, rfl⟩, ?_⟩)
    rw [cv_cat]
    exact h2
theorem lvc_st2 {g : GG} {lv : List (Nat × Value)} {i : Nat} {v : Value} : ∀ q ∈ lvc g (lvSt lv i v), q ∈ (i, cv g.2.2.1 v) :: (lvc g lv).filter (fun q => !(q.1 == i) && (!(q.1 == i + 1) && !(q.1 + 1 == i && q.2.category == 2))) := by
  intro q hq
  obtain ⟨r, hr, rfl⟩ := List.mem_map.mp hq
  rcases lvIns_mem _ _ _ _ hr with h | h
  · rw [h]; exact List.mem_cons_self
  · obtain ⟨h1, h2⟩ := List.mem_filter.mp h
    refine List.mem_cons_of_mem _ (List.mem_filter.mpr ⟨List.mem_map.mpr ⟨r, h1, rfl⟩, ?_⟩)
    rw [cv_cat]
    exact h2
section EVR
variable {g : GG} {M : MD} {pc : Nat} {lv : List (Nat × Value)} {st : List Value} {hp : List va_E} {Post : Option Value → List va_E → Prop}
theorem ev_post {Post' : Option Value → List va_E → Prop} (h : ∀ v q, Post' v q → Post v q) (k : Ev g M pc lv st hp Post') : Ev g M pc lv st hp Post := by
  intro p e s m args below meth c A H locs ls hA hP hD hS hl T hT X
  obtain ⟨t, a, o, b1, b2, ⟨⟨v, q, c1, c2, c3⟩, c4⟩, b4⟩ := k p e s m args below meth c A H locs ls hA hP hD hS hl T hT X
  exact ⟨t, a, o, b1, b2, ⟨⟨v, q, c1, h v q c2, c3⟩, c4⟩, b4⟩
theorem ev_lv {lv' : List (Nat × Value)} (h : ∀ q ∈ lv', q ∈ lv) (k : Ev g M pc lv' st hp Post) : Ev g M pc lv st hp Post := by
  intro p e s m args below meth c A H locs ls hA hP hD hS hl
  exact k p e s m args below meth c A H locs ls hA hP hD hS (lv_memG hl (fun q hq => by obtain ⟨r, hr, rfl⟩ := List.mem_map.mp hq; exact List.mem_map.mpr ⟨r, h r hr, rfl⟩))

theorem ev_iadd {x y : Int32} (d : decode M.2.1 pc = .ok (.iadd, 1)) (k : Ev g M (pc + 1) lv (.int (x + y) :: st) hp Post) : Ev g M pc lv (.int y :: .int x :: st) hp Post := by
  intro p e s m args below meth c A H locs ls hA hP hD hS hl
  exact lv_iadd hA.1 hA.2.1 d (k p e s m args below meth c A H locs ls hA hP hD hS hl)
theorem ev_isub {x y : Int32} (d : decode M.2.1 pc = .ok (.isub, 1)) (k : Ev g M (pc + 1) lv (.int (x - y) :: st) hp Post) : Ev g M pc lv (.int y :: .int x :: st) hp Post := by
  intro p e s m args below meth c A H locs ls hA hP hD hS hl
  exact lv_isub hA.1 hA.2.1 d (k p e s m args below meth c A H locs ls hA hP hD hS hl)
theorem ev_imul {x y : Int32} (d : decode M.2.1 pc = .ok (.imul, 1)) (k : Ev g M (pc + 1) lv (.int (x * y) :: st) hp Post) : Ev g M pc lv (.int y :: .int x :: st) hp Post := by
  intro p e s m args below meth c A H locs ls hA hP hD hS hl
  exact lv_imul hA.1 hA.2.1 d (k p e s m args below meth c A H locs ls hA hP hD hS hl)
theorem ev_iand {x y : Int32} (d : decode M.2.1 pc = .ok (.iand, 1)) (k : Ev g M (pc + 1) lv (.int (x &&& y) :: st) hp Post) : Ev g M pc lv (.int y :: .int x :: st) hp Post := by
  intro p e s m args below meth c A H locs ls hA hP hD hS hl
  exact lv_iand hA.1 hA.2.1 d (k p e s m args below meth c A H locs ls hA hP hD hS hl)
theorem ev_ior {x y : Int32} (d : decode M.2.1 pc = .ok (.ior, 1)) (k : Ev g M (pc + 1) lv (.int (x ||| y) :: st) hp Post) : Ev g M pc lv (.int y :: .int x :: st) hp Post := by
  intro p e s m args below meth c A H locs ls hA hP hD hS hl
  exact lv_ior hA.1 hA.2.1 d (k p e s m args below meth c A H locs ls hA hP hD hS hl)
theorem ev_ishl {x y : Int32} (d : decode M.2.1 pc = .ok (.ishl, 1)) (k : Ev g M (pc + 1) lv (.int (x <<< (y &&& 31)) :: st) hp Post) : Ev g M pc lv (.int y :: .int x :: st) hp Post := by
  intro p e s m args below meth c A H locs ls hA hP hD hS hl
  exact lv_ishl hA.1 hA.2.1 d (k p e s m args below meth c A H locs ls hA hP hD hS hl)
theorem ev_ishr {x y : Int32} (d : decode M.2.1 pc = .ok (.ishr, 1)) (k : Ev g M (pc + 1) lv (.int (x >>> (y &&& 31)) :: st) hp Post) : Ev g M pc lv (.int y :: .int x :: st) hp Post := by
  intro p e s m args below meth c A H locs ls hA hP hD hS hl
  exact lv_ishr hA.1 hA.2.1 d (k p e s m args below meth c A H locs ls hA hP hD hS hl)
theorem ev_ladd {x y : Int64} (d : decode M.2.1 pc = .ok (.ladd, 1)) (k : Ev g M (pc + 1) lv (.long (x + y) :: st) hp Post) : Ev g M pc lv (.long y :: .long x :: st) hp Post := by
  intro p e s m args below meth c A H locs ls hA hP hD hS hl
  exact lv_ladd hA.1 hA.2.1 d (k p e s m args below meth c A H locs ls hA hP hD hS hl)
theorem ev_lsub {x y : Int64} (d : decode M.2.1 pc = .ok (.lsub, 1)) (k : Ev g M (pc + 1) lv (.long (x - y) :: st) hp Post) : Ev g M pc lv (.long y :: .long x :: st) hp Post := by
  intro p e s m args below meth c A H locs ls hA hP hD hS hl
  exact lv_lsub hA.1 hA.2.1 d (k p e s m args below meth c A H locs ls hA hP hD hS hl)
theorem ev_lmul {x y : Int64} (d : decode M.2.1 pc = .ok (.lmul, 1)) (k : Ev g M (pc + 1) lv (.long (x * y) :: st) hp Post) : Ev g M pc lv (.long y :: .long x :: st) hp Post := by
  intro p e s m args below meth c A H locs ls hA hP hD hS hl
  exact lv_lmul hA.1 hA.2.1 d (k p e s m args below meth c A H locs ls hA hP hD hS hl)
theorem ev_ldiv {x y : Int64} (d : decode M.2.1 pc = .ok (.ldiv, 1)) (h : ¬ y = 0) (k : Ev g M (pc + 1) lv (.long (x / y) :: st) hp Post) : Ev g M pc lv (.long y :: .long x :: st) hp Post := by
  intro p e s m args below meth c A H locs ls hA hP hD hS hl
  exact lv_ldiv hA.1 hA.2.1 d h (k p e s m args below meth c A H locs ls hA hP hD hS hl)
theorem ev_ineg {x : Int32} (d : decode M.2.1 pc = .ok (.ineg, 1)) (k : Ev g M (pc + 1) lv (.int (-x) :: st) hp Post) : Ev g M pc lv (.int x :: st) hp Post := by
  intro p e s m args below meth c A H locs ls hA hP hD hS hl
  exact lv_ineg hA.1 hA.2.1 d (k p e s m args below meth c A H locs ls hA hP hD hS hl)
theorem ev_i2l {x : Int32} (d : decode M.2.1 pc = .ok (.i2l, 1)) (k : Ev g M (pc + 1) lv (.long x.toInt64 :: st) hp Post) : Ev g M pc lv (.int x :: st) hp Post := by
  intro p e s m args below meth c A H locs ls hA hP hD hS hl
  exact lv_i2l hA.1 hA.2.1 d rfl (k p e s m args below meth c A H locs ls hA hP hD hS hl)
theorem ev_l2i {x : Int64} (d : decode M.2.1 pc = .ok (.l2i, 1)) (k : Ev g M (pc + 1) lv (.int x.toInt32 :: st) hp Post) : Ev g M pc lv (.long x :: st) hp Post := by
  intro p e s m args below meth c A H locs ls hA hP hD hS hl
  exact lv_l2i hA.1 hA.2.1 d rfl (k p e s m args below meth c A H locs ls hA hP hD hS hl)
theorem ev_i2c {x : Int32} (d : decode M.2.1 pc = .ok (.i2c, 1)) (k : Ev g M (pc + 1) lv (.int (x.toUInt32 % 65536).toInt32 :: st) hp Post) : Ev g M pc lv (.int x :: st) hp Post := by
  intro p e s m args below meth c A H locs ls hA hP hD hS hl
  exact lv_i2c hA.1 hA.2.1 d rfl (k p e s m args below meth c A H locs ls hA hP hD hS hl)
theorem ev_iushr {x y : Int32} (d : decode M.2.1 pc = .ok (.iushr, 1)) (k : Ev g M (pc + 1) lv (.int (x.toUInt32 >>> (y.toUInt32 &&& Int32.toUInt32 31)).toInt32 :: st) hp Post) : Ev g M pc lv (.int y :: .int x :: st) hp Post := by
  intro p e s m args below meth c A H locs ls hA hP hD hS hl
  exact lv_iushr hA.1 hA.2.1 d rfl (k p e s m args below meth c A H locs ls hA hP hD hS hl)
theorem ev_lshr {x : Int64} {y : Int32} (d : decode M.2.1 pc = .ok (.lshr, 1)) (k : Ev g M (pc + 1) lv (.long (x >>> (y.toInt64 &&& 63)) :: st) hp Post) : Ev g M pc lv (.int y :: .long x :: st) hp Post := by
  intro p e s m args below meth c A H locs ls hA hP hD hS hl
  exact lv_lshr hA.1 hA.2.1 d rfl (k p e s m args below meth c A H locs ls hA hP hD hS hl)
theorem ev_lcmp {x y : Int64} (d : decode M.2.1 pc = .ok (.lcmp, 1)) (k : Ev g M (pc + 1) lv (.int (lg_cmp x y) :: st) hp Post) : Ev g M pc lv (.long y :: .long x :: st) hp Post := by
  intro p e s m args below meth c A H locs ls hA hP hD hS hl
  exact W.lcmp hA.1 hA.2.1 d (k p e s m args below meth c A H locs ls hA hP hD hS hl)
theorem ev_iconst {n : Int} {v : Int32} (d : decode M.2.1 pc = .ok (.iconst n, 1)) (h : Int32.ofInt n = v) (k : Ev g M (pc + 1) lv (.int v :: st) hp Post) : Ev g M pc lv (st) hp Post := by
  intro p e s m args below meth c A H locs ls hA hP hD hS hl
  exact lv_iconst hA.1 hA.2.1 d h (k p e s m args below meth c A H locs ls hA hP hD hS hl)
theorem ev_bipush {n : Int} {v : Int32} (d : decode M.2.1 pc = .ok (.bipush n, 2)) (h : (Int8.ofInt n).toInt32 = v) (k : Ev g M (pc + 2) lv (.int v :: st) hp Post) : Ev g M pc lv (st) hp Post := by
  intro p e s m args below meth c A H locs ls hA hP hD hS hl
  exact lv_bipush hA.1 hA.2.1 d h (k p e s m args below meth c A H locs ls hA hP hD hS hl)
theorem ev_sipush {n : Int} {v : Int32} (d : decode M.2.1 pc = .ok (.sipush n, 3)) (h : (Int16.ofInt n).toInt32 = v) (k : Ev g M (pc + 3) lv (.int v :: st) hp Post) : Ev g M pc lv (st) hp Post := by
  intro p e s m args below meth c A H locs ls hA hP hD hS hl
  exact lv_sipush hA.1 hA.2.1 d h (k p e s m args below meth c A H locs ls hA hP hD hS hl)
theorem ev_lconst {n : Fin 2} {v : Int64} (d : decode M.2.1 pc = .ok (.lconst n, 1)) (h : Int64.ofNat (n : Nat) = v) (k : Ev g M (pc + 1) lv (.long v :: st) hp Post) : Ev g M pc lv (st) hp Post := by
  intro p e s m args below meth c A H locs ls hA hP hD hS hl
  exact lv_lconst hA.1 hA.2.1 d h (k p e s m args below meth c A H locs ls hA hP hD hS hl)
theorem ev_ldc {i : Nat} {v : Int32} (d : decode M.2.1 pc = .ok (.ldc i, 2)) (h : Cond.constant M.1.cls i v ∈ Ts) (k : Ev g M (pc + 2) lv (.int v :: st) hp Post) : Ev g M pc lv st hp Post := by
  intro p e s m args below meth c A H locs ls hA hP hD hS hl
  exact lv_ldc hA.1 hA.2.1 hA.2.2.2.1 (hA.2.2.2.2.1 _ h) d (k p e s m args below meth c A H locs ls hA hP hD hS hl)
theorem ev_ldcw {i : Nat} {v : Int32} (d : decode M.2.1 pc = .ok (.ldc_w i, 3)) (h : Cond.constant M.1.cls i v ∈ Ts) (k : Ev g M (pc + 3) lv (.int v :: st) hp Post) : Ev g M pc lv st hp Post := by
  intro p e s m args below meth c A H locs ls hA hP hD hS hl
  exact lv_ldcw hA.1 hA.2.1 hA.2.2.2.1 (hA.2.2.2.2.1 _ h) d (k p e s m args below meth c A H locs ls hA hP hD hS hl)
theorem ev_ldc2 {i : Nat} {v : Int64} (d : decode M.2.1 pc = .ok (.ldc2_w i, 3)) (h : Cond.constantLong M.1.cls i v ∈ Ts) (k : Ev g M (pc + 3) lv (.long v :: st) hp Post) : Ev g M pc lv st hp Post := by
  intro p e s m args below meth c A H locs ls hA hP hD hS hl
  exact lv_ldc2 hA.1 hA.2.1 hA.2.2.2.1 (hA.2.2.2.2.1 _ h) d (k p e s m args below meth c A H locs ls hA hP hD hS hl)
theorem ev_iload_n {k : Fin 4} {x : Int32} (d : decode M.2.1 pc = .ok (.iload_n k, 1)) (h : lvGet lv k.1 = some (.int x)) (kk : Ev g M (pc + 1) lv (.int x :: st) hp Post) : Ev g M pc lv st hp Post := by
  intro p e s m args below meth c A H locs ls hA hP hD hS hl
  exact lv_iload_n hA.1 hA.2.1 d rfl (lvGet_has hl h) (kk p e s m args below meth c A H locs ls hA hP hD hS hl)
theorem ev_iload {i : Nat} {x : Int32} (d : decode M.2.1 pc = .ok (.iload i, 2)) (h : lvGet lv i = some (.int x)) (kk : Ev g M (pc + 2) lv (.int x :: st) hp Post) : Ev g M pc lv st hp Post := by
  intro p e s m args below meth c A H locs ls hA hP hD hS hl
  exact lv_iload hA.1 hA.2.1 d (lvGet_has hl h) (kk p e s m args below meth c A H locs ls hA hP hD hS hl)
theorem ev_istore_n {k : Fin 4} {x : Int32} {lv' : List (Nat × Value)} (d : decode M.2.1 pc = .ok (.istore_n k, 1)) (hn : k.1 < M.2.2.1) (h : lvSt1 lv k.1 (.int x) = lv') (kk : Ev g M (pc + 1) lv' st hp Post) : Ev g M pc lv (.int x :: st) hp Post := by
  intro p e s m args below meth c A H locs ls hA hP hD hS hl
  subst h
  exact lv_istore_n hA.1 hA.2.1 d rfl hl hn rfl (fun ls' hl' => kk p e s m args below meth c A H locs ls' hA hP hD hS (lv_memG hl' lvc_st1))
theorem ev_istore {i : Nat} {x : Int32} {lv' : List (Nat × Value)} (d : decode M.2.1 pc = .ok (.istore i, 2)) (hn : i < M.2.2.1) (h : lvSt1 lv i (.int x) = lv') (kk : Ev g M (pc + 2) lv' st hp Post) : Ev g M pc lv (.int x :: st) hp Post := by
  intro p e s m args below meth c A H locs ls hA hP hD hS hl
  subst h
  exact lv_istore hA.1 hA.2.1 d hl hn rfl (fun ls' hl' => kk p e s m args below meth c A H locs ls' hA hP hD hS (lv_memG hl' lvc_st1))
theorem ev_lload_n {k : Fin 4} {x : Int64} (d : decode M.2.1 pc = .ok (.lload_n k, 1)) (h : lvGet lv k.1 = some (.long x)) (kk : Ev g M (pc + 1) lv (.long x :: st) hp Post) : Ev g M pc lv st hp Post := by
  intro p e s m args below meth c A H locs ls hA hP hD hS hl
  exact lv_lload_n hA.1 hA.2.1 d rfl (lvGet_has hl h) (kk p e s m args below meth c A H locs ls hA hP hD hS hl)
theorem ev_lload {i : Nat} {x : Int64} (d : decode M.2.1 pc = .ok (.lload i, 2)) (h : lvGet lv i = some (.long x)) (kk : Ev g M (pc + 2) lv (.long x :: st) hp Post) : Ev g M pc lv st hp Post := by
  intro p e s m args below meth c A H locs ls hA hP hD hS hl
  exact lv_lload hA.1 hA.2.1 d (lvGet_has hl h) (kk p e s m args below meth c A H locs ls hA hP hD hS hl)
theorem ev_lstore_n {k : Fin 4} {x : Int64} {lv' : List (Nat × Value)} (d : decode M.2.1 pc = .ok (.lstore_n k, 1)) (hn : k.1 + 1 < M.2.2.1) (h : lvSt lv k.1 (.long x) = lv') (kk : Ev g M (pc + 1) lv' st hp Post) : Ev g M pc lv (.long x :: st) hp Post := by
  intro p e s m args below meth c A H locs ls hA hP hD hS hl
  subst h
  exact lv_lstore_n hA.1 hA.2.1 d rfl hl hn rfl (fun ls' hl' => kk p e s m args below meth c A H locs ls' hA hP hD hS (lv_memG hl' lvc_st2))
theorem ev_lstore {i : Nat} {x : Int64} {lv' : List (Nat × Value)} (d : decode M.2.1 pc = .ok (.lstore i, 2)) (hn : i + 1 < M.2.2.1) (h : lvSt lv i (.long x) = lv') (kk : Ev g M (pc + 2) lv' st hp Post) : Ev g M pc lv (.long x :: st) hp Post := by
  intro p e s m args below meth c A H locs ls hA hP hD hS hl
  subst h
  exact lv_lstore hA.1 hA.2.1 d hl hn rfl (fun ls' hl' => kk p e s m args below meth c A H locs ls' hA hP hD hS (lv_memG hl' lvc_st2))
theorem ev_aload_n {k : Fin 4} {x : Nat} (d : decode M.2.1 pc = .ok (.aload_n k, 1)) (h : lvGet lv k.1 = some (.ref x)) (kk : Ev g M (pc + 1) lv (.ref x :: st) hp Post) : Ev g M pc lv st hp Post := by
  intro p e s m args below meth c A H locs ls hA hP hD hS hl
  exact lv_aload_n hA.1 hA.2.1 d rfl (lvGet_has hl h) (kk p e s m args below meth c A H locs ls hA hP hD hS hl)
theorem ev_aload {i : Nat} {x : Nat} (d : decode M.2.1 pc = .ok (.aload i, 2)) (h : lvGet lv i = some (.ref x)) (kk : Ev g M (pc + 2) lv (.ref x :: st) hp Post) : Ev g M pc lv st hp Post := by
  intro p e s m args below meth c A H locs ls hA hP hD hS hl
  exact lv_aload hA.1 hA.2.1 d (lvGet_has hl h) (kk p e s m args below meth c A H locs ls hA hP hD hS hl)
theorem ev_astore_n {k : Fin 4} {x : Nat} {lv' : List (Nat × Value)} (d : decode M.2.1 pc = .ok (.astore_n k, 1)) (hn : k.1 < M.2.2.1) (h : lvSt1 lv k.1 (.ref x) = lv') (kk : Ev g M (pc + 1) lv' st hp Post) : Ev g M pc lv (.ref x :: st) hp Post := by
  intro p e s m args below meth c A H locs ls hA hP hD hS hl
  subst h
  exact lv_astore_n hA.1 hA.2.1 d rfl hl hn rfl (fun ls' hl' => kk p e s m args below meth c A H locs ls' hA hP hD hS (lv_memG hl' lvc_st1))
theorem ev_astore {i : Nat} {x : Nat} {lv' : List (Nat × Value)} (d : decode M.2.1 pc = .ok (.astore i, 2)) (hn : i < M.2.2.1) (h : lvSt1 lv i (.ref x) = lv') (kk : Ev g M (pc + 2) lv' st hp Post) : Ev g M pc lv (.ref x :: st) hp Post := by
  intro p e s m args below meth c A H locs ls hA hP hD hS hl
  subst h
  exact lv_astore hA.1 hA.2.1 d hl hn rfl (fun ls' hl' => kk p e s m args below meth c A H locs ls' hA hP hD hS (lv_memG hl' lvc_st1))
theorem lvc_get {lv : List (Nat × Value)} {i : Nat} {v : Value} (hg : lvGet lv i = some v) : ∃ k : Nat, (lvc g lv)[k]? = some (i, cv g.2.2.1 v) := by
  unfold lvGet at hg
  cases hf : lv.find? (fun q => q.1 == i) with
  | none => rw [hf] at hg; cases hg
  | some q =>
    rw [hf] at hg
    have h1 := List.mem_of_find?_eq_some hf
    have h2 := List.find?_some hf
    have h3 : q.2 = v := Option.some.inj hg
    have h4 : q.1 = i := by simpa using h2
    have h5 : (i, cv g.2.2.1 v) ∈ lvc g lv := List.mem_map.mpr ⟨q, h1, by rw [h3, h4]⟩
    exact List.getElem?_of_mem h5
theorem ev_iinc {i : Nat} {n : Int} {x : Int32} {lv' : List (Nat × Value)} (d : decode M.2.1 pc = .ok (.iinc i n, 3)) (hx : lvGet lv i = some (.int x)) (hn : i < M.2.2.1) (h : lvSt1 lv i (.int (x + Int32.ofInt n)) = lv') (kk : Ev g M (pc + 3) lv' st hp Post) : Ev g M pc lv st hp Post := by
  intro p e s m args below meth c A H locs ls hA hP hD hS hl
  subst h
  obtain ⟨k, hk⟩ := lvc_get (g := g) hx
  exact lv_iinc hA.1 hA.2.1 d hl hk rfl hn rfl (fun ls' hl' => kk p e s m args below meth c A H locs ls' hA hP hD hS (lv_memG hl' lvc_st1))
theorem ev_dup {v : Value} (d : decode M.2.1 pc = .ok (.dup, 1)) (h : v.category = 1) (k : Ev g M (pc + 1) lv (v :: v :: st) hp Post) : Ev g M pc lv (v :: st) hp Post := by
  intro p e s m args below meth c A H locs ls hA hP hD hS hl
  exact lv_dup hA.1 hA.2.1 d ((cv_cat _ _).trans h) (k p e s m args below meth c A H locs ls hA hP hD hS hl)
theorem ev_pop {v : Value} (d : decode M.2.1 pc = .ok (.pop, 1)) (h : v.category = 1) (k : Ev g M (pc + 1) lv st hp Post) : Ev g M pc lv (v :: st) hp Post := by
  intro p e s m args below meth c A H locs ls hA hP hD hS hl
  exact lv_pop hA.1 hA.2.1 d ((cv_cat _ _).trans h) (k p e s m args below meth c A H locs ls hA hP hD hS hl)
theorem ev_dup2 {v u : Value} (d : decode M.2.1 pc = .ok (.dup2, 1)) (h : v.category = 1) (h2 : u.category = 1) (k : Ev g M (pc + 1) lv (v :: u :: v :: u :: st) hp Post) : Ev g M pc lv (v :: u :: st) hp Post := by
  intro p e s m args below meth c A H locs ls hA hP hD hS hl
  exact lv_dup2_11 hA.1 hA.2.1 d ((cv_cat _ _).trans h) ((cv_cat _ _).trans h2) (k p e s m args below meth c A H locs ls hA hP hD hS hl)
theorem ev_if_eq {x : Int32} {off : Int} {tgt : Nat} (d : decode M.2.1 pc = .ok (.ifCond .eq off, 3)) (ht : (pc : Int) + off = (tgt : Int)) (kt : x = 0 → Ev g M tgt lv st hp Post) (kf : ¬ (x = 0) → Ev g M (pc + 3) lv st hp Post) : Ev g M pc lv (.int x :: st) hp Post := by
  intro p e s m args below meth c A H locs ls hA hP hD hS hl
  exact lv_if_eq hA.1 hA.2.1 d ht (fun q => kt q p e s m args below meth c A H locs ls hA hP hD hS hl) (fun q => kf q p e s m args below meth c A H locs ls hA hP hD hS hl)
theorem ev_icmp_eq {x y : Int32} {off : Int} {tgt : Nat} (d : decode M.2.1 pc = .ok (.if_icmp .eq off, 3)) (ht : (pc : Int) + off = (tgt : Int)) (kt : x = y → Ev g M tgt lv st hp Post) (kf : ¬ (x = y) → Ev g M (pc + 3) lv st hp Post) : Ev g M pc lv (.int y :: .int x :: st) hp Post := by
  intro p e s m args below meth c A H locs ls hA hP hD hS hl
  exact lv_icmp_eq hA.1 hA.2.1 d ht (fun q => kt q p e s m args below meth c A H locs ls hA hP hD hS hl) (fun q => kf q p e s m args below meth c A H locs ls hA hP hD hS hl)
theorem ev_if_ne {x : Int32} {off : Int} {tgt : Nat} (d : decode M.2.1 pc = .ok (.ifCond .ne off, 3)) (ht : (pc : Int) + off = (tgt : Int)) (kt : ¬ x = 0 → Ev g M tgt lv st hp Post) (kf : x = 0 → Ev g M (pc + 3) lv st hp Post) : Ev g M pc lv (.int x :: st) hp Post := by
  intro p e s m args below meth c A H locs ls hA hP hD hS hl
  exact lv_if_ne hA.1 hA.2.1 d ht (fun q => kt q p e s m args below meth c A H locs ls hA hP hD hS hl) (fun q => kf q p e s m args below meth c A H locs ls hA hP hD hS hl)
theorem ev_icmp_ne {x y : Int32} {off : Int} {tgt : Nat} (d : decode M.2.1 pc = .ok (.if_icmp .ne off, 3)) (ht : (pc : Int) + off = (tgt : Int)) (kt : ¬ x = y → Ev g M tgt lv st hp Post) (kf : x = y → Ev g M (pc + 3) lv st hp Post) : Ev g M pc lv (.int y :: .int x :: st) hp Post := by
  intro p e s m args below meth c A H locs ls hA hP hD hS hl
  exact lv_icmp_ne hA.1 hA.2.1 d ht (fun q => kt q p e s m args below meth c A H locs ls hA hP hD hS hl) (fun q => kf q p e s m args below meth c A H locs ls hA hP hD hS hl)
theorem ev_if_lt {x : Int32} {off : Int} {tgt : Nat} (d : decode M.2.1 pc = .ok (.ifCond .lt off, 3)) (ht : (pc : Int) + off = (tgt : Int)) (kt : x < 0 → Ev g M tgt lv st hp Post) (kf : ¬ (x < 0) → Ev g M (pc + 3) lv st hp Post) : Ev g M pc lv (.int x :: st) hp Post := by
  intro p e s m args below meth c A H locs ls hA hP hD hS hl
  exact lv_if_lt hA.1 hA.2.1 d ht (fun q => kt q p e s m args below meth c A H locs ls hA hP hD hS hl) (fun q => kf q p e s m args below meth c A H locs ls hA hP hD hS hl)
theorem ev_icmp_lt {x y : Int32} {off : Int} {tgt : Nat} (d : decode M.2.1 pc = .ok (.if_icmp .lt off, 3)) (ht : (pc : Int) + off = (tgt : Int)) (kt : x < y → Ev g M tgt lv st hp Post) (kf : ¬ (x < y) → Ev g M (pc + 3) lv st hp Post) : Ev g M pc lv (.int y :: .int x :: st) hp Post := by
  intro p e s m args below meth c A H locs ls hA hP hD hS hl
  exact lv_icmp_lt hA.1 hA.2.1 d ht (fun q => kt q p e s m args below meth c A H locs ls hA hP hD hS hl) (fun q => kf q p e s m args below meth c A H locs ls hA hP hD hS hl)
theorem ev_if_ge {x : Int32} {off : Int} {tgt : Nat} (d : decode M.2.1 pc = .ok (.ifCond .ge off, 3)) (ht : (pc : Int) + off = (tgt : Int)) (kt : 0 ≤ x → Ev g M tgt lv st hp Post) (kf : ¬ (0 ≤ x) → Ev g M (pc + 3) lv st hp Post) : Ev g M pc lv (.int x :: st) hp Post := by
  intro p e s m args below meth c A H locs ls hA hP hD hS hl
  exact lv_if_ge hA.1 hA.2.1 d ht (fun q => kt q p e s m args below meth c A H locs ls hA hP hD hS hl) (fun q => kf q p e s m args below meth c A H locs ls hA hP hD hS hl)
theorem ev_icmp_ge {x y : Int32} {off : Int} {tgt : Nat} (d : decode M.2.1 pc = .ok (.if_icmp .ge off, 3)) (ht : (pc : Int) + off = (tgt : Int)) (kt : y ≤ x → Ev g M tgt lv st hp Post) (kf : ¬ (y ≤ x) → Ev g M (pc + 3) lv st hp Post) : Ev g M pc lv (.int y :: .int x :: st) hp Post := by
  intro p e s m args below meth c A H locs ls hA hP hD hS hl
  exact lv_icmp_ge hA.1 hA.2.1 d ht (fun q => kt q p e s m args below meth c A H locs ls hA hP hD hS hl) (fun q => kf q p e s m args below meth c A H locs ls hA hP hD hS hl)
theorem ev_if_gt {x : Int32} {off : Int} {tgt : Nat} (d : decode M.2.1 pc = .ok (.ifCond .gt off, 3)) (ht : (pc : Int) + off = (tgt : Int)) (kt : 0 < x → Ev g M tgt lv st hp Post) (kf : ¬ (0 < x) → Ev g M (pc + 3) lv st hp Post) : Ev g M pc lv (.int x :: st) hp Post := by
  intro p e s m args below meth c A H locs ls hA hP hD hS hl
  exact lv_if_gt hA.1 hA.2.1 d ht (fun q => kt q p e s m args below meth c A H locs ls hA hP hD hS hl) (fun q => kf q p e s m args below meth c A H locs ls hA hP hD hS hl)
theorem ev_icmp_gt {x y : Int32} {off : Int} {tgt : Nat} (d : decode M.2.1 pc = .ok (.if_icmp .gt off, 3)) (ht : (pc : Int) + off = (tgt : Int)) (kt : y < x → Ev g M tgt lv st hp Post) (kf : ¬ (y < x) → Ev g M (pc + 3) lv st hp Post) : Ev g M pc lv (.int y :: .int x :: st) hp Post := by
  intro p e s m args below meth c A H locs ls hA hP hD hS hl
  exact lv_icmp_gt hA.1 hA.2.1 d ht (fun q => kt q p e s m args below meth c A H locs ls hA hP hD hS hl) (fun q => kf q p e s m args below meth c A H locs ls hA hP hD hS hl)
theorem ev_if_le {x : Int32} {off : Int} {tgt : Nat} (d : decode M.2.1 pc = .ok (.ifCond .le off, 3)) (ht : (pc : Int) + off = (tgt : Int)) (kt : x ≤ 0 → Ev g M tgt lv st hp Post) (kf : ¬ (x ≤ 0) → Ev g M (pc + 3) lv st hp Post) : Ev g M pc lv (.int x :: st) hp Post := by
  intro p e s m args below meth c A H locs ls hA hP hD hS hl
  exact lv_if_le hA.1 hA.2.1 d ht (fun q => kt q p e s m args below meth c A H locs ls hA hP hD hS hl) (fun q => kf q p e s m args below meth c A H locs ls hA hP hD hS hl)
theorem ev_icmp_le {x y : Int32} {off : Int} {tgt : Nat} (d : decode M.2.1 pc = .ok (.if_icmp .le off, 3)) (ht : (pc : Int) + off = (tgt : Int)) (kt : x ≤ y → Ev g M tgt lv st hp Post) (kf : ¬ (x ≤ y) → Ev g M (pc + 3) lv st hp Post) : Ev g M pc lv (.int y :: .int x :: st) hp Post := by
  intro p e s m args below meth c A H locs ls hA hP hD hS hl
  exact lv_icmp_le hA.1 hA.2.1 d ht (fun q => kt q p e s m args below meth c A H locs ls hA hP hD hS hl) (fun q => kf q p e s m args below meth c A H locs ls hA hP hD hS hl)
theorem ev_lcmp_eq {x y : Int64} {off : Int} {tgt : Nat} (d0 : decode M.2.1 pc = .ok (.lcmp, 1)) (d : decode M.2.1 (pc + 1) = .ok (.ifCond .eq off, 3)) (ht : ((pc + 1 : Nat) : Int) + off = (tgt : Int)) (kt : x = y → Ev g M tgt lv st hp Post) (kf : ¬ (x = y) → Ev g M (pc + 1 + 3) lv st hp Post) : Ev g M pc lv (.long y :: .long x :: st) hp Post := ev_lcmp d0 (ev_if_eq d ht (fun q => kt ((lg_cmp_eq x y).mp q)) (fun q => kf (fun z => q ((lg_cmp_eq x y).mpr z))))
theorem ev_lcmp_ne {x y : Int64} {off : Int} {tgt : Nat} (d0 : decode M.2.1 pc = .ok (.lcmp, 1)) (d : decode M.2.1 (pc + 1) = .ok (.ifCond .ne off, 3)) (ht : ((pc + 1 : Nat) : Int) + off = (tgt : Int)) (kt : ¬ x = y → Ev g M tgt lv st hp Post) (kf : x = y → Ev g M (pc + 1 + 3) lv st hp Post) : Ev g M pc lv (.long y :: .long x :: st) hp Post := ev_lcmp d0 (ev_if_ne d ht (fun q => kt ((not_congr (lg_cmp_eq x y)).mp q)) (fun q => kf ((lg_cmp_eq x y).mp q)))
theorem ev_lcmp_lt {x y : Int64} {off : Int} {tgt : Nat} (d0 : decode M.2.1 pc = .ok (.lcmp, 1)) (d : decode M.2.1 (pc + 1) = .ok (.ifCond .lt off, 3)) (ht : ((pc + 1 : Nat) : Int) + off = (tgt : Int)) (kt : x < y → Ev g M tgt lv st hp Post) (kf : ¬ (x < y) → Ev g M (pc + 1 + 3) lv st hp Post) : Ev g M pc lv (.long y :: .long x :: st) hp Post := ev_lcmp d0 (ev_if_lt d ht (fun q => kt ((lg_cmp_lt x y).mp q)) (fun q => kf (fun z => q ((lg_cmp_lt x y).mpr z))))
theorem ev_lcmp_ge {x y : Int64} {off : Int} {tgt : Nat} (d0 : decode M.2.1 pc = .ok (.lcmp, 1)) (d : decode M.2.1 (pc + 1) = .ok (.ifCond .ge off, 3)) (ht : ((pc + 1 : Nat) : Int) + off = (tgt : Int)) (kt : y ≤ x → Ev g M tgt lv st hp Post) (kf : ¬ (y ≤ x) → Ev g M (pc + 1 + 3) lv st hp Post) : Ev g M pc lv (.long y :: .long x :: st) hp Post := ev_lcmp d0 (ev_if_ge d ht (fun q => kt ((lg_cmp_ge x y).mp q)) (fun q => kf (fun z => q ((lg_cmp_ge x y).mpr z))))
theorem ev_lcmp_gt {x y : Int64} {off : Int} {tgt : Nat} (d0 : decode M.2.1 pc = .ok (.lcmp, 1)) (d : decode M.2.1 (pc + 1) = .ok (.ifCond .gt off, 3)) (ht : ((pc + 1 : Nat) : Int) + off = (tgt : Int)) (kt : y < x → Ev g M tgt lv st hp Post) (kf : ¬ (y < x) → Ev g M (pc + 1 + 3) lv st hp Post) : Ev g M pc lv (.long y :: .long x :: st) hp Post := ev_lcmp d0 (ev_if_gt d ht (fun q => kt ((lg_cmp_gt x y).mp q)) (fun q => kf (fun z => q ((lg_cmp_gt x y).mpr z))))
theorem ev_lcmp_le {x y : Int64} {off : Int} {tgt : Nat} (d0 : decode M.2.1 pc = .ok (.lcmp, 1)) (d : decode M.2.1 (pc + 1) = .ok (.ifCond .le off, 3)) (ht : ((pc + 1 : Nat) : Int) + off = (tgt : Int)) (kt : x ≤ y → Ev g M tgt lv st hp Post) (kf : ¬ (x ≤ y) → Ev g M (pc + 1 + 3) lv st hp Post) : Ev g M pc lv (.long y :: .long x :: st) hp Post := ev_lcmp d0 (ev_if_le d ht (fun q => kt ((lg_cmp_le x y).mp q)) (fun q => kf (fun z => q ((lg_cmp_le x y).mpr z))))
theorem ev_goto {off : Int} {tgt : Nat} (d : decode M.2.1 pc = .ok (.goto off, 3)) (ht : (pc : Int) + off = (tgt : Int)) (k : Ev g M tgt lv st hp Post) : Ev g M pc lv st hp Post := by
  intro p e s m args below meth c A H locs ls hA hP hD hS hl
  exact lv_goto hA.1 hA.2.1 d ht (k p e s m args below meth c A H locs ls hA hP hD hS hl)
theorem ev_tabOut {x : Int32} {dflt lo hi : Int} {offs : Array Int} {len tgt : Nat} (d : decode M.2.1 pc = .ok (.tableswitch dflt lo hi offs, len)) (h : x.toInt < lo ∨ hi < x.toInt) (ht : (pc : Int) + dflt = (tgt : Int)) (k : Ev g M tgt lv st hp Post) : Ev g M pc lv (.int x :: st) hp Post := by
  intro p e s m args below meth c A H locs ls hA hP hD hS hl
  exact lv_tableOut hA.1 hA.2.1 d h ht (k p e s m args below meth c A H locs ls hA hP hD hS hl)
theorem ev_tabIn {x : Int32} {dflt lo hi : Int} {offs : Array Int} {len tgt : Nat} {off : Int} (d : decode M.2.1 pc = .ok (.tableswitch dflt lo hi offs, len)) (h1 : ¬ x.toInt < lo) (h2 : ¬ hi < x.toInt) (ho : offs[(x.toInt - lo).toNat]? = some off) (ht : (pc : Int) + off = (tgt : Int)) (k : Ev g M tgt lv st hp Post) : Ev g M pc lv (.int x :: st) hp Post := by
  intro p e s m args below meth c A H locs ls hA hP hD hS hl
  exact lv_tableIn hA.1 hA.2.1 d h1 h2 ho ht (k p e s m args below meth c A H locs ls hA hP hD hS hl)
theorem ev_iret {v : Int32} {ty : FieldType} (d : decode M.2.1 pc = .ok (.ireturn, 1)) (hr : M.2.2.2.1 = some ty) (hn : narrow ty (.int v) = .int v) (h : Post (some (.int v)) hp) : Ev g M pc lv [.int v] hp Post := by
  intro p e s m args below meth c A H locs ls hA hP hD hS hl
  exact W.zret hA.1 hA.2.1 (hA.2.2.2.2.2.1.trans hr) hn (fun t ht hW => ⟨⟨some (.int v), hp, rfl, h, by rw [ht]; exact hP, va_K.moved hW.alike hA.2.2.2.2.2.2.2.1, hD⟩, hS.F ht⟩) hS.2.2 d hA.2.2.2.2.2.2.1
theorem ev_lret {v : Int64} (d : decode M.2.1 pc = .ok (.lreturn, 1)) (hr : M.2.2.2.1 = some .long) (h : Post (some (.long v)) hp) : Ev g M pc lv [.long v] hp Post := by
  intro p e s m args below meth c A H locs ls hA hP hD hS hl
  exact W.lret hA.1 hA.2.1 (hA.2.2.2.2.2.1.trans hr) (fun t ht hW => ⟨⟨some (.long v), hp, rfl, h, by rw [ht]; exact hP, va_K.moved hW.alike hA.2.2.2.2.2.2.2.1, hD⟩, hS.F ht⟩) hS.2.2 d hA.2.2.2.2.2.2.1
theorem ev_ret (d : decode M.2.1 pc = .ok (.return_, 1)) (hr : M.2.2.2.1 = none) (h : Post none hp) : Ev g M pc lv [] hp Post := by
  intro p e s m args below meth c A H locs ls hA hP hD hS hl
  exact W.vret hA.1 hA.2.1 (hA.2.2.2.2.2.1.trans hr) (fun t ht hW => ⟨⟨none, hp, rfl, h, by rw [ht]; exact hP, va_K.moved hW.alike hA.2.2.2.2.2.2.2.1, hD⟩, hS.F ht⟩) hS.2.2 d hA.2.2.2.2.2.2.1
end EVR
end
section
/-- a class of the world: its rows stand in the tables -/
def Cok (ci : Nat) (C : String) (T : u_T) (N : Nat) : Prop := vwCl[ci]? = some (C, T, N) ∧ (∀ w ∈ u_ws C T N, w ∈ Ts) ∧ ∃ ty0 : Nat → FieldType, (∀ k, k < N → parseFieldDescriptor (T k).2.2.1 = some (ty0 k)) ∧ (∀ a, a < N → ∀ b, b < N → a ≠ b → (T a).2.1 ≠ (T b).2.1)
/-- a field by its link -/
def Fl (own : String) (idx ci k : Nat) : Prop := ∃ (C : String) (T : u_T) (N : Nat), Cok ci C T N ∧ k < N ∧ (Cond.fieldLink own idx (T k).1 (T k).2.1 (T k).2.2.1 ∈ Ts ∨ ∃ host, Cond.fieldLinkNest own idx (T k).1 (T k).2.1 (T k).2.2.1 host ∈ Tn)
/-- a field that is not final, and its type -/
def Fp (own : String) (idx ci k : Nat) (ty : FieldType) : Prop := ∃ (C : String) (T : u_T) (N : Nat), Cok ci C T N ∧ k < N ∧ (Cond.fieldLink own idx (T k).1 (T k).2.1 (T k).2.2.1 ∈ Ts ∨ ∃ host, Cond.fieldLinkNest own idx (T k).1 (T k).2.1 (T k).2.2.1 host ∈ Tn) ∧ (T k).2.2.2 = false ∧ parseFieldDescriptor (T k).2.2.1 = some ty
theorem Fl.of {own : String} {idx ci k : Nat} {C : String} {T : u_T} {N : Nat} (h : Cok ci C T N) (hk : k < N) (hl : Cond.fieldLink own idx (T k).1 (T k).2.1 (T k).2.2.1 ∈ lw_tbl) : Fl own idx ci k := ⟨C, T, N, h, hk, Or.inl (ts_in hl rfl)⟩
theorem Fl.ofN {own host : String} {idx ci k : Nat} {C : String} {T : u_T} {N : Nat} (h : Cok ci C T N) (hk : k < N) (hl : Cond.fieldLinkNest own idx (T k).1 (T k).2.1 (T k).2.2.1 host ∈ lw_tbl) : Fl own idx ci k := ⟨C, T, N, h, hk, Or.inr ⟨host, tn_in hl rfl⟩⟩
theorem Fp.of {own : String} {idx ci k : Nat} {C : String} {T : u_T} {N : Nat} {ty : FieldType} (h : Cok ci C T N) (hk : k < N) (hl : Cond.fieldLink own idx (T k).1 (T k).2.1 (T k).2.2.1 ∈ lw_tbl) (hf : (T k).2.2.2 = false) (hd : parseFieldDescriptor (T k).2.2.1 = some ty) : Fp own idx ci k ty := ⟨C, T, N, h, hk, Or.inl (ts_in hl rfl), hf, hd⟩
theorem Fp.ofN {own host : String} {idx ci k : Nat} {C : String} {T : u_T} {N : Nat} {ty : FieldType} (h : Cok ci C T N) (hk : k < N) (hl : Cond.fieldLinkNest own idx (T k).1 (T k).2.1 (T k).2.2.1 host ∈ lw_tbl) (hf : (T k).2.2.2 = false) (hd : parseFieldDescriptor (T k).2.2.1 = some ty) : Fp own idx ci k ty := ⟨C, T, N, h, hk, Or.inr ⟨host, tn_in hl rfl⟩, hf, hd⟩
section EVH
variable {g : GG} {M : MD} {pc : Nat} {lv : List (Nat × Value)} {st : List Value} {hp : List va_E} {Post : Option Value → List va_E → Prop}
theorem map_get? {α β : Type} {f : α → β} {l : List α} {k : Nat} {v : α} (h : l[k]? = some v) : (l.map f)[k]? = some (f v) := by rw [List.getElem?_map, h]; rfl
theorem ev_getf {idx ci k q : Nat} {fs : List Value} {v : Value} (d : decode M.2.1 pc = .ok (.getfield idx, 3)) (f : Fl M.1.cls idx ci k) (he : hp[q]? = some (.inr (ci, fs))) (hv : fs[k]? = some v) (kk : Ev g M (pc + 3) lv (v :: st) hp Post) : Ev g M pc lv (.ref q :: st) hp Post := by
  intro p e s m args below meth c A H locs ls hA hP hD hS hl
  obtain ⟨C, T, N, ⟨hc, hin, -⟩, hk, h | ⟨host, h⟩⟩ := f
  · exact va_get hA.1 hA.2.1 hA.2.2.2.2.1 hin hA.2.2.2.1 hA.2.2.2.2.2.2.2.1 hP q (wd_at (g := g) he) hc k hk (hA.2.2.2.2.1 _ h) (fun _ z => z) (map_get? hv) d (kk p e s m args below meth c A H locs ls hA hP hD hS hl)
  · exact va_getN hA.1 hA.2.1 hA.2.2.2.2.1 hin hA.2.2.2.1 hA.2.2.2.2.2.2.2.1 hP q (wd_at (g := g) he) hc k hk (va_Nw.use rfl (hA.2.2.2.2.2.2.2.2.1 _ h)) (fun _ z => z) (map_get? hv) d (kk p e s m args below meth c A H locs ls hA hP hD hS hl)
theorem cz_set {ci k : Nat} {fs : List Value} {v : Value} : cz g (.inr (ci, fs.set k v)) = .inr (ci, (fs.map (cv g.2.2.1)).set k (cv g.2.2.1 v)) := by
  show Sum.inr (ci, (fs.set k v).map (cv g.2.2.1)) = _
  rw [List.map_set]
theorem ev_putf {idx ci k q : Nat} {fs : List Value} {v : Value} {ty : FieldType} {hp' : List va_E} (d : decode M.2.1 pc = .ok (.putfield idx, 3)) (f : Fp M.1.cls idx ci k ty) (he : hp[q]? = some (.inr (ci, fs))) (hkl : Nat.blt k fs.length = true) (hn : ∀ ad : Nat → Nat, narrow ty (cv ad v) = cv ad v) (hf : ∀ ad : Nat → Nat, fits ty (cv ad v) = true) (hs : hp.set q (.inr (ci, fs.set k v)) = hp') (kk : Ev g M (pc + 3) lv st hp' Post) : Ev g M pc lv (v :: .ref q :: st) hp Post := by
  intro p e s m args below meth c A H locs ls hA hP hD hS hl
  subst hs
  obtain ⟨C, T, N, ⟨hc, hin, ty0, h1, h2⟩, hk, h, hfin, hd⟩ := f
  have hlen : k < (fs.map (cv g.2.2.1)).length := by rw [List.length_map]; simpa [Nat.blt_eq] using hkl
  have fin : ∀ (H1 : Heap) (locs1 : List Loc), va_P g.2.1 vwCl ((wd g hp).set q (g.2.2.1 q, .inr (ci, (fs.map (cv g.2.2.1)).set k (cv g.2.2.1 v)))) H1 → va_D A ((wd g hp).set q (g.2.2.1 q, .inr (ci, (fs.map (cv g.2.2.1)).set k (cv g.2.2.1 v)))) → va_S A s.heap H1 locs1 → W p g.1 e M.2.2.2.2 s m args below meth c H1 locs1 0 0 (MQ below (Qg g A Post) args s 0 0 A) (F0 m (pc + 3) ls (st.map (cv g.2.2.1))) := by
    intro H1 locs1 hP1 hD1 hS1
    rw [← cz_set, wd_set] at hP1 hD1
    exact kk p e s m args below meth c A H1 locs1 ls hA hP1 hD1 hS1 hl
  rcases h with h | ⟨host, h⟩
  · exact va_put hA.1 hA.2.1 hA.2.2.2.2.1 hin ty0 h1 h2 hA.2.2.2.1 hA.2.2.2.2.2.2.2.1 hP hD hS q (wd_at (g := g) he) hc k hk (hA.2.2.2.2.1 _ h) (fun _ z => z) hfin hd (hn _) (hf _) hlen d fin
  · exact va_putN hA.1 hA.2.1 hA.2.2.2.2.1 hin ty0 h1 h2 hA.2.2.2.1 hA.2.2.2.2.2.2.2.1 hP hD hS q (wd_at (g := g) he) hc k hk (va_Nw.use rfl (hA.2.2.2.2.2.2.2.2.1 _ h)) (fun _ z => z) hfin hd (hn _) (hf _) hlen d fin
theorem ev_iald {q n : Nat} {f : Nat → Int32} {i : Int32} (d : decode M.2.1 pc = .ok (.iaload, 1)) (he : hp[q]? = some (.inl (0, n, .inl f))) (hin : vp_in i n) (kk : Ev g M (pc + 1) lv (.int (f i.toNatClampNeg) :: st) hp Post) : Ev g M pc lv (.int i :: .ref q :: st) hp Post := by
  intro p e s m args below meth c A H locs ls hA hP hD hS hl
  exact va_iald hA.1 hA.2.1 hA.2.2.2.2.2.2.2.1 hP q 0 (wd_at (g := g) he) rfl hin d (kk p e s m args below meth c A H locs ls hA hP hD hS hl)
theorem ev_lald {q n : Nat} {f : Nat → Int64} {i : Int32} (d : decode M.2.1 pc = .ok (.laload, 1)) (he : hp[q]? = some (.inl (1, n, .inr (.inl f)))) (hin : vp_in i n) (kk : Ev g M (pc + 1) lv (.long (f i.toNatClampNeg) :: st) hp Post) : Ev g M pc lv (.int i :: .ref q :: st) hp Post := by
  intro p e s m args below meth c A H locs ls hA hP hD hS hl
  exact va_lald hA.1 hA.2.1 hA.2.2.2.2.2.2.2.1 hP q 1 (wd_at (g := g) he) rfl hin d (kk p e s m args below meth c A H locs ls hA hP hD hS hl)
theorem ev_iast {q n : Nat} {f : Nat → Int32} {i x : Int32} {hp' : List va_E} (d : decode M.2.1 pc = .ok (.iastore, 1)) (he : hp[q]? = some (.inl (0, n, .inl f))) (hin : vp_in i n) (hs : hp.set q (.inl (0, n, .inl (upd f i.toNatClampNeg x))) = hp') (kk : Ev g M (pc + 1) lv st hp' Post) : Ev g M pc lv (.int x :: .int i :: .ref q :: st) hp Post := by
  intro p e s m args below meth c A H locs ls hA hP hD hS hl
  subst hs
  refine va_iast hA.1 hA.2.1 hA.2.2.2.2.2.2.2.1 hP hD hS q 0 (wd_at (g := g) he) rfl hin d (fun H1 locs1 hP1 hD1 hS1 => ?_)
  have z : (wd g hp).set q (g.2.2.1 q, .inl (g.2.2.2 0, n, .inl (upd f i.toNatClampNeg x))) = wd g (hp.set q (.inl (0, n, .inl (upd f i.toNatClampNeg x)))) := wd_set (g := g) (e := .inl (0, n, .inl (upd f i.toNatClampNeg x)))
  rw [z] at hP1 hD1
  exact kk p e s m args below meth c A H1 locs1 ls hA hP1 hD1 hS1 hl
theorem ev_last {q n : Nat} {f : Nat → Int64} {i : Int32} {x : Int64} {hp' : List va_E} (d : decode M.2.1 pc = .ok (.lastore, 1)) (he : hp[q]? = some (.inl (1, n, .inr (.inl f)))) (hin : vp_in i n) (hs : hp.set q (.inl (1, n, .inr (.inl (vp_updL f i.toNatClampNeg x)))) = hp') (kk : Ev g M (pc + 1) lv st hp' Post) : Ev g M pc lv (.long x :: .int i :: .ref q :: st) hp Post := by
  intro p e s m args below meth c A H locs ls hA hP hD hS hl
  subst hs
  refine va_last hA.1 hA.2.1 hA.2.2.2.2.2.2.2.1 hP hD hS q 1 (wd_at (g := g) he) rfl hin d (fun H1 locs1 hP1 hD1 hS1 => ?_)
  have z : (wd g hp).set q (g.2.2.1 q, .inl (g.2.2.2 1, n, .inr (.inl (vp_updL f i.toNatClampNeg x)))) = wd g (hp.set q (.inl (1, n, .inr (.inl (vp_updL f i.toNatClampNeg x))))) := wd_set (g := g) (e := .inl (1, n, .inr (.inl (vp_updL f i.toNatClampNeg x))))
  rw [z] at hP1 hD1
  exact kk p e s m args below meth c A H1 locs1 ls hA hP1 hD1 hS1 hl
theorem ev_alenI {q n : Nat} {f : Nat → Int32} {v : Int32} (d : decode M.2.1 pc = .ok (.arraylength, 1)) (he : hp[q]? = some (.inl (0, n, .inl f))) (hv : Int32.ofNat n = v) (kk : Ev g M (pc + 1) lv (.int v :: st) hp Post) : Ev g M pc lv (.ref q :: st) hp Post := by
  intro p e s m args below meth c A H locs ls hA hP hD hS hl
  exact va_alen hA.1 hA.2.1 hA.2.2.2.2.2.2.2.1 hP q 0 (wd_at (g := g) he) rfl hv d (kk p e s m args below meth c A H locs ls hA hP hD hS hl)
theorem ev_alenL {q n : Nat} {f : Nat → Int64} {v : Int32} (d : decode M.2.1 pc = .ok (.arraylength, 1)) (he : hp[q]? = some (.inl (1, n, .inr (.inl f)))) (hv : Int32.ofNat n = v) (kk : Ev g M (pc + 1) lv (.int v :: st) hp Post) : Ev g M pc lv (.ref q :: st) hp Post := by
  intro p e s m args below meth c A H locs ls hA hP hD hS hl
  exact va_alen hA.1 hA.2.1 hA.2.2.2.2.2.2.2.1 hP q 1 (wd_at (g := g) he) rfl hv d (kk p e s m args below meth c A H locs ls hA hP hD hS hl)
end EVH
end
section
theorem Sx.moved {g : GG} {A : Nat → Prop} {u U : State} {H : Heap} (hv : u.vm = U.vm) (h : Sx g A u H) : Sx g A U H := by
  have ha : u.vm.Alike U.vm := by rw [← hv]; exact Vm.Alike.refl _
  exact ⟨h.1.moved ha, fun i hi => (h.2.1 i hi).same hv.symm, h.2.2.moved ha⟩
theorem Sx.warm {g : GG} {A : Nat → Prop} {s U : State} {H : Heap} (hW : s.WarmedH U.vm) (h : Sx g A s H) : Sx g A U H := ⟨h.1.moved hW.alike, fun i hi => (h.2.1 i hi).warm hW, h.2.2.moved hW.alike⟩
theorem Sx.kept {g : GG} {A : Nat → Prop} {s : State} {H H1 : Heap} (h : Sx g A s H) (hq : ∀ a : Nat, a < H.size → ¬ A a → H1[a]? = H[a]?) : Sx g A s H1 := ⟨h.1.kept hq, h.2.1, h.2.2.kept hq⟩
theorem Sx.narrow {g : GG} {A B : Nat → Prop} {s : State} {H : Heap} (h : Sx g A s H) (hAB : ∀ q, B q → A q) : Sx g B s H := ⟨h.1.narrow hAB, h.2.1, h.2.2.narrow hAB⟩
theorem lvc_args {g : GG} : ∀ (as : List Value) (i : Nat), lv_args i (as.map (cv g.2.2.1)) = lvc g (lv_args i as)
  | [], _ => rfl
  | v :: vs, i => by
    show (i, cv g.2.2.1 v) :: lv_args (if (cv g.2.2.1 v).category = 2 then i + 2 else i + 1) (vs.map (cv g.2.2.1)) = (i, cv g.2.2.1 v) :: lvc g (lv_args (if v.category = 2 then i + 2 else i + 1) vs)
    rw [cv_cat, lvc_args vs]
theorem lg_sl_len {g : GG} : ∀ (as : List Value), (lg_sl (as.map (cv g.2.2.1))).length = (lg_sl as).length
  | [] => rfl
  | v :: vs => by
    have h := lg_sl_len (g := g) vs
    unfold lg_sl at h ⊢
    rw [List.map_cons, List.flatMap_cons, List.flatMap_cons, List.length_append, List.length_append, h, cv_cat]
    split <;> rfl
theorem ct_of {g : GG} {M : MD} {as : List Value} {hp : List va_E} {Post : Option Value → List va_E → Prop} (hy : plainName M.1.cls = true) (hlen : Nat.ble (lg_sl as).length M.2.2.1 = true) (h : Ev g M 0 (lv_args 0 as) [] hp Post) : Ct g M as hp Post := by
  intro sz
  refine Met.ofW (cc := M.2.1) (maxL := M.2.2.1) (ret := M.2.2.2.1) hy rfl ?_
  intro p e s m args below meth c s₁ B hml hv
  obtain ⟨rfl, hsz, hP, hK, hD0, hN, hX⟩ := hv
  have hts := atoms_spec (ws := wsM M) B.pre
  have hown : s.vm.findClass M.1.cls = some m.cls := findClass_of_methodNamed B.named
  subst hsz
  have hD := hD0.self (sz := s.heap.size)
  generalize hAe : va_A (wd g hp) s.heap.size = A at hD hX ⊢
  have hA : ∀ q : Nat, s.heap.size ≤ q → A q := fun q h => by rw [← hAe]; exact Or.inr h
  have hS : va_S A s.heap s.heap [] := va_S.rf
  have hl := lv_entry (as.map (cv g.2.2.1)) (n := M.2.2.1) (by rw [lg_sl_len]; exact Nat.le_of_ble_eq_true hlen)
  rw [lg_entry_eq]
  rw [lvc_args] at hl
  exact h p e s m _ below meth c A s.heap [] _ ⟨B.exec, B.bytes, hml, hown, fun w hw => hts w (List.mem_cons_of_mem _ hw), B.returns, B.notSynchronized, hK, hN, hX, hA⟩ hP hD hS hl
/-- a contract's end may be weakened -/
theorem ct_post {g : GG} {M : MD} {as : List Value} {hp : List va_E} {Post Post' : Option Value → List va_E → Prop} (h : ∀ v q, Post' v q → Post v q) (k : Ct g M as hp Post') : Ct g M as hp Post := by
  intro sz p e ha hc hk s m args below hf hfit hP hK
  obtain ⟨t, o, b0, b1, b2, ⟨⟨v, q, c1, c2, c3⟩, c4⟩, b4⟩ := k sz p e ha hc hk s m args below hf hfit hP hK
  exact ⟨t, o, b0, b1, b2, ⟨⟨v, q, c1, h v q c2, c3⟩, c4⟩, b4⟩
def Ml (own : String) (idx : Nat) (M' : MD) : Prop := Cond.methodLink own idx M'.1 ∈ Ts ∨ ∃ host, Cond.methodLinkNest own idx M'.1 host ∈ Tn
def Mm (M' : MD) (n : Nat) : Prop := Cond.code M'.1 M'.2.1 M'.2.2.1 M'.2.2.2.1 ∈ Ts ∧ Cond.initialized M'.1.cls ∈ Ts ∧ (M'.1.cls ≠ "java/lang/invoke/MethodHandle" ∧ M'.1.cls ≠ "java/lang/invoke/VarHandle") ∧ (parseMethodDescriptor M'.1.desc).map (fun d => d.parameters.length) = some n ∧ M'.2.2.2.2.cells = 0 ∧ M'.2.2.2.2.slots = 0
def Mv (M' : MD) (n : Nat) : Prop := Mm M' n ∧ Cond.instanceMethod M'.1 ∈ Ts ∧ Cond.selects M'.1.cls M'.1 M'.1 ∈ Ts
def Ms (M' : MD) (n : Nat) : Prop := Mm M' n ∧ Cond.static M'.1 ∈ Ts
theorem wsM_good {M' : MD} (h : Cond.code M'.1 M'.2.1 M'.2.2.1 M'.2.2.2.1 ∈ Ts) : GoodIn Ts (wsM M') := by
  intro w hw
  rcases List.mem_cons.mp hw with rfl | hw
  · exact ⟨h, good_of_word (ts_good h)⟩
  · exact ⟨hw, good_of_word (ts_good hw)⟩
section EVC
variable {g : GG} {M : MD} {pc : Nat} {lv : List (Nat × Value)} {st : List Value} {hp : List va_E} {Post : Option Value → List va_E → Prop}
theorem callG {p : Program} {l : Launch} {e : Env} {R : Room} {s : State} {m : MethodId} {args : Array Value} {below : List Frame} {meth : Method} {c : Code} {H H0 : Heap} {locs : List Loc} {Q : State → Prop} {ls : Array Slot} {rest st0 : List Value} {a : Array Value} {A A1 : Nat → Prop} {Post' : Option Value → List va_E → Prop}
    (hr : va_Run p l e R s m args below meth c H locs 0 0 0 0 (F0 m pc ls st0) rest (Qg g A1 Post' a) A1) (hS : va_S A H0 H locs) (hF : ∀ q, A1 q → A q)
    (kk : ∀ (v : Option Value) (hp' : List va_E) (t : State) (H1 : Heap) (locs1 : List Loc), t.heap = H1 → Post' v hp' → va_P g.2.1 vwCl (wd g hp') H1 → va_D A1 (wd g hp') → va_S A H0 H1 locs1 → W p l e R s m args below meth c H1 locs1 0 0 Q (F0 m (pc + 3) ls ((v.map (cv g.2.2.1)).toList ++ rest))) : W p l e R s m args below meth c H locs 0 0 Q (F0 m pc ls st0) := by
  intro T hT X
  obtain ⟨v, st₀, t, T', L, h0, X', hL, e1, e2, ⟨⟨v', hp', hv, hp, hP, hK, hD⟩, hz, hk⟩, st⟩ := hr T hT X
  cases hv
  rw [h0] at hz hk
  obtain ⟨t2, a1, b1⟩ := kk v' hp' t T'.heap (locs ++ L) e1.symm hp (by rw [e1]; exact hP) hD
    ⟨Nat.le_trans hS.1 (by rw [e1]; exact hz), fun q h1 h2 => by rw [e1, hk q (Nat.lt_of_lt_of_le h1 hS.1) (fun z => h2 (hF q z))]; exact hS.2.1 q h1 h2, fun q hq => by
      rcases List.mem_append.mp hq with h | h
      · exact hS.2.2 q h
      · exact hF _ (hL q h)⟩ T' rfl X'
  exact ⟨t2, st t2 a1, b1⟩
/-- what the callee starts from -/
theorem call_pre {p : Program} {s : State} {m : MethodId} {args : Array Value} {meth : Method} {c : Code} {A : Nat → Prop} {H : Heap} {locs : List Loc} (hA : Act g M A p s m args meth c) (hP : va_P g.2.1 vwCl (wd g hp) H) (hD : va_D A (wd g hp)) (hS : va_S A s.heap H locs) :
    (∀ q, va_A (wd g hp) H.size q → A q) ∧ ∀ U : State, U.heap = H → s.WarmedH U.vm → (U.heap.size = H.size ∧ va_P g.2.1 vwCl (wd g hp) U.heap ∧ va_K g.2.1 vwCl (tysG g) U ∧ va_D (fun _ => True) (wd g hp) ∧ Nst U ∧ Sx g (va_A (wd g hp) H.size) U U.heap) := by
  have hF : ∀ q, va_A (wd g hp) H.size q → A q := by
    intro q h
    rcases h with ⟨k, e, h⟩ | h
    · exact hD.2 k (q, e) h
    · exact hA.2.2.2.2.2.2.2.2.2.2 q (Nat.le_trans hS.1 h)
  refine ⟨hF, fun U hU hW => ⟨by rw [hU], by rw [hU]; exact hP, va_K.moved hW.alike hA.2.2.2.2.2.2.2.1, hD.weaken (fun _ _ _ _ => trivial), hA.2.2.2.2.2.2.2.2.1.warm hW, ?_⟩⟩
  rw [hU]
  exact ((hA.2.2.2.2.2.2.2.2.2.1.kept hS.2.1).warm hW).narrow hF
theorem call_blind {av : List Value} {sz : Nat} {A : Nat → Prop} : FrameBlind (va_Pc av (fun U => U.heap.size = sz ∧ va_P g.2.1 vwCl (wd g hp) U.heap ∧ va_K g.2.1 vwCl (tysG g) U ∧ va_D (fun _ => True) (wd g hp) ∧ Nst U ∧ Sx g A U U.heap)) := by
  intro a U gf mk q
  obtain ⟨q0, q1, qP, qK, qD, qN, qX⟩ := q
  exact ⟨q0, q1, qP, va_K.moved (u := U) (U := U.calling gf mk a) (Vm.Alike.refl U.vm) qK, qD, Nst.same (u := U) (U := U.calling gf mk a) rfl qN, Sx.moved (u := U) (U := U.calling gf mk a) rfl qX⟩
theorem call_B {M' : MD} {n : Nat} {R : Room} {s : State} {args : Array Value} {own : String} {idx : Nat} (mm : Mm M' n) (hts : ∀ w ∈ Ts, w.before args s = true) (hR : M'.2.2.2.2.frames + 1 ≤ R.frames ∧ 8 + (M'.2.2.1 + 11) + M'.2.2.2.2.locals ≤ R.locals) (hl : Cond.methodLink own idx M'.1 ∈ Ts) : CallB R s args own idx M'.1 M'.2.1 M'.2.2.1 M'.2.2.2.1 (wsM M') M'.2.2.2.2 0 0 n :=
  callB_of n hts (wsM_good mm.1) rfl mm.2.2.2.2.1 mm.2.2.2.2.2 (hts _ mm.2.1) (hts _ hl) ⟨mm.2.2.1.1, mm.2.2.1.2, mm.2.2.2.1⟩ hR
theorem call_N {M' : MD} {n : Nat} {R : Room} {s : State} {args : Array Value} {own host : String} {idx : Nat} (mm : Mm M' n) (hts : ∀ w ∈ Ts, w.before args s = true) (hR : M'.2.2.2.2.frames + 1 ≤ R.frames ∧ 8 + (M'.2.2.1 + 11) + M'.2.2.2.2.locals ≤ R.locals) (hl : va_Nw (.methodLinkNest own idx M'.1 host) s) : va_CN R s args own idx M'.1 host M'.2.1 M'.2.2.1 M'.2.2.2.1 (wsM M') M'.2.2.2.2 0 0 n :=
  va_cnB n hts (wsM_good mm.1) rfl mm.2.2.2.2.1 mm.2.2.2.2.2 hl (hts _ mm.2.1) ⟨mm.2.2.1.1, mm.2.2.1.2, mm.2.2.2.1⟩ hR
theorem cat_sum (l : List Value) : ((l.map (cv g.2.2.1)).map fun v => v.category).sum = (l.map fun v => v.category).sum := by
  rw [List.map_map]
  congr 1
  exact List.map_congr_left (fun v _ => cv_cat _ v)
theorem room_of {M M' : MD} (h : (Nat.ble (M'.2.2.2.2.frames + 1) M.2.2.2.2.frames && Nat.ble (8 + (M'.2.2.1 + 11) + M'.2.2.2.2.locals) M.2.2.2.2.locals) = true) : M'.2.2.2.2.frames + 1 ≤ M.2.2.2.2.frames ∧ 8 + (M'.2.2.1 + 11) + M'.2.2.2.2.locals ≤ M.2.2.2.2.locals := by
  rw [Bool.and_eq_true] at h
  exact ⟨Nat.le_of_ble_eq_true h.1, Nat.le_of_ble_eq_true h.2⟩
theorem ev_callV {idx n q : Nat} {M' : MD} {as rest : List Value} {Post' : Option Value → List va_E → Prop} (d : decode M.2.1 pc = .ok (.invokevirtual idx, 3)) (ml : Ml M.1.cls idx M') (mv : Mv M' n) (hr : (Nat.ble (M'.2.2.2.2.frames + 1) M.2.2.2.2.frames && Nat.ble (8 + (M'.2.2.1 + 11) + M'.2.2.2.2.locals) M.2.2.2.2.locals) = true) (hn : as.length = n) (hw : Nat.ble (rest.map fun v => v.category).sum 8 = true)
    {ci : Nat} {fs : List Value} (hq : hp[q]? = some (.inr (ci, fs))) (hci : (vwCl[ci]?).map (fun z => z.1) = some M'.1.cls) (ct : Ct g M' (.ref q :: as) hp Post') (kk : ∀ v hp', Post' v hp' → Ev g M (pc + 3) lv (v.toList ++ rest) hp' Post) : Ev g M pc lv (as.reverse ++ .ref q :: rest) hp Post := by
  intro p e s m args below meth c A H locs ls hA hP hD hS hl
  obtain ⟨hF, hU⟩ := call_pre hA hP hD hS
  have hR := room_of hr
  have hcl : ∃ z, vwCl[ci]? = some z ∧ z.1 = M'.1.cls := by
    cases hz : vwCl[ci]? with
    | none => rw [hz] at hci; cases hci
    | some z => rw [hz] at hci; exact ⟨z, rfl, Option.some.inj hci⟩
  obtain ⟨z, hz, hz1⟩ := hcl
  have hrecv := va_recv hA.2.2.2.2.2.2.2.1 hP hz (wd_at (g := g) hq)
  rw [hz1] at hrecv
  have hst : ((as.reverse ++ Value.ref q :: rest).map (cv g.2.2.1)) = (as.map (cv g.2.2.1)).reverse ++ .ref (g.2.2.1 q) :: rest.map (cv g.2.2.1) := by
    rw [List.map_append, List.map_reverse, List.map_cons]; rfl
  have hsum : (((rest.map (cv g.2.2.1)).map fun v => v.category)).sum ≤ 8 := by rw [cat_sum]; exact Nat.le_of_ble_eq_true hw
  have fin : ∀ (v : Option Value) (hp' : List va_E) (t : State) (H1 : Heap) (locs1 : List Loc), t.heap = H1 → Post' v hp' → va_P g.2.1 vwCl (wd g hp') H1 → va_D (va_A (wd g hp) H.size) (wd g hp') → va_S A s.heap H1 locs1 → W p g.1 e M.2.2.2.2 s m args below meth c H1 locs1 0 0 (MQ below (Qg g A Post) args s 0 0 A) (F0 m (pc + 3) ls ((v.map (cv g.2.2.1)).toList ++ rest.map (cv g.2.2.1))) := by
    intro v hp' t H1 locs1 ht hp1 hP1 hD1 hS1
    have := kk v hp' hp1 p e s m args below meth c A H1 locs1 ls hA hP1 (hD1.weaken (fun _ _ _ h => hF _ h)) hS1 hl
    rw [List.map_append] at this
    cases v <;> exact this
  have hpre : PreV s H M'.1.cls (g.2.2.1 q) (va_Pc ((Value.ref q :: as).map (cv g.2.2.1)) (fun U => U.heap.size = H.size ∧ va_P g.2.1 vwCl (wd g hp) U.heap ∧ va_K g.2.1 vwCl (tysG g) U ∧ va_D (fun _ => True) (wd g hp) ∧ Nst U ∧ Sx g (va_A (wd g hp) H.size) U U.heap)) (as.map (cv g.2.2.1)) := ⟨call_blind, hrecv, fun U h1 h2 => ⟨rfl, hU U h1 h2⟩⟩
  rw [hst]
  rcases ml with hml | ⟨host, hml⟩
  · exact callG (va_runV (As := as.map (cv g.2.2.1)) ⟨hA.1, hA.2.1, hA.2.2.1, hA.2.2.2.1, hA.2.2.2.2.1⟩ (ct H.size) ⟨call_B mv.1 hA.2.2.2.2.1 hR hml, hA.2.2.2.2.1 _ mv.2.1, hA.2.2.2.2.1 _ mv.2.2⟩ hpre rfl (by rw [List.length_map]; exact hn) hl.1 rfl (lv_room hsum) d ⟨Nat.zero_le _, Nat.zero_le _⟩) hS hF fin
  · exact callG (va_runVN (As := as.map (cv g.2.2.1)) ⟨hA.1, hA.2.1, hA.2.2.1, hA.2.2.2.1, hA.2.2.2.2.1⟩ (ct H.size) ⟨call_N mv.1 hA.2.2.2.2.1 hR (hA.2.2.2.2.2.2.2.2.1 _ hml), hA.2.2.2.2.1 _ mv.2.1, hA.2.2.2.2.1 _ mv.2.2⟩ hpre rfl (by rw [List.length_map]; exact hn) hl.1 rfl (lv_room hsum) d ⟨Nat.zero_le _, Nat.zero_le _⟩) hS hF fin
theorem ev_callS {idx n : Nat} {M' : MD} {as rest : List Value} {Post' : Option Value → List va_E → Prop} (d : decode M.2.1 pc = .ok (.invokestatic idx, 3)) (ml : Ml M.1.cls idx M') (mv : Ms M' n) (hr : (Nat.ble (M'.2.2.2.2.frames + 1) M.2.2.2.2.frames && Nat.ble (8 + (M'.2.2.1 + 11) + M'.2.2.2.2.locals) M.2.2.2.2.locals) = true) (hn : as.length = n) (hw : Nat.ble (rest.map fun v => v.category).sum 8 = true)
    (ct : Ct g M' as hp Post') (kk : ∀ v hp', Post' v hp' → Ev g M (pc + 3) lv (v.toList ++ rest) hp' Post) : Ev g M pc lv (as.reverse ++ rest) hp Post := by
  intro p e s m args below meth c A H locs ls hA hP hD hS hl
  obtain ⟨hF, hU⟩ := call_pre hA hP hD hS
  have hR := room_of hr
  have hst : ((as.reverse ++ rest).map (cv g.2.2.1)) = (as.map (cv g.2.2.1)).reverse ++ rest.map (cv g.2.2.1) := by
    rw [List.map_append, List.map_reverse]
  have hsum : (((rest.map (cv g.2.2.1)).map fun v => v.category)).sum ≤ 8 := by rw [cat_sum]; exact Nat.le_of_ble_eq_true hw
  have fin : ∀ (v : Option Value) (hp' : List va_E) (t : State) (H1 : Heap) (locs1 : List Loc), t.heap = H1 → Post' v hp' → va_P g.2.1 vwCl (wd g hp') H1 → va_D (va_A (wd g hp) H.size) (wd g hp') → va_S A s.heap H1 locs1 → W p g.1 e M.2.2.2.2 s m args below meth c H1 locs1 0 0 (MQ below (Qg g A Post) args s 0 0 A) (F0 m (pc + 3) ls ((v.map (cv g.2.2.1)).toList ++ rest.map (cv g.2.2.1))) := by
    intro v hp' t H1 locs1 ht hp1 hP1 hD1 hS1
    have := kk v hp' hp1 p e s m args below meth c A H1 locs1 ls hA hP1 (hD1.weaken (fun _ _ _ h => hF _ h)) hS1 hl
    rw [List.map_append] at this
    cases v <;> exact this
  have hpre : PreS s H (va_Pc (as.map (cv g.2.2.1)) (fun U => U.heap.size = H.size ∧ va_P g.2.1 vwCl (wd g hp) U.heap ∧ va_K g.2.1 vwCl (tysG g) U ∧ va_D (fun _ => True) (wd g hp) ∧ Nst U ∧ Sx g (va_A (wd g hp) H.size) U U.heap)) (as.map (cv g.2.2.1)) := ⟨call_blind, fun U h1 h2 => ⟨rfl, hU U h1 h2⟩⟩
  rw [hst]
  rcases ml with hml | ⟨host, hml⟩
  · exact callG (va_runS (As := as.map (cv g.2.2.1)) ⟨hA.1, hA.2.1, hA.2.2.1, hA.2.2.2.1, hA.2.2.2.2.1⟩ (ct H.size) ⟨call_B mv.1 hA.2.2.2.2.1 hR hml, hA.2.2.2.2.1 _ mv.2⟩ hpre rfl (by rw [List.length_map]; exact hn) hl.1 rfl (lv_room hsum) d ⟨Nat.zero_le _, Nat.zero_le _⟩) hS hF fin
  · exact callG (va_runSN (As := as.map (cv g.2.2.1)) ⟨hA.1, hA.2.1, hA.2.2.1, hA.2.2.2.1, hA.2.2.2.2.1⟩ (ct H.size) ⟨call_N mv.1 hA.2.2.2.2.1 hR (hA.2.2.2.2.2.2.2.2.1 _ hml), hA.2.2.2.2.1 _ mv.2, trivial⟩ hpre rfl (by rw [List.length_map]; exact hn) hl.1 rfl (lv_room hsum) d ⟨Nat.zero_le _, Nat.zero_le _⟩) hS hF fin
end EVC
end
