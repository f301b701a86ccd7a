theorem Cok_0 : Cok 0 RX0 TX0 6 := ⟨rfl, fun w hw => ts_in ((by decide +kernel : ∀ w ∈ u_ws RX0 TX0 6, w ∈ lw_tbl) w hw) ((by decide +kernel : ∀ w ∈ u_ws RX0 TX0 6, goodWord w = true) w hw), tyX0, tyX0_ok, nmX0⟩
theorem Cok_1 : Cok 1 RX1 TX1 11 := ⟨rfl, fun w hw => ts_in ((by decide +kernel : ∀ w ∈ u_ws RX1 TX1 11, w ∈ lw_tbl) w hw) ((by decide +kernel : ∀ w ∈ u_ws RX1 TX1 11, goodWord w = true) w hw), tyX1, tyX1_ok, nmX1⟩
theorem Cok_2 : Cok 2 RX2 TX2 5 := ⟨rfl, fun w hw => ts_in ((by decide +kernel : ∀ w ∈ u_ws RX2 TX2 5, w ∈ lw_tbl) w hw) ((by decide +kernel : ∀ w ∈ u_ws RX2 TX2 5, goodWord w = true) w hw), tyX2, tyX2_ok, nmX2⟩
theorem Cok_3 : Cok 3 RX3 TX3 4 := ⟨rfl, fun w hw => ts_in ((by decide +kernel : ∀ w ∈ u_ws RX3 TX3 4, w ∈ lw_tbl) w hw) ((by decide +kernel : ∀ w ∈ u_ws RX3 TX3 4, goodWord w = true) w hw), tyX3, tyX3_ok, nmX3⟩
theorem Cok_4 : Cok 4 RX4 TX4 4 := ⟨rfl, fun w hw => ts_in ((by decide +kernel : ∀ w ∈ u_ws RX4 TX4 4, w ∈ lw_tbl) w hw) ((by decide +kernel : ∀ w ∈ u_ws RX4 TX4 4, goodWord w = true) w hw), tyX4, tyX4_ok, nmX4⟩
theorem Cok_5 : Cok 5 RX5 TX5 5 := ⟨rfl, fun w hw => ts_in ((by decide +kernel : ∀ w ∈ u_ws RX5 TX5 5, w ∈ lw_tbl) w hw) ((by decide +kernel : ∀ w ∈ u_ws RX5 TX5 5, goodWord w = true) w hw), tyX5, tyX5_ok, nmX5⟩
theorem Cok_6 : Cok 6 RX6 TX6 8 := ⟨rfl, fun w hw => ts_in ((by decide +kernel : ∀ w ∈ u_ws RX6 TX6 8, w ∈ lw_tbl) w hw) ((by decide +kernel : ∀ w ∈ u_ws RX6 TX6 8, goodWord w = true) w hw), tyX6, tyX6_ok, nmX6⟩
theorem Cok_7 : Cok 7 RX7 TX7 2 := ⟨rfl, fun w hw => ts_in ((by decide +kernel : ∀ w ∈ u_ws RX7 TX7 2, w ∈ lw_tbl) w hw) ((by decide +kernel : ∀ w ∈ u_ws RX7 TX7 2, goodWord w = true) w hw), tyX7, tyX7_ok, nmX7⟩
theorem Cok_8 : Cok 8 RX8 TX8 5 := ⟨rfl, fun w hw => ts_in ((by decide +kernel : ∀ w ∈ u_ws RX8 TX8 5, w ∈ lw_tbl) w hw) ((by decide +kernel : ∀ w ∈ u_ws RX8 TX8 5, goodWord w = true) w hw), tyX8, tyX8_ok, nmX8⟩
theorem Cok_9 : Cok 9 RX9 TX9 12 := ⟨rfl, fun w hw => ts_in ((by decide +kernel : ∀ w ∈ u_ws RX9 TX9 12, w ∈ lw_tbl) w hw) ((by decide +kernel : ∀ w ∈ u_ws RX9 TX9 12, goodWord w = true) w hw), tyX9, tyX9_ok, nmX9⟩
theorem Cok_10 : Cok 10 RX10 TX10 53 := ⟨rfl, fun w hw => ts_in ((by decide +kernel : ∀ w ∈ u_ws RX10 TX10 53, w ∈ lw_tbl) w hw) ((by decide +kernel : ∀ w ∈ u_ws RX10 TX10 53, goodWord w = true) w hw), tyX10, tyX10_ok, nmX10⟩
theorem Fl_X0_15 : Fl RX0 15 0 1 := Fl.of Cok_0 (by decide) (List.mem_of_getElem? (i := 150) (by decide +kernel))
theorem Fl_X0_18 : Fl RX0 18 0 2 := Fl.of Cok_0 (by decide) (List.mem_of_getElem? (i := 152) (by decide +kernel))
theorem Fl_X0_21 : Fl RX0 21 0 3 := Fl.of Cok_0 (by decide) (List.mem_of_getElem? (i := 154) (by decide +kernel))
theorem Fl_X0_24 : Fl RX0 24 0 4 := Fl.of Cok_0 (by decide) (List.mem_of_getElem? (i := 156) (by decide +kernel))
theorem Fp_X0_24 : Fp RX0 24 0 4 .int := Fp.of Cok_0 (by decide) (List.mem_of_getElem? (i := 156) (by decide +kernel)) rfl (by decide +kernel)
theorem Fl_X0_28 : Fl RX0 28 0 5 := Fl.of Cok_0 (by decide) (List.mem_of_getElem? (i := 159) (by decide +kernel))
theorem Fp_X0_28 : Fp RX0 28 0 5 .int := Fp.of Cok_0 (by decide) (List.mem_of_getElem? (i := 159) (by decide +kernel)) rfl (by decide +kernel)
theorem Fl_X0_9 : Fl RX0 9 0 0 := Fl.of Cok_0 (by decide) (List.mem_of_getElem? (i := 148) (by decide +kernel))
theorem Fl_X1_103 : Fl RX1 103 1 8 := Fl.of Cok_1 (by decide) (List.mem_of_getElem? (i := 210) (by decide +kernel))
theorem Fp_X1_103 : Fp RX1 103 1 8 .long := Fp.of Cok_1 (by decide) (List.mem_of_getElem? (i := 210) (by decide +kernel)) rfl (by decide +kernel)
theorem Fl_X1_107 : Fl RX1 107 1 9 := Fl.of Cok_1 (by decide) (List.mem_of_getElem? (i := 212) (by decide +kernel))
theorem Fp_X1_107 : Fp RX1 107 1 9 .long := Fp.of Cok_1 (by decide) (List.mem_of_getElem? (i := 212) (by decide +kernel)) rfl (by decide +kernel)
theorem Fl_X1_134 : Fl RX1 134 1 10 := Fl.of Cok_1 (by decide) (List.mem_of_getElem? (i := 213) (by decide +kernel))
theorem Fp_X1_134 : Fp RX1 134 1 10 .long := Fp.of Cok_1 (by decide) (List.mem_of_getElem? (i := 213) (by decide +kernel)) rfl (by decide +kernel)
theorem Fl_X1_15 : Fl RX1 15 1 1 := Fl.of Cok_1 (by decide) (List.mem_of_getElem? (i := 198) (by decide +kernel))
theorem Fl_X1_18 : Fl RX1 18 1 2 := Fl.of Cok_1 (by decide) (List.mem_of_getElem? (i := 200) (by decide +kernel))
theorem Fl_X1_21 : Fl RX1 21 1 3 := Fl.of Cok_1 (by decide) (List.mem_of_getElem? (i := 202) (by decide +kernel))
theorem Fl_X1_24 : Fl RX1 24 1 4 := Fl.of Cok_1 (by decide) (List.mem_of_getElem? (i := 203) (by decide +kernel))
theorem Fl_X1_27 : Fl RX1 27 1 5 := Fl.of Cok_1 (by decide) (List.mem_of_getElem? (i := 205) (by decide +kernel))
theorem Fl_X1_30 : Fl RX1 30 1 6 := Fl.of Cok_1 (by decide) (List.mem_of_getElem? (i := 206) (by decide +kernel))
theorem Fl_X1_33 : Fl RX1 33 1 7 := Fl.of Cok_1 (by decide) (List.mem_of_getElem? (i := 208) (by decide +kernel))
theorem Fl_X1_9 : Fl RX1 9 1 0 := Fl.of Cok_1 (by decide) (List.mem_of_getElem? (i := 196) (by decide +kernel))
theorem Fl_X2_15 : Fl RX2 15 2 1 := Fl.of Cok_2 (by decide) (List.mem_of_getElem? (i := 341) (by decide +kernel))
theorem Fp_X2_15 : Fp RX2 15 2 1 (.object "MillFarmers$Terms") := Fp.of Cok_2 (by decide) (List.mem_of_getElem? (i := 341) (by decide +kernel)) rfl (by decide +kernel)
theorem Fl_X2_24 : Fl RX2 24 2 4 := Fl.of Cok_2 (by decide) (List.mem_of_getElem? (i := 344) (by decide +kernel))
theorem Fp_X2_24 : Fp RX2 24 2 4 .int := Fp.of Cok_2 (by decide) (List.mem_of_getElem? (i := 344) (by decide +kernel)) rfl (by decide +kernel)
theorem Fl_X2_31 : Fl RX2 31 2 2 := Fl.of Cok_2 (by decide) (List.mem_of_getElem? (i := 342) (by decide +kernel))
theorem Fp_X2_31 : Fp RX2 31 2 2 .int := Fp.of Cok_2 (by decide) (List.mem_of_getElem? (i := 342) (by decide +kernel)) rfl (by decide +kernel)
theorem Fl_X2_38 : Fl RX2 38 2 3 := Fl.of Cok_2 (by decide) (List.mem_of_getElem? (i := 343) (by decide +kernel))
theorem Fp_X2_38 : Fp RX2 38 2 3 .int := Fp.of Cok_2 (by decide) (List.mem_of_getElem? (i := 343) (by decide +kernel)) rfl (by decide +kernel)
theorem Fl_X2_9 : Fl RX2 9 2 0 := Fl.of Cok_2 (by decide) (List.mem_of_getElem? (i := 340) (by decide +kernel))
theorem Fl_X3_15 : Fl RX3 15 3 1 := Fl.of Cok_3 (by decide) (List.mem_of_getElem? (i := 126) (by decide +kernel))
theorem Fl_X3_18 : Fl RX3 18 3 2 := Fl.of Cok_3 (by decide) (List.mem_of_getElem? (i := 128) (by decide +kernel))
theorem Fl_X3_21 : Fl RX3 21 3 3 := Fl.of Cok_3 (by decide) (List.mem_of_getElem? (i := 130) (by decide +kernel))
theorem Fp_X3_21 : Fp RX3 21 3 3 .int := Fp.of Cok_3 (by decide) (List.mem_of_getElem? (i := 130) (by decide +kernel)) rfl (by decide +kernel)
theorem Fl_X3_9 : Fl RX3 9 3 0 := Fl.of Cok_3 (by decide) (List.mem_of_getElem? (i := 124) (by decide +kernel))
theorem Fl_X4_15 : Fl RX4 15 4 1 := Fl.of Cok_4 (by decide) (List.mem_of_getElem? (i := 100) (by decide +kernel))
theorem Fl_X4_18 : Fl RX4 18 4 2 := Fl.of Cok_4 (by decide) (List.mem_of_getElem? (i := 102) (by decide +kernel))
theorem Fl_X4_21 : Fl RX4 21 4 3 := Fl.of Cok_4 (by decide) (List.mem_of_getElem? (i := 105) (by decide +kernel))
theorem Fp_X4_21 : Fp RX4 21 4 3 .int := Fp.of Cok_4 (by decide) (List.mem_of_getElem? (i := 105) (by decide +kernel)) rfl (by decide +kernel)
theorem Fl_X4_9 : Fl RX4 9 4 0 := Fl.of Cok_4 (by decide) (List.mem_of_getElem? (i := 97) (by decide +kernel))
theorem Fl_X5_15 : Fl RX5 15 5 1 := Fl.of Cok_5 (by decide) (List.mem_of_getElem? (i := 246) (by decide +kernel))
theorem Fl_X5_18 : Fl RX5 18 5 2 := Fl.of Cok_5 (by decide) (List.mem_of_getElem? (i := 247) (by decide +kernel))
theorem Fl_X5_21 : Fl RX5 21 5 3 := Fl.of Cok_5 (by decide) (List.mem_of_getElem? (i := 248) (by decide +kernel))
theorem Fp_X5_21 : Fp RX5 21 5 3 .int := Fp.of Cok_5 (by decide) (List.mem_of_getElem? (i := 248) (by decide +kernel)) rfl (by decide +kernel)
theorem Fl_X5_25 : Fl RX5 25 5 4 := Fl.of Cok_5 (by decide) (List.mem_of_getElem? (i := 250) (by decide +kernel))
theorem Fp_X5_25 : Fp RX5 25 5 4 .int := Fp.of Cok_5 (by decide) (List.mem_of_getElem? (i := 250) (by decide +kernel)) rfl (by decide +kernel)
theorem Fl_X5_9 : Fl RX5 9 5 0 := Fl.of Cok_5 (by decide) (List.mem_of_getElem? (i := 245) (by decide +kernel))
theorem Fl_X6_15 : Fl RX6 15 6 1 := Fl.of Cok_6 (by decide) (List.mem_of_getElem? (i := 270) (by decide +kernel))
theorem Fl_X6_18 : Fl RX6 18 6 2 := Fl.of Cok_6 (by decide) (List.mem_of_getElem? (i := 271) (by decide +kernel))
theorem Fl_X6_21 : Fl RX6 21 6 3 := Fl.of Cok_6 (by decide) (List.mem_of_getElem? (i := 272) (by decide +kernel))
theorem Fl_X6_24 : Fl RX6 24 6 4 := Fl.of Cok_6 (by decide) (List.mem_of_getElem? (i := 273) (by decide +kernel))
theorem Fp_X6_24 : Fp RX6 24 6 4 .int := Fp.of Cok_6 (by decide) (List.mem_of_getElem? (i := 273) (by decide +kernel)) rfl (by decide +kernel)
theorem Fl_X6_28 : Fl RX6 28 6 5 := Fl.of Cok_6 (by decide) (List.mem_of_getElem? (i := 275) (by decide +kernel))
theorem Fp_X6_28 : Fp RX6 28 6 5 .int := Fp.of Cok_6 (by decide) (List.mem_of_getElem? (i := 275) (by decide +kernel)) rfl (by decide +kernel)
theorem Fl_X6_31 : Fl RX6 31 6 6 := Fl.of Cok_6 (by decide) (List.mem_of_getElem? (i := 276) (by decide +kernel))
theorem Fp_X6_31 : Fp RX6 31 6 6 .int := Fp.of Cok_6 (by decide) (List.mem_of_getElem? (i := 276) (by decide +kernel)) rfl (by decide +kernel)
theorem Fl_X6_34 : Fl RX6 34 6 7 := Fl.of Cok_6 (by decide) (List.mem_of_getElem? (i := 277) (by decide +kernel))
theorem Fp_X6_34 : Fp RX6 34 6 7 .int := Fp.of Cok_6 (by decide) (List.mem_of_getElem? (i := 277) (by decide +kernel)) rfl (by decide +kernel)
theorem Fl_X6_9 : Fl RX6 9 6 0 := Fl.of Cok_6 (by decide) (List.mem_of_getElem? (i := 269) (by decide +kernel))
theorem Fl_X7_15 : Fl RX7 15 7 1 := Fl.of Cok_7 (by decide) (List.mem_of_getElem? (i := 182) (by decide +kernel))
theorem Fp_X7_15 : Fp RX7 15 7 1 .int := Fp.of Cok_7 (by decide) (List.mem_of_getElem? (i := 182) (by decide +kernel)) rfl (by decide +kernel)
theorem Fl_X7_9 : Fl RX7 9 7 0 := Fl.of Cok_7 (by decide) (List.mem_of_getElem? (i := 180) (by decide +kernel))
theorem Fl_X8_15 : Fl RX8 15 8 1 := Fl.of Cok_8 (by decide) (List.mem_of_getElem? (i := 315) (by decide +kernel))
theorem Fl_X8_18 : Fl RX8 18 8 2 := Fl.of Cok_8 (by decide) (List.mem_of_getElem? (i := 316) (by decide +kernel))
theorem Fl_X8_34 : Fl RX8 34 8 3 := Fl.of Cok_8 (by decide) (List.mem_of_getElem? (i := 317) (by decide +kernel))
theorem Fp_X8_34 : Fp RX8 34 8 3 .int := Fp.of Cok_8 (by decide) (List.mem_of_getElem? (i := 317) (by decide +kernel)) rfl (by decide +kernel)
theorem Fl_X8_38 : Fl RX8 38 8 4 := Fl.of Cok_8 (by decide) (List.mem_of_getElem? (i := 320) (by decide +kernel))
theorem Fp_X8_38 : Fp RX8 38 8 4 .int := Fp.of Cok_8 (by decide) (List.mem_of_getElem? (i := 320) (by decide +kernel)) rfl (by decide +kernel)
theorem Fl_X8_9 : Fl RX8 9 8 0 := Fl.of Cok_8 (by decide) (List.mem_of_getElem? (i := 312) (by decide +kernel))
theorem Fl_X9_10 : Fl RX9 10 9 0 := Fl.of Cok_9 (by decide) (List.mem_of_getElem? (i := 356) (by decide +kernel))
theorem Fl_X9_19 : Fl RX9 19 9 1 := Fl.of Cok_9 (by decide) (List.mem_of_getElem? (i := 357) (by decide +kernel))
theorem Fl_X9_26 : Fl RX9 26 9 2 := Fl.of Cok_9 (by decide) (List.mem_of_getElem? (i := 358) (by decide +kernel))
theorem Fl_X9_33 : Fl RX9 33 9 3 := Fl.of Cok_9 (by decide) (List.mem_of_getElem? (i := 359) (by decide +kernel))
theorem Fl_X9_40 : Fl RX9 40 9 5 := Fl.of Cok_9 (by decide) (List.mem_of_getElem? (i := 361) (by decide +kernel))
theorem Fl_X9_47 : Fl RX9 47 9 6 := Fl.of Cok_9 (by decide) (List.mem_of_getElem? (i := 362) (by decide +kernel))
theorem Fl_X9_54 : Fl RX9 54 9 7 := Fl.of Cok_9 (by decide) (List.mem_of_getElem? (i := 363) (by decide +kernel))
theorem Fl_X9_61 : Fl RX9 61 9 8 := Fl.of Cok_9 (by decide) (List.mem_of_getElem? (i := 364) (by decide +kernel))
theorem Fp_X9_61 : Fp RX9 61 9 8 (.object "MillFarmers$Terms") := Fp.of Cok_9 (by decide) (List.mem_of_getElem? (i := 364) (by decide +kernel)) rfl (by decide +kernel)
theorem Fl_X9_65 : Fl RX9 65 9 9 := Fl.of Cok_9 (by decide) (List.mem_of_getElem? (i := 365) (by decide +kernel))
theorem Fp_X9_65 : Fp RX9 65 9 9 (.object "MillFarmers$Terms") := Fp.of Cok_9 (by decide) (List.mem_of_getElem? (i := 365) (by decide +kernel)) rfl (by decide +kernel)
theorem Fl_X9_73 : Fl RX9 73 9 4 := Fl.of Cok_9 (by decide) (List.mem_of_getElem? (i := 360) (by decide +kernel))
theorem Fl_X9_77 : Fl RX9 77 9 10 := Fl.of Cok_9 (by decide) (List.mem_of_getElem? (i := 366) (by decide +kernel))
theorem Fp_X9_77 : Fp RX9 77 9 10 .int := Fp.of Cok_9 (by decide) (List.mem_of_getElem? (i := 366) (by decide +kernel)) rfl (by decide +kernel)
theorem Fl_X9_81 : Fl RX9 81 9 11 := Fl.of Cok_9 (by decide) (List.mem_of_getElem? (i := 367) (by decide +kernel))
theorem Fp_X9_81 : Fp RX9 81 9 11 .int := Fp.of Cok_9 (by decide) (List.mem_of_getElem? (i := 367) (by decide +kernel)) rfl (by decide +kernel)
theorem Fl_X10_102 : Fl RX10 102 10 46 := Fl.of Cok_10 (by decide) (List.mem_of_getElem? (i := 780) (by decide +kernel))
theorem Fl_X10_105 : Fl RX10 105 10 48 := Fl.of Cok_10 (by decide) (List.mem_of_getElem? (i := 782) (by decide +kernel))
theorem Fl_X10_108 : Fl RX10 108 10 49 := Fl.of Cok_10 (by decide) (List.mem_of_getElem? (i := 783) (by decide +kernel))
theorem Fl_X10_111 : Fl RX10 111 10 51 := Fl.of Cok_10 (by decide) (List.mem_of_getElem? (i := 785) (by decide +kernel))
theorem Fl_X10_114 : Fl RX10 114 10 52 := Fl.of Cok_10 (by decide) (List.mem_of_getElem? (i := 786) (by decide +kernel))
theorem Fl_X10_117 : Fl RX10 117 10 0 := Fl.of Cok_10 (by decide) (List.mem_of_getElem? (i := 734) (by decide +kernel))
theorem Fp_X10_117 : Fp RX10 117 10 0 .int := Fp.of Cok_10 (by decide) (List.mem_of_getElem? (i := 734) (by decide +kernel)) rfl (by decide +kernel)
theorem Fl_X10_120 : Fl RX10 120 10 1 := Fl.of Cok_10 (by decide) (List.mem_of_getElem? (i := 735) (by decide +kernel))
theorem Fp_X10_120 : Fp RX10 120 10 1 .int := Fp.of Cok_10 (by decide) (List.mem_of_getElem? (i := 735) (by decide +kernel)) rfl (by decide +kernel)
theorem Fl_X10_129 : Fl RX10 129 10 2 := Fl.of Cok_10 (by decide) (List.mem_of_getElem? (i := 736) (by decide +kernel))
theorem Fp_X10_129 : Fp RX10 129 10 2 .int := Fp.of Cok_10 (by decide) (List.mem_of_getElem? (i := 736) (by decide +kernel)) rfl (by decide +kernel)
theorem Fl_X10_13 : Fl RX10 13 10 4 := Fl.of Cok_10 (by decide) (List.mem_of_getElem? (i := 738) (by decide +kernel))
theorem Fl_X10_151 : Fl RX10 151 10 6 := Fl.of Cok_10 (by decide) (List.mem_of_getElem? (i := 740) (by decide +kernel))
theorem Fp_X10_151 : Fp RX10 151 10 6 .int := Fp.of Cok_10 (by decide) (List.mem_of_getElem? (i := 740) (by decide +kernel)) rfl (by decide +kernel)
theorem Fl_X10_156 : Fl RX10 156 10 10 := Fl.of Cok_10 (by decide) (List.mem_of_getElem? (i := 744) (by decide +kernel))
theorem Fp_X10_156 : Fp RX10 156 10 10 .int := Fp.of Cok_10 (by decide) (List.mem_of_getElem? (i := 744) (by decide +kernel)) rfl (by decide +kernel)
theorem Fl_X10_159 : Fl RX10 159 10 26 := Fl.of Cok_10 (by decide) (List.mem_of_getElem? (i := 760) (by decide +kernel))
theorem Fp_X10_159 : Fp RX10 159 10 26 .int := Fp.of Cok_10 (by decide) (List.mem_of_getElem? (i := 760) (by decide +kernel)) rfl (by decide +kernel)
theorem Fl_X10_16 : Fl RX10 16 10 5 := Fl.of Cok_10 (by decide) (List.mem_of_getElem? (i := 739) (by decide +kernel))
theorem Fl_X10_166 : Fl RX10 166 10 28 := Fl.of Cok_10 (by decide) (List.mem_of_getElem? (i := 762) (by decide +kernel))
theorem Fp_X10_166 : Fp RX10 166 10 28 .int := Fp.of Cok_10 (by decide) (List.mem_of_getElem? (i := 762) (by decide +kernel)) rfl (by decide +kernel)
theorem Fl_X10_169 : Fl RX10 169 10 27 := Fl.of Cok_10 (by decide) (List.mem_of_getElem? (i := 761) (by decide +kernel))
theorem Fp_X10_169 : Fp RX10 169 10 27 .int := Fp.of Cok_10 (by decide) (List.mem_of_getElem? (i := 761) (by decide +kernel)) rfl (by decide +kernel)
theorem Fl_X10_172 : Fl RX10 172 10 30 := Fl.of Cok_10 (by decide) (List.mem_of_getElem? (i := 764) (by decide +kernel))
theorem Fp_X10_172 : Fp RX10 172 10 30 .long := Fp.of Cok_10 (by decide) (List.mem_of_getElem? (i := 764) (by decide +kernel)) rfl (by decide +kernel)
theorem Fl_X10_182 : Fl RX10 182 10 29 := Fl.of Cok_10 (by decide) (List.mem_of_getElem? (i := 763) (by decide +kernel))
theorem Fp_X10_182 : Fp RX10 182 10 29 .int := Fp.of Cok_10 (by decide) (List.mem_of_getElem? (i := 763) (by decide +kernel)) rfl (by decide +kernel)
theorem Fl_X10_19 : Fl RX10 19 10 7 := Fl.of Cok_10 (by decide) (List.mem_of_getElem? (i := 741) (by decide +kernel))
theorem Fl_X10_197 : Fl RX10 197 10 32 := Fl.of Cok_10 (by decide) (List.mem_of_getElem? (i := 766) (by decide +kernel))
theorem Fp_X10_197 : Fp RX10 197 10 32 .boolean := Fp.of Cok_10 (by decide) (List.mem_of_getElem? (i := 766) (by decide +kernel)) rfl (by decide +kernel)
theorem Fl_X10_216 : Fl RX10 216 10 20 := Fl.of Cok_10 (by decide) (List.mem_of_getElem? (i := 754) (by decide +kernel))
theorem Fp_X10_216 : Fp RX10 216 10 20 .int := Fp.of Cok_10 (by decide) (List.mem_of_getElem? (i := 754) (by decide +kernel)) rfl (by decide +kernel)
theorem Fl_X10_22 : Fl RX10 22 10 8 := Fl.of Cok_10 (by decide) (List.mem_of_getElem? (i := 742) (by decide +kernel))
theorem Fl_X10_223 : Fl RX10 223 10 22 := Fl.of Cok_10 (by decide) (List.mem_of_getElem? (i := 756) (by decide +kernel))
theorem Fp_X10_223 : Fp RX10 223 10 22 .int := Fp.of Cok_10 (by decide) (List.mem_of_getElem? (i := 756) (by decide +kernel)) rfl (by decide +kernel)
theorem Fl_X10_231 : Fl RX10 231 10 15 := Fl.of Cok_10 (by decide) (List.mem_of_getElem? (i := 749) (by decide +kernel))
theorem Fp_X10_231 : Fp RX10 231 10 15 .int := Fp.of Cok_10 (by decide) (List.mem_of_getElem? (i := 749) (by decide +kernel)) rfl (by decide +kernel)
theorem Fl_X10_249 : Fl RX10 249 10 42 := Fl.of Cok_10 (by decide) (List.mem_of_getElem? (i := 776) (by decide +kernel))
theorem Fp_X10_249 : Fp RX10 249 10 42 .int := Fp.of Cok_10 (by decide) (List.mem_of_getElem? (i := 776) (by decide +kernel)) rfl (by decide +kernel)
theorem Fl_X10_25 : Fl RX10 25 10 9 := Fl.of Cok_10 (by decide) (List.mem_of_getElem? (i := 743) (by decide +kernel))
theorem Fl_X10_254 : Fl RX10 254 10 43 := Fl.of Cok_10 (by decide) (List.mem_of_getElem? (i := 777) (by decide +kernel))
theorem Fp_X10_254 : Fp RX10 254 10 43 .int := Fp.of Cok_10 (by decide) (List.mem_of_getElem? (i := 777) (by decide +kernel)) rfl (by decide +kernel)
theorem Fl_X10_268 : Fl RX10 268 10 47 := Fl.of Cok_10 (by decide) (List.mem_of_getElem? (i := 781) (by decide +kernel))
theorem Fp_X10_268 : Fp RX10 268 10 47 .int := Fp.of Cok_10 (by decide) (List.mem_of_getElem? (i := 781) (by decide +kernel)) rfl (by decide +kernel)
theorem Fl_X10_271 : Fl RX10 271 10 50 := Fl.of Cok_10 (by decide) (List.mem_of_getElem? (i := 784) (by decide +kernel))
theorem Fp_X10_271 : Fp RX10 271 10 50 .int := Fp.of Cok_10 (by decide) (List.mem_of_getElem? (i := 784) (by decide +kernel)) rfl (by decide +kernel)
theorem Fl_X10_28 : Fl RX10 28 10 11 := Fl.of Cok_10 (by decide) (List.mem_of_getElem? (i := 745) (by decide +kernel))
theorem Fl_X10_31 : Fl RX10 31 10 12 := Fl.of Cok_10 (by decide) (List.mem_of_getElem? (i := 746) (by decide +kernel))
theorem Fl_X10_34 : Fl RX10 34 10 13 := Fl.of Cok_10 (by decide) (List.mem_of_getElem? (i := 747) (by decide +kernel))
theorem Fl_X10_37 : Fl RX10 37 10 14 := Fl.of Cok_10 (by decide) (List.mem_of_getElem? (i := 748) (by decide +kernel))
theorem Fl_X10_40 : Fl RX10 40 10 16 := Fl.of Cok_10 (by decide) (List.mem_of_getElem? (i := 750) (by decide +kernel))
theorem Fl_X10_43 : Fl RX10 43 10 17 := Fl.of Cok_10 (by decide) (List.mem_of_getElem? (i := 751) (by decide +kernel))
theorem Fp_X10_43 : Fp RX10 43 10 17 .int := Fp.of Cok_10 (by decide) (List.mem_of_getElem? (i := 751) (by decide +kernel)) rfl (by decide +kernel)
theorem Fl_X10_47 : Fl RX10 47 10 18 := Fl.of Cok_10 (by decide) (List.mem_of_getElem? (i := 752) (by decide +kernel))
theorem Fl_X10_50 : Fl RX10 50 10 19 := Fl.of Cok_10 (by decide) (List.mem_of_getElem? (i := 753) (by decide +kernel))
theorem Fl_X10_53 : Fl RX10 53 10 21 := Fl.of Cok_10 (by decide) (List.mem_of_getElem? (i := 755) (by decide +kernel))
theorem Fl_X10_56 : Fl RX10 56 10 23 := Fl.of Cok_10 (by decide) (List.mem_of_getElem? (i := 757) (by decide +kernel))
theorem Fl_X10_59 : Fl RX10 59 10 24 := Fl.of Cok_10 (by decide) (List.mem_of_getElem? (i := 758) (by decide +kernel))
theorem Fl_X10_62 : Fl RX10 62 10 25 := Fl.of Cok_10 (by decide) (List.mem_of_getElem? (i := 759) (by decide +kernel))
theorem Fl_X10_65 : Fl RX10 65 10 31 := Fl.of Cok_10 (by decide) (List.mem_of_getElem? (i := 765) (by decide +kernel))
theorem Fp_X10_65 : Fp RX10 65 10 31 .int := Fp.of Cok_10 (by decide) (List.mem_of_getElem? (i := 765) (by decide +kernel)) rfl (by decide +kernel)
theorem Fl_X10_68 : Fl RX10 68 10 33 := Fl.of Cok_10 (by decide) (List.mem_of_getElem? (i := 767) (by decide +kernel))
theorem Fl_X10_7 : Fl RX10 7 10 3 := Fl.of Cok_10 (by decide) (List.mem_of_getElem? (i := 737) (by decide +kernel))
theorem Fl_X10_72 : Fl RX10 72 10 34 := Fl.of Cok_10 (by decide) (List.mem_of_getElem? (i := 768) (by decide +kernel))
theorem Fl_X10_75 : Fl RX10 75 10 35 := Fl.of Cok_10 (by decide) (List.mem_of_getElem? (i := 769) (by decide +kernel))
theorem Fl_X10_78 : Fl RX10 78 10 36 := Fl.of Cok_10 (by decide) (List.mem_of_getElem? (i := 770) (by decide +kernel))
theorem Fl_X10_81 : Fl RX10 81 10 37 := Fl.of Cok_10 (by decide) (List.mem_of_getElem? (i := 771) (by decide +kernel))
theorem Fl_X10_84 : Fl RX10 84 10 38 := Fl.of Cok_10 (by decide) (List.mem_of_getElem? (i := 772) (by decide +kernel))
theorem Fl_X10_87 : Fl RX10 87 10 39 := Fl.of Cok_10 (by decide) (List.mem_of_getElem? (i := 773) (by decide +kernel))
theorem Fl_X10_90 : Fl RX10 90 10 40 := Fl.of Cok_10 (by decide) (List.mem_of_getElem? (i := 774) (by decide +kernel))
theorem Fl_X10_93 : Fl RX10 93 10 41 := Fl.of Cok_10 (by decide) (List.mem_of_getElem? (i := 775) (by decide +kernel))
theorem Fl_X10_96 : Fl RX10 96 10 44 := Fl.of Cok_10 (by decide) (List.mem_of_getElem? (i := 778) (by decide +kernel))
theorem Fl_X10_99 : Fl RX10 99 10 45 := Fl.of Cok_10 (by decide) (List.mem_of_getElem? (i := 779) (by decide +kernel))
theorem Fl_X1_100 : Fl RX1 100 0 2 := Fl.ofN (host := "MillFarmers") Cok_0 (by decide) (List.mem_of_getElem? (i := 153) (by decide +kernel))
theorem Fl_X1_110 : Fl RX1 110 4 0 := Fl.ofN (host := "MillFarmers") Cok_4 (by decide) (List.mem_of_getElem? (i := 98) (by decide +kernel))
theorem Fl_X1_50 : Fl RX1 50 4 3 := Fl.ofN (host := "MillFarmers") Cok_4 (by decide) (List.mem_of_getElem? (i := 107) (by decide +kernel))
theorem Fp_X1_50 : Fp RX1 50 4 3 .int := Fp.ofN (host := "MillFarmers") Cok_4 (by decide) (List.mem_of_getElem? (i := 107) (by decide +kernel)) rfl (by decide +kernel)
theorem Fl_X1_68 : Fl RX1 68 3 3 := Fl.ofN (host := "MillFarmers") Cok_3 (by decide) (List.mem_of_getElem? (i := 131) (by decide +kernel))
theorem Fp_X1_68 : Fp RX1 68 3 3 .int := Fp.ofN (host := "MillFarmers") Cok_3 (by decide) (List.mem_of_getElem? (i := 131) (by decide +kernel)) rfl (by decide +kernel)
theorem Fl_X1_71 : Fl RX1 71 3 2 := Fl.ofN (host := "MillFarmers") Cok_3 (by decide) (List.mem_of_getElem? (i := 129) (by decide +kernel))
theorem Fl_X1_75 : Fl RX1 75 3 0 := Fl.ofN (host := "MillFarmers") Cok_3 (by decide) (List.mem_of_getElem? (i := 125) (by decide +kernel))
theorem Fl_X1_78 : Fl RX1 78 3 1 := Fl.ofN (host := "MillFarmers") Cok_3 (by decide) (List.mem_of_getElem? (i := 127) (by decide +kernel))
theorem Fl_X1_81 : Fl RX1 81 0 4 := Fl.ofN (host := "MillFarmers") Cok_0 (by decide) (List.mem_of_getElem? (i := 157) (by decide +kernel))
theorem Fp_X1_81 : Fp RX1 81 0 4 .int := Fp.ofN (host := "MillFarmers") Cok_0 (by decide) (List.mem_of_getElem? (i := 157) (by decide +kernel)) rfl (by decide +kernel)
theorem Fl_X1_84 : Fl RX1 84 0 3 := Fl.ofN (host := "MillFarmers") Cok_0 (by decide) (List.mem_of_getElem? (i := 155) (by decide +kernel))
theorem Fl_X1_85 : Fl RX1 85 0 0 := Fl.ofN (host := "MillFarmers") Cok_0 (by decide) (List.mem_of_getElem? (i := 149) (by decide +kernel))
theorem Fl_X1_86 : Fl RX1 86 0 1 := Fl.ofN (host := "MillFarmers") Cok_0 (by decide) (List.mem_of_getElem? (i := 151) (by decide +kernel))
theorem Fl_X1_88 : Fl RX1 88 8 3 := Fl.ofN (host := "MillFarmers") Cok_8 (by decide) (List.mem_of_getElem? (i := 318) (by decide +kernel))
theorem Fp_X1_88 : Fp RX1 88 8 3 .int := Fp.ofN (host := "MillFarmers") Cok_8 (by decide) (List.mem_of_getElem? (i := 318) (by decide +kernel)) rfl (by decide +kernel)
theorem Fl_X1_91 : Fl RX1 91 4 2 := Fl.ofN (host := "MillFarmers") Cok_4 (by decide) (List.mem_of_getElem? (i := 103) (by decide +kernel))
theorem Fl_X1_97 : Fl RX1 97 8 0 := Fl.ofN (host := "MillFarmers") Cok_8 (by decide) (List.mem_of_getElem? (i := 314) (by decide +kernel))
theorem Fl_X2_103 : Fl RX2 103 7 0 := Fl.ofN (host := "MillFarmers") Cok_7 (by decide) (List.mem_of_getElem? (i := 181) (by decide +kernel))
theorem Fl_X2_41 : Fl RX2 41 8 4 := Fl.ofN (host := "MillFarmers") Cok_8 (by decide) (List.mem_of_getElem? (i := 321) (by decide +kernel))
theorem Fp_X2_41 : Fp RX2 41 8 4 .int := Fp.ofN (host := "MillFarmers") Cok_8 (by decide) (List.mem_of_getElem? (i := 321) (by decide +kernel)) rfl (by decide +kernel)
theorem Fl_X2_81 : Fl RX2 81 8 0 := Fl.ofN (host := "MillFarmers") Cok_8 (by decide) (List.mem_of_getElem? (i := 313) (by decide +kernel))
theorem Fl_X2_84 : Fl RX2 84 8 3 := Fl.ofN (host := "MillFarmers") Cok_8 (by decide) (List.mem_of_getElem? (i := 319) (by decide +kernel))
theorem Fp_X2_84 : Fp RX2 84 8 3 .int := Fp.ofN (host := "MillFarmers") Cok_8 (by decide) (List.mem_of_getElem? (i := 319) (by decide +kernel)) rfl (by decide +kernel)
theorem Fl_X2_98 : Fl RX2 98 7 1 := Fl.ofN (host := "MillFarmers") Cok_7 (by decide) (List.mem_of_getElem? (i := 184) (by decide +kernel))
theorem Fp_X2_98 : Fp RX2 98 7 1 .int := Fp.ofN (host := "MillFarmers") Cok_7 (by decide) (List.mem_of_getElem? (i := 184) (by decide +kernel)) rfl (by decide +kernel)
theorem Fl_X9_107 : Fl RX9 107 3 3 := Fl.ofN (host := "MillFarmers") Cok_3 (by decide) (List.mem_of_getElem? (i := 132) (by decide +kernel))
theorem Fp_X9_107 : Fp RX9 107 3 3 .int := Fp.ofN (host := "MillFarmers") Cok_3 (by decide) (List.mem_of_getElem? (i := 132) (by decide +kernel)) rfl (by decide +kernel)
theorem Fl_X9_109 : Fl RX9 109 0 4 := Fl.ofN (host := "MillFarmers") Cok_0 (by decide) (List.mem_of_getElem? (i := 158) (by decide +kernel))
theorem Fp_X9_109 : Fp RX9 109 0 4 .int := Fp.ofN (host := "MillFarmers") Cok_0 (by decide) (List.mem_of_getElem? (i := 158) (by decide +kernel)) rfl (by decide +kernel)
theorem Fl_X9_113 : Fl RX9 113 7 1 := Fl.ofN (host := "MillFarmers") Cok_7 (by decide) (List.mem_of_getElem? (i := 183) (by decide +kernel))
theorem Fp_X9_113 : Fp RX9 113 7 1 .int := Fp.ofN (host := "MillFarmers") Cok_7 (by decide) (List.mem_of_getElem? (i := 183) (by decide +kernel)) rfl (by decide +kernel)
theorem Fl_X9_124 : Fl RX9 124 8 4 := Fl.ofN (host := "MillFarmers") Cok_8 (by decide) (List.mem_of_getElem? (i := 322) (by decide +kernel))
theorem Fp_X9_124 : Fp RX9 124 8 4 .int := Fp.ofN (host := "MillFarmers") Cok_8 (by decide) (List.mem_of_getElem? (i := 322) (by decide +kernel)) rfl (by decide +kernel)
theorem Fl_X9_133 : Fl RX9 133 4 0 := Fl.ofN (host := "MillFarmers") Cok_4 (by decide) (List.mem_of_getElem? (i := 99) (by decide +kernel))
theorem Fl_X9_141 : Fl RX9 141 1 0 := Fl.ofN (host := "MillFarmers") Cok_1 (by decide) (List.mem_of_getElem? (i := 197) (by decide +kernel))
theorem Fl_X9_145 : Fl RX9 145 1 1 := Fl.ofN (host := "MillFarmers") Cok_1 (by decide) (List.mem_of_getElem? (i := 199) (by decide +kernel))
theorem Fl_X9_148 : Fl RX9 148 1 2 := Fl.ofN (host := "MillFarmers") Cok_1 (by decide) (List.mem_of_getElem? (i := 201) (by decide +kernel))
theorem Fl_X9_151 : Fl RX9 151 1 4 := Fl.ofN (host := "MillFarmers") Cok_1 (by decide) (List.mem_of_getElem? (i := 204) (by decide +kernel))
theorem Fl_X9_161 : Fl RX9 161 1 6 := Fl.ofN (host := "MillFarmers") Cok_1 (by decide) (List.mem_of_getElem? (i := 207) (by decide +kernel))
theorem Fl_X9_164 : Fl RX9 164 1 7 := Fl.ofN (host := "MillFarmers") Cok_1 (by decide) (List.mem_of_getElem? (i := 209) (by decide +kernel))
theorem Fl_X9_176 : Fl RX9 176 1 8 := Fl.ofN (host := "MillFarmers") Cok_1 (by decide) (List.mem_of_getElem? (i := 211) (by decide +kernel))
theorem Fp_X9_176 : Fp RX9 176 1 8 .long := Fp.ofN (host := "MillFarmers") Cok_1 (by decide) (List.mem_of_getElem? (i := 211) (by decide +kernel)) rfl (by decide +kernel)
theorem Fl_X9_180 : Fl RX9 180 1 10 := Fl.ofN (host := "MillFarmers") Cok_1 (by decide) (List.mem_of_getElem? (i := 214) (by decide +kernel))
theorem Fp_X9_180 : Fp RX9 180 1 10 .long := Fp.ofN (host := "MillFarmers") Cok_1 (by decide) (List.mem_of_getElem? (i := 214) (by decide +kernel)) rfl (by decide +kernel)
theorem Fl_X9_183 : Fl RX9 183 5 4 := Fl.ofN (host := "MillFarmers") Cok_5 (by decide) (List.mem_of_getElem? (i := 251) (by decide +kernel))
theorem Fp_X9_183 : Fp RX9 183 5 4 .int := Fp.ofN (host := "MillFarmers") Cok_5 (by decide) (List.mem_of_getElem? (i := 251) (by decide +kernel)) rfl (by decide +kernel)
theorem Fl_X9_186 : Fl RX9 186 5 3 := Fl.ofN (host := "MillFarmers") Cok_5 (by decide) (List.mem_of_getElem? (i := 249) (by decide +kernel))
theorem Fp_X9_186 : Fp RX9 186 5 3 .int := Fp.ofN (host := "MillFarmers") Cok_5 (by decide) (List.mem_of_getElem? (i := 249) (by decide +kernel)) rfl (by decide +kernel)
theorem Fl_X9_188 : Fl RX9 188 6 4 := Fl.ofN (host := "MillFarmers") Cok_6 (by decide) (List.mem_of_getElem? (i := 274) (by decide +kernel))
theorem Fp_X9_188 : Fp RX9 188 6 4 .int := Fp.ofN (host := "MillFarmers") Cok_6 (by decide) (List.mem_of_getElem? (i := 274) (by decide +kernel)) rfl (by decide +kernel)
theorem Fl_X9_189 : Fl RX9 189 4 1 := Fl.ofN (host := "MillFarmers") Cok_4 (by decide) (List.mem_of_getElem? (i := 101) (by decide +kernel))
theorem Fl_X9_210 : Fl RX9 210 0 5 := Fl.ofN (host := "MillFarmers") Cok_0 (by decide) (List.mem_of_getElem? (i := 160) (by decide +kernel))
theorem Fp_X9_210 : Fp RX9 210 0 5 .int := Fp.ofN (host := "MillFarmers") Cok_0 (by decide) (List.mem_of_getElem? (i := 160) (by decide +kernel)) rfl (by decide +kernel)
theorem Fl_X9_213 : Fl RX9 213 4 2 := Fl.ofN (host := "MillFarmers") Cok_4 (by decide) (List.mem_of_getElem? (i := 104) (by decide +kernel))
theorem Fl_X9_92 : Fl RX9 92 4 3 := Fl.ofN (host := "MillFarmers") Cok_4 (by decide) (List.mem_of_getElem? (i := 106) (by decide +kernel))
theorem Fp_X9_92 : Fp RX9 92 4 3 .int := Fp.ofN (host := "MillFarmers") Cok_4 (by decide) (List.mem_of_getElem? (i := 106) (by decide +kernel)) rfl (by decide +kernel)
abbrev mX0_add : MD := (yX0_add, cX0_add, 5, none, { frames := 0, cells := 0, slots := 0, locals := 0 })
theorem M_X0_add : Mv mX0_add 4 := ⟨⟨ts_in (List.mem_of_getElem? (i := 432) (by decide +kernel)) rfl, ts_in (List.mem_of_getElem? (i := 68) (by decide +kernel)) rfl, ⟨by decide +kernel, by decide +kernel⟩, by decide +kernel, rfl, rfl⟩, ts_in (List.mem_of_getElem? (i := 431) (by decide +kernel)) rfl, ts_in (List.mem_of_getElem? (i := 7) (by decide +kernel)) rfl⟩
abbrev mX0_ownerOf : MD := (yX0_ownerOf, cX0_ownerOf, 5, (some .int), { frames := 0, cells := 0, slots := 0, locals := 0 })
theorem M_X0_ownerOf : Mv mX0_ownerOf 2 := ⟨⟨ts_in (List.mem_of_getElem? (i := 719) (by decide +kernel)) rfl, ts_in (List.mem_of_getElem? (i := 68) (by decide +kernel)) rfl, ⟨by decide +kernel, by decide +kernel⟩, by decide +kernel, rfl, rfl⟩, ts_in (List.mem_of_getElem? (i := 718) (by decide +kernel)) rfl, ts_in (List.mem_of_getElem? (i := 44) (by decide +kernel)) rfl⟩
abbrev mX1_draw : MD := (yX1_draw, cX1_draw, 7, none, { frames := 2, cells := 0, slots := 0, locals := 55 })
theorem M_X1_draw : Mv mX1_draw 5 := ⟨⟨ts_in (List.mem_of_getElem? (i := 566) (by decide +kernel)) rfl, ts_in (List.mem_of_getElem? (i := 70) (by decide +kernel)) rfl, ⟨by decide +kernel, by decide +kernel⟩, by decide +kernel, rfl, rfl⟩, ts_in (List.mem_of_getElem? (i := 565) (by decide +kernel)) rfl, ts_in (List.mem_of_getElem? (i := 19) (by decide +kernel)) rfl⟩
abbrev mX1_addCredits : MD := (yX1_addCredits, cX1_addCredits, 4, none, { frames := 0, cells := 0, slots := 0, locals := 0 })
theorem M_X1_addCredits : Mv mX1_addCredits 2 := ⟨⟨ts_in (List.mem_of_getElem? (i := 573) (by decide +kernel)) rfl, ts_in (List.mem_of_getElem? (i := 70) (by decide +kernel)) rfl, ⟨by decide +kernel, by decide +kernel⟩, by decide +kernel, rfl, rfl⟩, ts_in (List.mem_of_getElem? (i := 572) (by decide +kernel)) rfl, ts_in (List.mem_of_getElem? (i := 20) (by decide +kernel)) rfl⟩
abbrev mX1_addBaskets : MD := (yX1_addBaskets, cX1_addBaskets, 13, none, { frames := 1, cells := 0, slots := 0, locals := 23 })
theorem M_X1_addBaskets : Mv mX1_addBaskets 4 := ⟨⟨ts_in (List.mem_of_getElem? (i := 577) (by decide +kernel)) rfl, ts_in (List.mem_of_getElem? (i := 70) (by decide +kernel)) rfl, ⟨by decide +kernel, by decide +kernel⟩, by decide +kernel, rfl, rfl⟩, ts_in (List.mem_of_getElem? (i := 576) (by decide +kernel)) rfl, ts_in (List.mem_of_getElem? (i := 21) (by decide +kernel)) rfl⟩
abbrev mX1_pay : MD := (yX1_pay, cX1_pay, 2, (some .long), { frames := 0, cells := 0, slots := 0, locals := 0 })
theorem M_X1_pay : Mv mX1_pay 1 := ⟨⟨ts_in (List.mem_of_getElem? (i := 595) (by decide +kernel)) rfl, ts_in (List.mem_of_getElem? (i := 70) (by decide +kernel)) rfl, ⟨by decide +kernel, by decide +kernel⟩, by decide +kernel, rfl, rfl⟩, ts_in (List.mem_of_getElem? (i := 594) (by decide +kernel)) rfl, ts_in (List.mem_of_getElem? (i := 24) (by decide +kernel)) rfl⟩
abbrev mX1_debt : MD := (yX1_debt, cX1_debt, 2, (some .long), { frames := 0, cells := 0, slots := 0, locals := 0 })
theorem M_X1_debt : Mv mX1_debt 1 := ⟨⟨ts_in (List.mem_of_getElem? (i := 599) (by decide +kernel)) rfl, ts_in (List.mem_of_getElem? (i := 70) (by decide +kernel)) rfl, ⟨by decide +kernel, by decide +kernel⟩, by decide +kernel, rfl, rfl⟩, ts_in (List.mem_of_getElem? (i := 598) (by decide +kernel)) rfl, ts_in (List.mem_of_getElem? (i := 25) (by decide +kernel)) rfl⟩
abbrev mX1_stand : MD := (yX1_stand, cX1_stand, 5, none, { frames := 4, cells := 0, slots := 0, locals := 100 })
theorem M_X1_stand : Mv mX1_stand 3 := ⟨⟨ts_in (List.mem_of_getElem? (i := 591) (by decide +kernel)) rfl, ts_in (List.mem_of_getElem? (i := 70) (by decide +kernel)) rfl, ⟨by decide +kernel, by decide +kernel⟩, by decide +kernel, rfl, rfl⟩, ts_in (List.mem_of_getElem? (i := 590) (by decide +kernel)) rfl, ts_in (List.mem_of_getElem? (i := 23) (by decide +kernel)) rfl⟩
abbrev mX1_giveEvenly : MD := (yX1_giveEvenly, cX1_giveEvenly, 7, none, { frames := 3, cells := 0, slots := 0, locals := 74 })
theorem M_X1_giveEvenly : Mv mX1_giveEvenly 1 := ⟨⟨ts_in (List.mem_of_getElem? (i := 603) (by decide +kernel)) rfl, ts_in (List.mem_of_getElem? (i := 70) (by decide +kernel)) rfl, ⟨by decide +kernel, by decide +kernel⟩, by decide +kernel, rfl, rfl⟩, ts_in (List.mem_of_getElem? (i := 602) (by decide +kernel)) rfl, ts_in (List.mem_of_getElem? (i := 26) (by decide +kernel)) rfl⟩
abbrev mX1_greatestLevel : MD := (yX1_greatestLevel, cX1_greatestLevel, 6, (some .long), { frames := 2, cells := 0, slots := 0, locals := 49 })
theorem M_X1_greatestLevel : Mv mX1_greatestLevel 1 := ⟨⟨ts_in (List.mem_of_getElem? (i := 610) (by decide +kernel)) rfl, ts_in (List.mem_of_getElem? (i := 70) (by decide +kernel)) rfl, ⟨by decide +kernel, by decide +kernel⟩, by decide +kernel, rfl, rfl⟩, ts_in (List.mem_of_getElem? (i := 609) (by decide +kernel)) rfl, ts_in (List.mem_of_getElem? (i := 27) (by decide +kernel)) rfl⟩
abbrev mX1_sumAtLevel : MD := (yX1_sumAtLevel, cX1_sumAtLevel, 7, (some .long), { frames := 1, cells := 0, slots := 0, locals := 23 })
theorem M_X1_sumAtLevel : Mv mX1_sumAtLevel 2 := ⟨⟨ts_in (List.mem_of_getElem? (i := 615) (by decide +kernel)) rfl, ts_in (List.mem_of_getElem? (i := 70) (by decide +kernel)) rfl, ⟨by decide +kernel, by decide +kernel⟩, by decide +kernel, rfl, rfl⟩, ts_in (List.mem_of_getElem? (i := 614) (by decide +kernel)) rfl, ts_in (List.mem_of_getElem? (i := 28) (by decide +kernel)) rfl⟩
abbrev mX1_payDebts : MD := (yX1_payDebts, cX1_payDebts, 6, none, { frames := 1, cells := 0, slots := 0, locals := 23 })
theorem M_X1_payDebts : Mv mX1_payDebts 2 := ⟨⟨ts_in (List.mem_of_getElem? (i := 619) (by decide +kernel)) rfl, ts_in (List.mem_of_getElem? (i := 70) (by decide +kernel)) rfl, ⟨by decide +kernel, by decide +kernel⟩, by decide +kernel, rfl, rfl⟩, ts_in (List.mem_of_getElem? (i := 618) (by decide +kernel)) rfl, ts_in (List.mem_of_getElem? (i := 29) (by decide +kernel)) rfl⟩
abbrev mX2_read : MD := (yX2_read, cX2_read, 3, (some .int), { frames := 7, cells := 0, slots := 0, locals := 150 })
theorem M_X2_read : Mv mX2_read 1 := ⟨⟨ts_in (List.mem_of_getElem? (i := 452) (by decide +kernel)) rfl, ts_in (List.mem_of_getElem? (i := 75) (by decide +kernel)) rfl, ⟨by decide +kernel, by decide +kernel⟩, by decide +kernel, rfl, rfl⟩, ts_in (List.mem_of_getElem? (i := 451) (by decide +kernel)) rfl, ts_in (List.mem_of_getElem? (i := 9) (by decide +kernel)) rfl⟩
abbrev mX2_readClause : MD := (yX2_readClause, cX2_readClause, 1, (some .boolean), { frames := 6, cells := 0, slots := 0, locals := 130 })
theorem M_X2_readClause : Mv mX2_readClause 0 := ⟨⟨ts_in (List.mem_of_getElem? (i := 465) (by decide +kernel)) rfl, ts_in (List.mem_of_getElem? (i := 75) (by decide +kernel)) rfl, ⟨by decide +kernel, by decide +kernel⟩, by decide +kernel, rfl, rfl⟩, ts_in (List.mem_of_getElem? (i := 464) (by decide +kernel)) rfl, ts_in (List.mem_of_getElem? (i := 12) (by decide +kernel)) rfl⟩
abbrev mX2_readPrice : MD := (yX2_readPrice, cX2_readPrice, 3, (some .boolean), { frames := 2, cells := 0, slots := 0, locals := 45 })
theorem M_X2_readPrice : Mv mX2_readPrice 0 := ⟨⟨ts_in (List.mem_of_getElem? (i := 522) (by decide +kernel)) rfl, ts_in (List.mem_of_getElem? (i := 75) (by decide +kernel)) rfl, ⟨by decide +kernel, by decide +kernel⟩, by decide +kernel, rfl, rfl⟩, ts_in (List.mem_of_getElem? (i := 521) (by decide +kernel)) rfl, ts_in (List.mem_of_getElem? (i := 14) (by decide +kernel)) rfl⟩
abbrev mX2_readQuota : MD := (yX2_readQuota, cX2_readQuota, 2, (some .boolean), { frames := 2, cells := 0, slots := 0, locals := 45 })
theorem M_X2_readQuota : Mv mX2_readQuota 0 := ⟨⟨ts_in (List.mem_of_getElem? (i := 535) (by decide +kernel)) rfl, ts_in (List.mem_of_getElem? (i := 75) (by decide +kernel)) rfl, ⟨by decide +kernel, by decide +kernel⟩, by decide +kernel, rfl, rfl⟩, ts_in (List.mem_of_getElem? (i := 534) (by decide +kernel)) rfl, ts_in (List.mem_of_getElem? (i := 16) (by decide +kernel)) rfl⟩
abbrev mX2_readShare : MD := (yX2_readShare, cX2_readShare, 4, (some .boolean), { frames := 5, cells := 0, slots := 0, locals := 107 })
theorem M_X2_readShare : Mv mX2_readShare 1 := ⟨⟨ts_in (List.mem_of_getElem? (i := 540) (by decide +kernel)) rfl, ts_in (List.mem_of_getElem? (i := 75) (by decide +kernel)) rfl, ⟨by decide +kernel, by decide +kernel⟩, by decide +kernel, rfl, rfl⟩, ts_in (List.mem_of_getElem? (i := 539) (by decide +kernel)) rfl, ts_in (List.mem_of_getElem? (i := 17) (by decide +kernel)) rfl⟩
abbrev mX2_next : MD := (yX2_next, cX2_next, 1, none, { frames := 1, cells := 0, slots := 0, locals := 22 })
theorem M_X2_next : Mv mX2_next 0 := ⟨⟨ts_in (List.mem_of_getElem? (i := 457) (by decide +kernel)) rfl, ts_in (List.mem_of_getElem? (i := 75) (by decide +kernel)) rfl, ⟨by decide +kernel, by decide +kernel⟩, by decide +kernel, rfl, rfl⟩, ts_in (List.mem_of_getElem? (i := 456) (by decide +kernel)) rfl, ts_in (List.mem_of_getElem? (i := 10) (by decide +kernel)) rfl⟩
abbrev mX2_kindAt : MD := (yX2_kindAt, cX2_kindAt, 3, (some .int), { frames := 0, cells := 0, slots := 0, locals := 0 })
theorem M_X2_kindAt : Mv mX2_kindAt 1 := ⟨⟨ts_in (List.mem_of_getElem? (i := 461) (by decide +kernel)) rfl, ts_in (List.mem_of_getElem? (i := 75) (by decide +kernel)) rfl, ⟨by decide +kernel, by decide +kernel⟩, by decide +kernel, rfl, rfl⟩, ts_in (List.mem_of_getElem? (i := 460) (by decide +kernel)) rfl, ts_in (List.mem_of_getElem? (i := 11) (by decide +kernel)) rfl⟩
abbrev mX2_isSemicolon : MD := (yX2_isSemicolon, cX2_isSemicolon, 1, (some .boolean), { frames := 0, cells := 0, slots := 0, locals := 0 })
theorem M_X2_isSemicolon : Mv mX2_isSemicolon 0 := ⟨⟨ts_in (List.mem_of_getElem? (i := 552) (by decide +kernel)) rfl, ts_in (List.mem_of_getElem? (i := 75) (by decide +kernel)) rfl, ⟨by decide +kernel, by decide +kernel⟩, by decide +kernel, rfl, rfl⟩, ts_in (List.mem_of_getElem? (i := 551) (by decide +kernel)) rfl, ts_in (List.mem_of_getElem? (i := 18) (by decide +kernel)) rfl⟩
abbrev mX2_isWord : MD := (yX2_isWord, cX2_isWord, 3, (some .boolean), { frames := 4, cells := 0, slots := 0, locals := 85 })
theorem M_X2_isWord : Mv mX2_isWord 1 := ⟨⟨ts_in (List.mem_of_getElem? (i := 470) (by decide +kernel)) rfl, ts_in (List.mem_of_getElem? (i := 75) (by decide +kernel)) rfl, ⟨by decide +kernel, by decide +kernel⟩, by decide +kernel, rfl, rfl⟩, ts_in (List.mem_of_getElem? (i := 469) (by decide +kernel)) rfl, ts_in (List.mem_of_getElem? (i := 13) (by decide +kernel)) rfl⟩
abbrev mX2_number : MD := (yX2_number, cX2_number, 3, (some .int), { frames := 1, cells := 0, slots := 0, locals := 23 })
theorem M_X2_number : Mv mX2_number 0 := ⟨⟨ts_in (List.mem_of_getElem? (i := 526) (by decide +kernel)) rfl, ts_in (List.mem_of_getElem? (i := 75) (by decide +kernel)) rfl, ⟨by decide +kernel, by decide +kernel⟩, by decide +kernel, rfl, rfl⟩, ts_in (List.mem_of_getElem? (i := 525) (by decide +kernel)) rfl, ts_in (List.mem_of_getElem? (i := 15) (by decide +kernel)) rfl⟩
abbrev mX3_add : MD := (yX3_add, cX3_add, 4, none, { frames := 0, cells := 0, slots := 0, locals := 0 })
theorem M_X3_add : Mv mX3_add 3 := ⟨⟨ts_in (List.mem_of_getElem? (i := 424) (by decide +kernel)) rfl, ts_in (List.mem_of_getElem? (i := 67) (by decide +kernel)) rfl, ⟨by decide +kernel, by decide +kernel⟩, by decide +kernel, rfl, rfl⟩, ts_in (List.mem_of_getElem? (i := 423) (by decide +kernel)) rfl, ts_in (List.mem_of_getElem? (i := 6) (by decide +kernel)) rfl⟩
abbrev mX4_add : MD := (yX4_add, cX4_add, 4, none, { frames := 0, cells := 0, slots := 0, locals := 0 })
theorem M_X4_add : Mv mX4_add 3 := ⟨⟨ts_in (List.mem_of_getElem? (i := 407) (by decide +kernel)) rfl, ts_in (List.mem_of_getElem? (i := 66) (by decide +kernel)) rfl, ⟨by decide +kernel, by decide +kernel⟩, by decide +kernel, rfl, rfl⟩, ts_in (List.mem_of_getElem? (i := 406) (by decide +kernel)) rfl, ts_in (List.mem_of_getElem? (i := 3) (by decide +kernel)) rfl⟩
abbrev mX4_howManyIn : MD := (yX4_howManyIn, cX4_howManyIn, 4, (some .int), { frames := 0, cells := 0, slots := 0, locals := 0 })
theorem M_X4_howManyIn : Mv mX4_howManyIn 1 := ⟨⟨ts_in (List.mem_of_getElem? (i := 647) (by decide +kernel)) rfl, ts_in (List.mem_of_getElem? (i := 66) (by decide +kernel)) rfl, ⟨by decide +kernel, by decide +kernel⟩, by decide +kernel, rfl, rfl⟩, ts_in (List.mem_of_getElem? (i := 646) (by decide +kernel)) rfl, ts_in (List.mem_of_getElem? (i := 34) (by decide +kernel)) rfl⟩
abbrev mX5_add : MD := (yX5_add, cX5_add, 4, none, { frames := 0, cells := 0, slots := 0, locals := 0 })
theorem M_X5_add : Mv mX5_add 3 := ⟨⟨ts_in (List.mem_of_getElem? (i := 659) (by decide +kernel)) rfl, ts_in (List.mem_of_getElem? (i := 71) (by decide +kernel)) rfl, ⟨by decide +kernel, by decide +kernel⟩, by decide +kernel, rfl, rfl⟩, ts_in (List.mem_of_getElem? (i := 658) (by decide +kernel)) rfl, ts_in (List.mem_of_getElem? (i := 35) (by decide +kernel)) rfl⟩
abbrev mX5_lostAt : MD := (yX5_lostAt, cX5_lostAt, 3, (some .int), { frames := 0, cells := 0, slots := 0, locals := 0 })
theorem M_X5_lostAt : Mv mX5_lostAt 1 := ⟨⟨ts_in (List.mem_of_getElem? (i := 633) (by decide +kernel)) rfl, ts_in (List.mem_of_getElem? (i := 71) (by decide +kernel)) rfl, ⟨by decide +kernel, by decide +kernel⟩, by decide +kernel, rfl, rfl⟩, ts_in (List.mem_of_getElem? (i := 632) (by decide +kernel)) rfl, ts_in (List.mem_of_getElem? (i := 32) (by decide +kernel)) rfl⟩
abbrev mX5_foretold : MD := (yX5_foretold, cX5_foretold, 3, (some .long), { frames := 1, cells := 0, slots := 0, locals := 22 })
theorem M_X5_foretold : Mv mX5_foretold 2 := ⟨⟨ts_in (List.mem_of_getElem? (i := 629) (by decide +kernel)) rfl, ts_in (List.mem_of_getElem? (i := 71) (by decide +kernel)) rfl, ⟨by decide +kernel, by decide +kernel⟩, by decide +kernel, rfl, rfl⟩, ts_in (List.mem_of_getElem? (i := 628) (by decide +kernel)) rfl, ts_in (List.mem_of_getElem? (i := 31) (by decide +kernel)) rfl⟩
abbrev mX6_add : MD := (yX6_add, cX6_add, 4, none, { frames := 0, cells := 0, slots := 0, locals := 0 })
theorem M_X6_add : Mv mX6_add 2 := ⟨⟨ts_in (List.mem_of_getElem? (i := 667) (by decide +kernel)) rfl, ts_in (List.mem_of_getElem? (i := 72) (by decide +kernel)) rfl, ⟨by decide +kernel, by decide +kernel⟩, by decide +kernel, rfl, rfl⟩, ts_in (List.mem_of_getElem? (i := 666) (by decide +kernel)) rfl, ts_in (List.mem_of_getElem? (i := 36) (by decide +kernel)) rfl⟩
abbrev mX6_walk : MD := (yX6_walk, cX6_walk, 4, none, { frames := 3, cells := 0, slots := 0, locals := 75 })
theorem M_X6_walk : Mv mX6_walk 1 := ⟨⟨ts_in (List.mem_of_getElem? (i := 679) (by decide +kernel)) rfl, ts_in (List.mem_of_getElem? (i := 72) (by decide +kernel)) rfl, ⟨by decide +kernel, by decide +kernel⟩, by decide +kernel, rfl, rfl⟩, ts_in (List.mem_of_getElem? (i := 678) (by decide +kernel)) rfl, ts_in (List.mem_of_getElem? (i := 37) (by decide +kernel)) rfl⟩
abbrev mX6_goOnFrom : MD := (yX6_goOnFrom, cX6_goOnFrom, 9, none, { frames := 2, cells := 0, slots := 0, locals := 47 })
theorem M_X6_goOnFrom : Mv mX6_goOnFrom 3 := ⟨⟨ts_in (List.mem_of_getElem? (i := 689) (by decide +kernel)) rfl, ts_in (List.mem_of_getElem? (i := 72) (by decide +kernel)) rfl, ⟨by decide +kernel, by decide +kernel⟩, by decide +kernel, rfl, rfl⟩, ts_in (List.mem_of_getElem? (i := 688) (by decide +kernel)) rfl, ts_in (List.mem_of_getElem? (i := 39) (by decide +kernel)) rfl⟩
abbrev mX6_arrive : MD := (yX6_arrive, cX6_arrive, 5, none, { frames := 1, cells := 0, slots := 0, locals := 23 })
theorem M_X6_arrive : Mv mX6_arrive 3 := ⟨⟨ts_in (List.mem_of_getElem? (i := 698) (by decide +kernel)) rfl, ts_in (List.mem_of_getElem? (i := 72) (by decide +kernel)) rfl, ⟨by decide +kernel, by decide +kernel⟩, by decide +kernel, rfl, rfl⟩, ts_in (List.mem_of_getElem? (i := 697) (by decide +kernel)) rfl, ts_in (List.mem_of_getElem? (i := 41) (by decide +kernel)) rfl⟩
abbrev mX6_placeAtEnd : MD := (yX6_placeAtEnd, cX6_placeAtEnd, 4, (some .int), { frames := 0, cells := 0, slots := 0, locals := 0 })
theorem M_X6_placeAtEnd : Mv mX6_placeAtEnd 3 := ⟨⟨ts_in (List.mem_of_getElem? (i := 693) (by decide +kernel)) rfl, ts_in (List.mem_of_getElem? (i := 72) (by decide +kernel)) rfl, ⟨by decide +kernel, by decide +kernel⟩, by decide +kernel, rfl, rfl⟩, ts_in (List.mem_of_getElem? (i := 692) (by decide +kernel)) rfl, ts_in (List.mem_of_getElem? (i := 40) (by decide +kernel)) rfl⟩
abbrev mX6_cellOf : MD := (yX6_cellOf, cX6_cellOf, 5, (some .int), { frames := 0, cells := 0, slots := 0, locals := 0 })
theorem M_X6_cellOf : Mv mX6_cellOf 4 := ⟨⟨ts_in (List.mem_of_getElem? (i := 685) (by decide +kernel)) rfl, ts_in (List.mem_of_getElem? (i := 72) (by decide +kernel)) rfl, ⟨by decide +kernel, by decide +kernel⟩, by decide +kernel, rfl, rfl⟩, ts_in (List.mem_of_getElem? (i := 684) (by decide +kernel)) rfl, ts_in (List.mem_of_getElem? (i := 38) (by decide +kernel)) rfl⟩
abbrev mX6_mostMet : MD := (yX6_mostMet, cX6_mostMet, 3, (some .int), { frames := 0, cells := 0, slots := 0, locals := 0 })
theorem M_X6_mostMet : Mv mX6_mostMet 0 := ⟨⟨ts_in (List.mem_of_getElem? (i := 702) (by decide +kernel)) rfl, ts_in (List.mem_of_getElem? (i := 72) (by decide +kernel)) rfl, ⟨by decide +kernel, by decide +kernel⟩, by decide +kernel, rfl, rfl⟩, ts_in (List.mem_of_getElem? (i := 701) (by decide +kernel)) rfl, ts_in (List.mem_of_getElem? (i := 42) (by decide +kernel)) rfl⟩
abbrev mX6_firstHourWith : MD := (yX6_firstHourWith, cX6_firstHourWith, 4, (some .int), { frames := 1, cells := 0, slots := 0, locals := 23 })
theorem M_X6_firstHourWith : Mv mX6_firstHourWith 1 := ⟨⟨ts_in (List.mem_of_getElem? (i := 710) (by decide +kernel)) rfl, ts_in (List.mem_of_getElem? (i := 72) (by decide +kernel)) rfl, ⟨by decide +kernel, by decide +kernel⟩, by decide +kernel, rfl, rfl⟩, ts_in (List.mem_of_getElem? (i := 709) (by decide +kernel)) rfl, ts_in (List.mem_of_getElem? (i := 43) (by decide +kernel)) rfl⟩
abbrev mX7_append : MD := (yX7_append, cX7_append, 3, none, { frames := 0, cells := 0, slots := 0, locals := 0 })
theorem M_X7_append : Mv mX7_append 1 := ⟨⟨ts_in (List.mem_of_getElem? (i := 440) (by decide +kernel)) rfl, ts_in (List.mem_of_getElem? (i := 69) (by decide +kernel)) rfl, ⟨by decide +kernel, by decide +kernel⟩, by decide +kernel, rfl, rfl⟩, ts_in (List.mem_of_getElem? (i := 439) (by decide +kernel)) rfl, ts_in (List.mem_of_getElem? (i := 8) (by decide +kernel)) rfl⟩
abbrev mX8_reset : MD := (yX8_reset, cX8_reset, 1, none, { frames := 1, cells := 0, slots := 0, locals := 23 })
theorem M_X8_reset : Mv mX8_reset 0 := ⟨⟨ts_in (List.mem_of_getElem? (i := 304) (by decide +kernel)) rfl, ts_in (List.mem_of_getElem? (i := 73) (by decide +kernel)) rfl, ⟨by decide +kernel, by decide +kernel⟩, by decide +kernel, rfl, rfl⟩, ts_in (List.mem_of_getElem? (i := 303) (by decide +kernel)) rfl, ts_in (List.mem_of_getElem? (i := 0) (by decide +kernel)) rfl⟩
abbrev mX8_setShare : MD := (yX8_setShare, cX8_setShare, 4, none, { frames := 0, cells := 0, slots := 0, locals := 0 })
theorem M_X8_setShare : Mv mX8_setShare 3 := ⟨⟨ts_in (List.mem_of_getElem? (i := 311) (by decide +kernel)) rfl, ts_in (List.mem_of_getElem? (i := 73) (by decide +kernel)) rfl, ⟨by decide +kernel, by decide +kernel⟩, by decide +kernel, rfl, rfl⟩, ts_in (List.mem_of_getElem? (i := 310) (by decide +kernel)) rfl, ts_in (List.mem_of_getElem? (i := 1) (by decide +kernel)) rfl⟩
abbrev mX8_shareOf : MD := (yX8_shareOf, cX8_shareOf, 4, (some .long), { frames := 0, cells := 0, slots := 0, locals := 0 })
theorem M_X8_shareOf : Mv mX8_shareOf 2 := ⟨⟨ts_in (List.mem_of_getElem? (i := 587) (by decide +kernel)) rfl, ts_in (List.mem_of_getElem? (i := 73) (by decide +kernel)) rfl, ⟨by decide +kernel, by decide +kernel⟩, by decide +kernel, rfl, rfl⟩, ts_in (List.mem_of_getElem? (i := 586) (by decide +kernel)) rfl, ts_in (List.mem_of_getElem? (i := 22) (by decide +kernel)) rfl⟩
abbrev mX9_farmer : MD := (yX9_farmer, cX9_farmer, 4, (some .int), { frames := 1, cells := 0, slots := 0, locals := 23 })
theorem M_X9_farmer : Mv mX9_farmer 3 := ⟨⟨ts_in (List.mem_of_getElem? (i := 396) (by decide +kernel)) rfl, ts_in (List.mem_of_getElem? (i := 65) (by decide +kernel)) rfl, ⟨by decide +kernel, by decide +kernel⟩, by decide +kernel, rfl, rfl⟩, ts_in (List.mem_of_getElem? (i := 394) (by decide +kernel)) rfl, ts_in (List.mem_of_getElem? (i := 395) (by decide +kernel)) rfl⟩
abbrev mX9_credit : MD := (yX9_credit, cX9_credit, 4, (some .int), { frames := 2, cells := 0, slots := 0, locals := 43 })
theorem M_X9_credit : Mv mX9_credit 3 := ⟨⟨ts_in (List.mem_of_getElem? (i := 415) (by decide +kernel)) rfl, ts_in (List.mem_of_getElem? (i := 65) (by decide +kernel)) rfl, ⟨by decide +kernel, by decide +kernel⟩, by decide +kernel, rfl, rfl⟩, ts_in (List.mem_of_getElem? (i := 413) (by decide +kernel)) rfl, ts_in (List.mem_of_getElem? (i := 414) (by decide +kernel)) rfl⟩
abbrev mX9_basket : MD := (yX9_basket, cX9_basket, 5, (some .int), { frames := 2, cells := 0, slots := 0, locals := 43 })
theorem M_X9_basket : Mv mX9_basket 4 := ⟨⟨ts_in (List.mem_of_getElem? (i := 428) (by decide +kernel)) rfl, ts_in (List.mem_of_getElem? (i := 65) (by decide +kernel)) rfl, ⟨by decide +kernel, by decide +kernel⟩, by decide +kernel, rfl, rfl⟩, ts_in (List.mem_of_getElem? (i := 426) (by decide +kernel)) rfl, ts_in (List.mem_of_getElem? (i := 427) (by decide +kernel)) rfl⟩
abbrev mX9_feed : MD := (yX9_feed, cX9_feed, 6, (some .int), { frames := 1, cells := 0, slots := 0, locals := 22 })
theorem M_X9_feed : Mv mX9_feed 5 := ⟨⟨ts_in (List.mem_of_getElem? (i := 436) (by decide +kernel)) rfl, ts_in (List.mem_of_getElem? (i := 65) (by decide +kernel)) rfl, ⟨by decide +kernel, by decide +kernel⟩, by decide +kernel, rfl, rfl⟩, ts_in (List.mem_of_getElem? (i := 434) (by decide +kernel)) rfl, ts_in (List.mem_of_getElem? (i := 435) (by decide +kernel)) rfl⟩
abbrev mX9_end : MD := (yX9_end, cX9_end, 2, (some .int), { frames := 1, cells := 0, slots := 0, locals := 22 })
theorem M_X9_end : Mv mX9_end 1 := ⟨⟨ts_in (List.mem_of_getElem? (i := 444) (by decide +kernel)) rfl, ts_in (List.mem_of_getElem? (i := 65) (by decide +kernel)) rfl, ⟨by decide +kernel, by decide +kernel⟩, by decide +kernel, rfl, rfl⟩, ts_in (List.mem_of_getElem? (i := 442) (by decide +kernel)) rfl, ts_in (List.mem_of_getElem? (i := 443) (by decide +kernel)) rfl⟩
abbrev mX9_contract : MD := (yX9_contract, cX9_contract, 2, (some .int), { frames := 8, cells := 0, slots := 0, locals := 172 })
theorem M_X9_contract : Mv mX9_contract 0 := ⟨⟨ts_in (List.mem_of_getElem? (i := 448) (by decide +kernel)) rfl, ts_in (List.mem_of_getElem? (i := 65) (by decide +kernel)) rfl, ⟨by decide +kernel, by decide +kernel⟩, by decide +kernel, rfl, rfl⟩, ts_in (List.mem_of_getElem? (i := 446) (by decide +kernel)) rfl, ts_in (List.mem_of_getElem? (i := 447) (by decide +kernel)) rfl⟩
abbrev mX9_fault : MD := (yX9_fault, cX9_fault, 1, (some .int), { frames := 0, cells := 0, slots := 0, locals := 0 })
theorem M_X9_fault : Mv mX9_fault 0 := ⟨⟨ts_in (List.mem_of_getElem? (i := 557) (by decide +kernel)) rfl, ts_in (List.mem_of_getElem? (i := 65) (by decide +kernel)) rfl, ⟨by decide +kernel, by decide +kernel⟩, by decide +kernel, rfl, rfl⟩, ts_in (List.mem_of_getElem? (i := 555) (by decide +kernel)) rfl, ts_in (List.mem_of_getElem? (i := 556) (by decide +kernel)) rfl⟩
abbrev mX9_of : MD := (yX9_of, cX9_of, 4, (some .long), { frames := 5, cells := 0, slots := 0, locals := 124 })
theorem M_X9_of : Mv mX9_of 3 := ⟨⟨ts_in (List.mem_of_getElem? (i := 561) (by decide +kernel)) rfl, ts_in (List.mem_of_getElem? (i := 65) (by decide +kernel)) rfl, ⟨by decide +kernel, by decide +kernel⟩, by decide +kernel, rfl, rfl⟩, ts_in (List.mem_of_getElem? (i := 559) (by decide +kernel)) rfl, ts_in (List.mem_of_getElem? (i := 560) (by decide +kernel)) rfl⟩
abbrev mX9_group : MD := (yX9_group, cX9_group, 4, (some .long), { frames := 5, cells := 0, slots := 0, locals := 124 })
theorem M_X9_group : Mv mX9_group 3 := ⟨⟨ts_in (List.mem_of_getElem? (i := 643) (by decide +kernel)) rfl, ts_in (List.mem_of_getElem? (i := 65) (by decide +kernel)) rfl, ⟨by decide +kernel, by decide +kernel⟩, by decide +kernel, rfl, rfl⟩, ts_in (List.mem_of_getElem? (i := 641) (by decide +kernel)) rfl, ts_in (List.mem_of_getElem? (i := 642) (by decide +kernel)) rfl⟩
abbrev mX9_bears : MD := (yX9_bears, cX9_bears, 3, (some .int), { frames := 1, cells := 0, slots := 0, locals := 22 })
theorem M_X9_bears : Mv mX9_bears 1 := ⟨⟨ts_in (List.mem_of_getElem? (i := 651) (by decide +kernel)) rfl, ts_in (List.mem_of_getElem? (i := 65) (by decide +kernel)) rfl, ⟨by decide +kernel, by decide +kernel⟩, by decide +kernel, rfl, rfl⟩, ts_in (List.mem_of_getElem? (i := 649) (by decide +kernel)) rfl, ts_in (List.mem_of_getElem? (i := 650) (by decide +kernel)) rfl⟩
abbrev mX9_drought : MD := (yX9_drought, cX9_drought, 4, (some .int), { frames := 1, cells := 0, slots := 0, locals := 23 })
theorem M_X9_drought : Mv mX9_drought 3 := ⟨⟨ts_in (List.mem_of_getElem? (i := 655) (by decide +kernel)) rfl, ts_in (List.mem_of_getElem? (i := 65) (by decide +kernel)) rfl, ⟨by decide +kernel, by decide +kernel⟩, by decide +kernel, rfl, rfl⟩, ts_in (List.mem_of_getElem? (i := 653) (by decide +kernel)) rfl, ts_in (List.mem_of_getElem? (i := 654) (by decide +kernel)) rfl⟩
abbrev mX9_visit : MD := (yX9_visit, cX9_visit, 3, (some .int), { frames := 2, cells := 0, slots := 0, locals := 43 })
theorem M_X9_visit : Mv mX9_visit 2 := ⟨⟨ts_in (List.mem_of_getElem? (i := 663) (by decide +kernel)) rfl, ts_in (List.mem_of_getElem? (i := 65) (by decide +kernel)) rfl, ⟨by decide +kernel, by decide +kernel⟩, by decide +kernel, rfl, rfl⟩, ts_in (List.mem_of_getElem? (i := 661) (by decide +kernel)) rfl, ts_in (List.mem_of_getElem? (i := 662) (by decide +kernel)) rfl⟩
abbrev mX9_clear : MD := (yX9_clear, cX9_clear, 2, (some .int), { frames := 0, cells := 0, slots := 0, locals := 0 })
theorem M_X9_clear : Mv mX9_clear 0 := ⟨⟨ts_in (List.mem_of_getElem? (i := 671) (by decide +kernel)) rfl, ts_in (List.mem_of_getElem? (i := 65) (by decide +kernel)) rfl, ⟨by decide +kernel, by decide +kernel⟩, by decide +kernel, rfl, rfl⟩, ts_in (List.mem_of_getElem? (i := 669) (by decide +kernel)) rfl, ts_in (List.mem_of_getElem? (i := 670) (by decide +kernel)) rfl⟩
abbrev mX9_most : MD := (yX9_most, cX9_most, 2, (some .int), { frames := 4, cells := 0, slots := 0, locals := 98 })
theorem M_X9_most : Mv mX9_most 1 := ⟨⟨ts_in (List.mem_of_getElem? (i := 675) (by decide +kernel)) rfl, ts_in (List.mem_of_getElem? (i := 65) (by decide +kernel)) rfl, ⟨by decide +kernel, by decide +kernel⟩, by decide +kernel, rfl, rfl⟩, ts_in (List.mem_of_getElem? (i := 673) (by decide +kernel)) rfl, ts_in (List.mem_of_getElem? (i := 674) (by decide +kernel)) rfl⟩
abbrev mX9_least : MD := (yX9_least, cX9_least, 4, (some .int), { frames := 4, cells := 0, slots := 0, locals := 98 })
theorem M_X9_least : Mv mX9_least 2 := ⟨⟨ts_in (List.mem_of_getElem? (i := 706) (by decide +kernel)) rfl, ts_in (List.mem_of_getElem? (i := 65) (by decide +kernel)) rfl, ⟨by decide +kernel, by decide +kernel⟩, by decide +kernel, rfl, rfl⟩, ts_in (List.mem_of_getElem? (i := 704) (by decide +kernel)) rfl, ts_in (List.mem_of_getElem? (i := 705) (by decide +kernel)) rfl⟩
abbrev mX9_led : MD := (yX9_led, cX9_led, 3, (some .int), { frames := 1, cells := 0, slots := 0, locals := 24 })
theorem M_X9_led : Mv mX9_led 2 := ⟨⟨ts_in (List.mem_of_getElem? (i := 715) (by decide +kernel)) rfl, ts_in (List.mem_of_getElem? (i := 65) (by decide +kernel)) rfl, ⟨by decide +kernel, by decide +kernel⟩, by decide +kernel, rfl, rfl⟩, ts_in (List.mem_of_getElem? (i := 713) (by decide +kernel)) rfl, ts_in (List.mem_of_getElem? (i := 714) (by decide +kernel)) rfl⟩
abbrev mX9_count : MD := (yX9_count, cX9_count, 2, (some .int), { frames := 0, cells := 0, slots := 0, locals := 0 })
theorem M_X9_count : Mv mX9_count 1 := ⟨⟨ts_in (List.mem_of_getElem? (i := 723) (by decide +kernel)) rfl, ts_in (List.mem_of_getElem? (i := 65) (by decide +kernel)) rfl, ⟨by decide +kernel, by decide +kernel⟩, by decide +kernel, rfl, rfl⟩, ts_in (List.mem_of_getElem? (i := 721) (by decide +kernel)) rfl, ts_in (List.mem_of_getElem? (i := 722) (by decide +kernel)) rfl⟩
abbrev mX9_status : MD := (yX9_status, cX9_status, 1, (some .int), { frames := 0, cells := 0, slots := 0, locals := 0 })
theorem M_X9_status : Mv mX9_status 0 := ⟨⟨ts_in (List.mem_of_getElem? (i := 727) (by decide +kernel)) rfl, ts_in (List.mem_of_getElem? (i := 65) (by decide +kernel)) rfl, ⟨by decide +kernel, by decide +kernel⟩, by decide +kernel, rfl, rfl⟩, ts_in (List.mem_of_getElem? (i := 725) (by decide +kernel)) rfl, ts_in (List.mem_of_getElem? (i := 726) (by decide +kernel)) rfl⟩
abbrev mX9_refuse : MD := (yX9_refuse, cX9_refuse, 2, (some .int), { frames := 0, cells := 0, slots := 0, locals := 0 })
theorem M_X9_refuse : Mv mX9_refuse 1 := ⟨⟨ts_in (List.mem_of_getElem? (i := 403) (by decide +kernel)) rfl, ts_in (List.mem_of_getElem? (i := 65) (by decide +kernel)) rfl, ⟨by decide +kernel, by decide +kernel⟩, by decide +kernel, rfl, rfl⟩, ts_in (List.mem_of_getElem? (i := 402) (by decide +kernel)) rfl, ts_in (List.mem_of_getElem? (i := 2) (by decide +kernel)) rfl⟩
abbrev mX9_accept : MD := (yX9_accept, cX9_accept, 2, (some .int), { frames := 0, cells := 0, slots := 0, locals := 0 })
theorem M_X9_accept : Mv mX9_accept 1 := ⟨⟨ts_in (List.mem_of_getElem? (i := 411) (by decide +kernel)) rfl, ts_in (List.mem_of_getElem? (i := 65) (by decide +kernel)) rfl, ⟨by decide +kernel, by decide +kernel⟩, by decide +kernel, rfl, rfl⟩, ts_in (List.mem_of_getElem? (i := 410) (by decide +kernel)) rfl, ts_in (List.mem_of_getElem? (i := 4) (by decide +kernel)) rfl⟩
abbrev mX9_isNoFarmer : MD := (yX9_isNoFarmer, cX9_isNoFarmer, 2, (some .boolean), { frames := 1, cells := 0, slots := 0, locals := 22 })
theorem M_X9_isNoFarmer : Mv mX9_isNoFarmer 1 := ⟨⟨ts_in (List.mem_of_getElem? (i := 420) (by decide +kernel)) rfl, ts_in (List.mem_of_getElem? (i := 65) (by decide +kernel)) rfl, ⟨by decide +kernel, by decide +kernel⟩, by decide +kernel, rfl, rfl⟩, ts_in (List.mem_of_getElem? (i := 419) (by decide +kernel)) rfl, ts_in (List.mem_of_getElem? (i := 5) (by decide +kernel)) rfl⟩
abbrev mX9_foretold : MD := (yX9_foretold, cX9_foretold, 2, (some .long), { frames := 2, cells := 0, slots := 0, locals := 44 })
theorem M_X9_foretold : Mv mX9_foretold 1 := ⟨⟨ts_in (List.mem_of_getElem? (i := 625) (by decide +kernel)) rfl, ts_in (List.mem_of_getElem? (i := 65) (by decide +kernel)) rfl, ⟨by decide +kernel, by decide +kernel⟩, by decide +kernel, rfl, rfl⟩, ts_in (List.mem_of_getElem? (i := 624) (by decide +kernel)) rfl, ts_in (List.mem_of_getElem? (i := 30) (by decide +kernel)) rfl⟩
abbrev mX9_isShort : MD := (yX9_isShort, cX9_isShort, 2, (some .boolean), { frames := 3, cells := 0, slots := 0, locals := 65 })
theorem M_X9_isShort : Mv mX9_isShort 1 := ⟨⟨ts_in (List.mem_of_getElem? (i := 638) (by decide +kernel)) rfl, ts_in (List.mem_of_getElem? (i := 65) (by decide +kernel)) rfl, ⟨by decide +kernel, by decide +kernel⟩, by decide +kernel, rfl, rfl⟩, ts_in (List.mem_of_getElem? (i := 637) (by decide +kernel)) rfl, ts_in (List.mem_of_getElem? (i := 33) (by decide +kernel)) rfl⟩
abbrev mX9_outside : MD := (yX9_outside, cX9_outside, 3, (some .boolean), { frames := 0, cells := 0, slots := 0, locals := 0 })
theorem M_X9_outside : Ms mX9_outside 3 := ⟨⟨ts_in (List.mem_of_getElem? (i := 399) (by decide +kernel)) rfl, ts_in (List.mem_of_getElem? (i := 65) (by decide +kernel)) rfl, ⟨by decide +kernel, by decide +kernel⟩, by decide +kernel, rfl, rfl⟩, ts_in (List.mem_of_getElem? (i := 398) (by decide +kernel)) rfl⟩
abbrev mX10_in : MD := (yX10_in, cX10_in, 6, (some .boolean), { frames := 0, cells := 0, slots := 0, locals := 0 })
theorem M_X10_in : Ms mX10_in 3 := ⟨⟨ts_in (List.mem_of_getElem? (i := 901) (by decide +kernel)) rfl, ts_in (List.mem_of_getElem? (i := 76) (by decide +kernel)) rfl, ⟨by decide +kernel, by decide +kernel⟩, by decide +kernel, rfl, rfl⟩, ts_in (List.mem_of_getElem? (i := 900) (by decide +kernel)) rfl⟩
abbrev mX10_told : MD := (yX10_told, cX10_told, 2, (some .int), { frames := 0, cells := 0, slots := 0, locals := 0 })
theorem M_X10_told : Mv mX10_told 1 := ⟨⟨ts_in (List.mem_of_getElem? (i := 907) (by decide +kernel)) rfl, ts_in (List.mem_of_getElem? (i := 76) (by decide +kernel)) rfl, ⟨by decide +kernel, by decide +kernel⟩, by decide +kernel, rfl, rfl⟩, ts_in (List.mem_of_getElem? (i := 906) (by decide +kernel)) rfl, ts_in (List.mem_of_getElem? (i := 45) (by decide +kernel)) rfl⟩
abbrev mX10_isDay : MD := (yX10_isDay, cX10_isDay, 1, (some .boolean), { frames := 1, cells := 0, slots := 0, locals := 25 })
theorem M_X10_isDay : Ms mX10_isDay 1 := ⟨⟨ts_in (List.mem_of_getElem? (i := 915) (by decide +kernel)) rfl, ts_in (List.mem_of_getElem? (i := 76) (by decide +kernel)) rfl, ⟨by decide +kernel, by decide +kernel⟩, by decide +kernel, rfl, rfl⟩, ts_in (List.mem_of_getElem? (i := 914) (by decide +kernel)) rfl⟩
abbrev mX10_isFarmer : MD := (yX10_isFarmer, cX10_isFarmer, 2, (some .boolean), { frames := 1, cells := 0, slots := 0, locals := 25 })
theorem M_X10_isFarmer : Mv mX10_isFarmer 1 := ⟨⟨ts_in (List.mem_of_getElem? (i := 920) (by decide +kernel)) rfl, ts_in (List.mem_of_getElem? (i := 76) (by decide +kernel)) rfl, ⟨by decide +kernel, by decide +kernel⟩, by decide +kernel, rfl, rfl⟩, ts_in (List.mem_of_getElem? (i := 919) (by decide +kernel)) rfl, ts_in (List.mem_of_getElem? (i := 46) (by decide +kernel)) rfl⟩
abbrev mX10_farmer : MD := (yX10_farmer, cX10_farmer, 4, (some .int), { frames := 1, cells := 0, slots := 0, locals := 25 })
theorem M_X10_farmer : Mv mX10_farmer 3 := ⟨⟨ts_in (List.mem_of_getElem? (i := 897) (by decide +kernel)) rfl, ts_in (List.mem_of_getElem? (i := 76) (by decide +kernel)) rfl, ⟨by decide +kernel, by decide +kernel⟩, by decide +kernel, rfl, rfl⟩, ts_in (List.mem_of_getElem? (i := 895) (by decide +kernel)) rfl, ts_in (List.mem_of_getElem? (i := 896) (by decide +kernel)) rfl⟩
abbrev mX10_credit : MD := (yX10_credit, cX10_credit, 4, (some .int), { frames := 2, cells := 0, slots := 0, locals := 46 })
theorem M_X10_credit : Mv mX10_credit 3 := ⟨⟨ts_in (List.mem_of_getElem? (i := 911) (by decide +kernel)) rfl, ts_in (List.mem_of_getElem? (i := 76) (by decide +kernel)) rfl, ⟨by decide +kernel, by decide +kernel⟩, by decide +kernel, rfl, rfl⟩, ts_in (List.mem_of_getElem? (i := 909) (by decide +kernel)) rfl, ts_in (List.mem_of_getElem? (i := 910) (by decide +kernel)) rfl⟩
abbrev mX10_basket : MD := (yX10_basket, cX10_basket, 5, (some .int), { frames := 2, cells := 0, slots := 0, locals := 46 })
theorem M_X10_basket : Mv mX10_basket 4 := ⟨⟨ts_in (List.mem_of_getElem? (i := 924) (by decide +kernel)) rfl, ts_in (List.mem_of_getElem? (i := 76) (by decide +kernel)) rfl, ⟨by decide +kernel, by decide +kernel⟩, by decide +kernel, rfl, rfl⟩, ts_in (List.mem_of_getElem? (i := 922) (by decide +kernel)) rfl, ts_in (List.mem_of_getElem? (i := 923) (by decide +kernel)) rfl⟩
abbrev mX10_four : MD := (yX10_four, cX10_four, 3, none, { frames := 0, cells := 0, slots := 0, locals := 0 })
theorem M_X10_four : Mv mX10_four 1 := ⟨⟨ts_in (List.mem_of_getElem? (i := 933) (by decide +kernel)) rfl, ts_in (List.mem_of_getElem? (i := 76) (by decide +kernel)) rfl, ⟨by decide +kernel, by decide +kernel⟩, by decide +kernel, rfl, rfl⟩, ts_in (List.mem_of_getElem? (i := 932) (by decide +kernel)) rfl, ts_in (List.mem_of_getElem? (i := 47) (by decide +kernel)) rfl⟩
abbrev mX10_feed : MD := (yX10_feed, cX10_feed, 6, (some .int), { frames := 1, cells := 0, slots := 0, locals := 22 })
theorem M_X10_feed : Mv mX10_feed 5 := ⟨⟨ts_in (List.mem_of_getElem? (i := 929) (by decide +kernel)) rfl, ts_in (List.mem_of_getElem? (i := 76) (by decide +kernel)) rfl, ⟨by decide +kernel, by decide +kernel⟩, by decide +kernel, rfl, rfl⟩, ts_in (List.mem_of_getElem? (i := 927) (by decide +kernel)) rfl, ts_in (List.mem_of_getElem? (i := 928) (by decide +kernel)) rfl⟩
abbrev mX10_end : MD := (yX10_end, cX10_end, 2, (some .int), { frames := 0, cells := 0, slots := 0, locals := 0 })
theorem M_X10_end : Mv mX10_end 1 := ⟨⟨ts_in (List.mem_of_getElem? (i := 937) (by decide +kernel)) rfl, ts_in (List.mem_of_getElem? (i := 76) (by decide +kernel)) rfl, ⟨by decide +kernel, by decide +kernel⟩, by decide +kernel, rfl, rfl⟩, ts_in (List.mem_of_getElem? (i := 935) (by decide +kernel)) rfl, ts_in (List.mem_of_getElem? (i := 936) (by decide +kernel)) rfl⟩
abbrev mX10_isSmall : MD := (yX10_isSmall, cX10_isSmall, 1, (some .boolean), { frames := 0, cells := 0, slots := 0, locals := 0 })
theorem M_X10_isSmall : Ms mX10_isSmall 1 := ⟨⟨ts_in (List.mem_of_getElem? (i := 948) (by decide +kernel)) rfl, ts_in (List.mem_of_getElem? (i := 76) (by decide +kernel)) rfl, ⟨by decide +kernel, by decide +kernel⟩, by decide +kernel, rfl, rfl⟩, ts_in (List.mem_of_getElem? (i := 947) (by decide +kernel)) rfl⟩
abbrev mX10_isDigit : MD := (yX10_isDigit, cX10_isDigit, 1, (some .boolean), { frames := 0, cells := 0, slots := 0, locals := 0 })
theorem M_X10_isDigit : Ms mX10_isDigit 1 := ⟨⟨ts_in (List.mem_of_getElem? (i := 951) (by decide +kernel)) rfl, ts_in (List.mem_of_getElem? (i := 76) (by decide +kernel)) rfl, ⟨by decide +kernel, by decide +kernel⟩, by decide +kernel, rfl, rfl⟩, ts_in (List.mem_of_getElem? (i := 950) (by decide +kernel)) rfl⟩
abbrev mX10_next : MD := (yX10_next, cX10_next, 1, none, { frames := 1, cells := 0, slots := 0, locals := 20 })
theorem M_X10_next : Mv mX10_next 0 := ⟨⟨ts_in (List.mem_of_getElem? (i := 945) (by decide +kernel)) rfl, ts_in (List.mem_of_getElem? (i := 76) (by decide +kernel)) rfl, ⟨by decide +kernel, by decide +kernel⟩, by decide +kernel, rfl, rfl⟩, ts_in (List.mem_of_getElem? (i := 944) (by decide +kernel)) rfl, ts_in (List.mem_of_getElem? (i := 48) (by decide +kernel)) rfl⟩
abbrev mX10_isWord : MD := (yX10_isWord, cX10_isWord, 8, (some .boolean), { frames := 0, cells := 0, slots := 0, locals := 0 })
theorem M_X10_isWord : Mv mX10_isWord 5 := ⟨⟨ts_in (List.mem_of_getElem? (i := 965) (by decide +kernel)) rfl, ts_in (List.mem_of_getElem? (i := 76) (by decide +kernel)) rfl, ⟨by decide +kernel, by decide +kernel⟩, by decide +kernel, rfl, rfl⟩, ts_in (List.mem_of_getElem? (i := 964) (by decide +kernel)) rfl, ts_in (List.mem_of_getElem? (i := 50) (by decide +kernel)) rfl⟩
abbrev mX10_must : MD := (yX10_must, cX10_must, 2, none, { frames := 2, cells := 0, slots := 0, locals := 40 })
theorem M_X10_must : Mv mX10_must 1 := ⟨⟨ts_in (List.mem_of_getElem? (i := 973) (by decide +kernel)) rfl, ts_in (List.mem_of_getElem? (i := 76) (by decide +kernel)) rfl, ⟨by decide +kernel, by decide +kernel⟩, by decide +kernel, rfl, rfl⟩, ts_in (List.mem_of_getElem? (i := 972) (by decide +kernel)) rfl, ts_in (List.mem_of_getElem? (i := 52) (by decide +kernel)) rfl⟩
abbrev mX10_number : MD := (yX10_number, cX10_number, 6, (some .int), { frames := 3, cells := 0, slots := 0, locals := 61 })
theorem M_X10_number : Mv mX10_number 2 := ⟨⟨ts_in (List.mem_of_getElem? (i := 977) (by decide +kernel)) rfl, ts_in (List.mem_of_getElem? (i := 76) (by decide +kernel)) rfl, ⟨by decide +kernel, by decide +kernel⟩, by decide +kernel, rfl, rfl⟩, ts_in (List.mem_of_getElem? (i := 976) (by decide +kernel)) rfl, ts_in (List.mem_of_getElem? (i := 53) (by decide +kernel)) rfl⟩
abbrev mX10_partAt : MD := (yX10_partAt, cX10_partAt, 1, (some .int), { frames := 1, cells := 0, slots := 0, locals := 27 })
theorem M_X10_partAt : Mv mX10_partAt 0 := ⟨⟨ts_in (List.mem_of_getElem? (i := 969) (by decide +kernel)) rfl, ts_in (List.mem_of_getElem? (i := 76) (by decide +kernel)) rfl, ⟨by decide +kernel, by decide +kernel⟩, by decide +kernel, rfl, rfl⟩, ts_in (List.mem_of_getElem? (i := 968) (by decide +kernel)) rfl, ts_in (List.mem_of_getElem? (i := 51) (by decide +kernel)) rfl⟩
abbrev mX10_readClause : MD := (yX10_readClause, cX10_readClause, 7, none, { frames := 4, cells := 0, slots := 0, locals := 86 })
theorem M_X10_readClause : Mv mX10_readClause 0 := ⟨⟨ts_in (List.mem_of_getElem? (i := 961) (by decide +kernel)) rfl, ts_in (List.mem_of_getElem? (i := 76) (by decide +kernel)) rfl, ⟨by decide +kernel, by decide +kernel⟩, by decide +kernel, rfl, rfl⟩, ts_in (List.mem_of_getElem? (i := 960) (by decide +kernel)) rfl, ts_in (List.mem_of_getElem? (i := 49) (by decide +kernel)) rfl⟩
abbrev mX10_contract : MD := (yX10_contract, cX10_contract, 2, (some .int), { frames := 5, cells := 0, slots := 0, locals := 112 })
theorem M_X10_contract : Mv mX10_contract 0 := ⟨⟨ts_in (List.mem_of_getElem? (i := 941) (by decide +kernel)) rfl, ts_in (List.mem_of_getElem? (i := 76) (by decide +kernel)) rfl, ⟨by decide +kernel, by decide +kernel⟩, by decide +kernel, rfl, rfl⟩, ts_in (List.mem_of_getElem? (i := 939) (by decide +kernel)) rfl, ts_in (List.mem_of_getElem? (i := 940) (by decide +kernel)) rfl⟩
abbrev mX10_fault : MD := (yX10_fault, cX10_fault, 1, (some .int), { frames := 0, cells := 0, slots := 0, locals := 0 })
theorem M_X10_fault : Mv mX10_fault 0 := ⟨⟨ts_in (List.mem_of_getElem? (i := 982) (by decide +kernel)) rfl, ts_in (List.mem_of_getElem? (i := 76) (by decide +kernel)) rfl, ⟨by decide +kernel, by decide +kernel⟩, by decide +kernel, rfl, rfl⟩, ts_in (List.mem_of_getElem? (i := 980) (by decide +kernel)) rfl, ts_in (List.mem_of_getElem? (i := 981) (by decide +kernel)) rfl⟩
abbrev mX10_partOf : MD := (yX10_partOf, cX10_partOf, 4, (some .long), { frames := 0, cells := 0, slots := 0, locals := 0 })
theorem M_X10_partOf : Mv mX10_partOf 2 := ⟨⟨ts_in (List.mem_of_getElem? (i := 1004) (by decide +kernel)) rfl, ts_in (List.mem_of_getElem? (i := 76) (by decide +kernel)) rfl, ⟨by decide +kernel, by decide +kernel⟩, by decide +kernel, rfl, rfl⟩, ts_in (List.mem_of_getElem? (i := 1003) (by decide +kernel)) rfl, ts_in (List.mem_of_getElem? (i := 55) (by decide +kernel)) rfl⟩
abbrev mX10_reckon : MD := (yX10_reckon, cX10_reckon, 6, none, { frames := 2, cells := 0, slots := 0, locals := 62 })
theorem M_X10_reckon : Mv mX10_reckon 1 := ⟨⟨ts_in (List.mem_of_getElem? (i := 999) (by decide +kernel)) rfl, ts_in (List.mem_of_getElem? (i := 76) (by decide +kernel)) rfl, ⟨by decide +kernel, by decide +kernel⟩, by decide +kernel, rfl, rfl⟩, ts_in (List.mem_of_getElem? (i := 998) (by decide +kernel)) rfl, ts_in (List.mem_of_getElem? (i := 54) (by decide +kernel)) rfl⟩
abbrev mX10_givenAt : MD := (yX10_givenAt, cX10_givenAt, 7, (some .long), { frames := 0, cells := 0, slots := 0, locals := 0 })
theorem M_X10_givenAt : Mv mX10_givenAt 2 := ⟨⟨ts_in (List.mem_of_getElem? (i := 1013) (by decide +kernel)) rfl, ts_in (List.mem_of_getElem? (i := 76) (by decide +kernel)) rfl, ⟨by decide +kernel, by decide +kernel⟩, by decide +kernel, rfl, rfl⟩, ts_in (List.mem_of_getElem? (i := 1012) (by decide +kernel)) rfl, ts_in (List.mem_of_getElem? (i := 57) (by decide +kernel)) rfl⟩
abbrev mX10_stand : MD := (yX10_stand, cX10_stand, 17, none, { frames := 1, cells := 0, slots := 0, locals := 26 })
theorem M_X10_stand : Mv mX10_stand 1 := ⟨⟨ts_in (List.mem_of_getElem? (i := 1008) (by decide +kernel)) rfl, ts_in (List.mem_of_getElem? (i := 76) (by decide +kernel)) rfl, ⟨by decide +kernel, by decide +kernel⟩, by decide +kernel, rfl, rfl⟩, ts_in (List.mem_of_getElem? (i := 1007) (by decide +kernel)) rfl, ts_in (List.mem_of_getElem? (i := 56) (by decide +kernel)) rfl⟩
abbrev mX10_bears : MD := (yX10_bears, cX10_bears, 3, (some .int), { frames := 1, cells := 0, slots := 0, locals := 25 })
theorem M_X10_bears : Mv mX10_bears 1 := ⟨⟨ts_in (List.mem_of_getElem? (i := 986) (by decide +kernel)) rfl, ts_in (List.mem_of_getElem? (i := 76) (by decide +kernel)) rfl, ⟨by decide +kernel, by decide +kernel⟩, by decide +kernel, rfl, rfl⟩, ts_in (List.mem_of_getElem? (i := 984) (by decide +kernel)) rfl, ts_in (List.mem_of_getElem? (i := 985) (by decide +kernel)) rfl⟩
abbrev mX10_drought : MD := (yX10_drought, cX10_drought, 4, (some .int), { frames := 1, cells := 0, slots := 0, locals := 25 })
theorem M_X10_drought : Mv mX10_drought 3 := ⟨⟨ts_in (List.mem_of_getElem? (i := 990) (by decide +kernel)) rfl, ts_in (List.mem_of_getElem? (i := 76) (by decide +kernel)) rfl, ⟨by decide +kernel, by decide +kernel⟩, by decide +kernel, rfl, rfl⟩, ts_in (List.mem_of_getElem? (i := 988) (by decide +kernel)) rfl, ts_in (List.mem_of_getElem? (i := 989) (by decide +kernel)) rfl⟩
abbrev mX10_foretold : MD := (yX10_foretold, cX10_foretold, 4, (some .long), { frames := 1, cells := 0, slots := 0, locals := 25 })
theorem M_X10_foretold : Mv mX10_foretold 1 := ⟨⟨ts_in (List.mem_of_getElem? (i := 1017) (by decide +kernel)) rfl, ts_in (List.mem_of_getElem? (i := 76) (by decide +kernel)) rfl, ⟨by decide +kernel, by decide +kernel⟩, by decide +kernel, rfl, rfl⟩, ts_in (List.mem_of_getElem? (i := 1016) (by decide +kernel)) rfl, ts_in (List.mem_of_getElem? (i := 58) (by decide +kernel)) rfl⟩
abbrev mX10_of : MD := (yX10_of, cX10_of, 4, (some .long), { frames := 3, cells := 0, slots := 0, locals := 87 })
theorem M_X10_of : Mv mX10_of 3 := ⟨⟨ts_in (List.mem_of_getElem? (i := 995) (by decide +kernel)) rfl, ts_in (List.mem_of_getElem? (i := 76) (by decide +kernel)) rfl, ⟨by decide +kernel, by decide +kernel⟩, by decide +kernel, rfl, rfl⟩, ts_in (List.mem_of_getElem? (i := 993) (by decide +kernel)) rfl, ts_in (List.mem_of_getElem? (i := 994) (by decide +kernel)) rfl⟩
abbrev mX10_group : MD := (yX10_group, cX10_group, 7, (some .long), { frames := 3, cells := 0, slots := 0, locals := 87 })
theorem M_X10_group : Mv mX10_group 3 := ⟨⟨ts_in (List.mem_of_getElem? (i := 1021) (by decide +kernel)) rfl, ts_in (List.mem_of_getElem? (i := 76) (by decide +kernel)) rfl, ⟨by decide +kernel, by decide +kernel⟩, by decide +kernel, rfl, rfl⟩, ts_in (List.mem_of_getElem? (i := 1019) (by decide +kernel)) rfl, ts_in (List.mem_of_getElem? (i := 1020) (by decide +kernel)) rfl⟩
abbrev mX10_visit : MD := (yX10_visit, cX10_visit, 3, (some .int), { frames := 2, cells := 0, slots := 0, locals := 46 })
theorem M_X10_visit : Mv mX10_visit 2 := ⟨⟨ts_in (List.mem_of_getElem? (i := 1026) (by decide +kernel)) rfl, ts_in (List.mem_of_getElem? (i := 76) (by decide +kernel)) rfl, ⟨by decide +kernel, by decide +kernel⟩, by decide +kernel, rfl, rfl⟩, ts_in (List.mem_of_getElem? (i := 1024) (by decide +kernel)) rfl, ts_in (List.mem_of_getElem? (i := 1025) (by decide +kernel)) rfl⟩
abbrev mX10_clear : MD := (yX10_clear, cX10_clear, 2, (some .int), { frames := 0, cells := 0, slots := 0, locals := 0 })
theorem M_X10_clear : Mv mX10_clear 0 := ⟨⟨ts_in (List.mem_of_getElem? (i := 1031) (by decide +kernel)) rfl, ts_in (List.mem_of_getElem? (i := 76) (by decide +kernel)) rfl, ⟨by decide +kernel, by decide +kernel⟩, by decide +kernel, rfl, rfl⟩, ts_in (List.mem_of_getElem? (i := 1029) (by decide +kernel)) rfl, ts_in (List.mem_of_getElem? (i := 1030) (by decide +kernel)) rfl⟩
abbrev mX10_addPlace : MD := (yX10_addPlace, cX10_addPlace, 4, none, { frames := 0, cells := 0, slots := 0, locals := 0 })
theorem M_X10_addPlace : Mv mX10_addPlace 1 := ⟨⟨ts_in (List.mem_of_getElem? (i := 1043) (by decide +kernel)) rfl, ts_in (List.mem_of_getElem? (i := 76) (by decide +kernel)) rfl, ⟨by decide +kernel, by decide +kernel⟩, by decide +kernel, rfl, rfl⟩, ts_in (List.mem_of_getElem? (i := 1042) (by decide +kernel)) rfl, ts_in (List.mem_of_getElem? (i := 60) (by decide +kernel)) rfl⟩
abbrev mX10_metAt : MD := (yX10_metAt, cX10_metAt, 5, (some .int), { frames := 0, cells := 0, slots := 0, locals := 0 })
theorem M_X10_metAt : Mv mX10_metAt 2 := ⟨⟨ts_in (List.mem_of_getElem? (i := 1048) (by decide +kernel)) rfl, ts_in (List.mem_of_getElem? (i := 76) (by decide +kernel)) rfl, ⟨by decide +kernel, by decide +kernel⟩, by decide +kernel, rfl, rfl⟩, ts_in (List.mem_of_getElem? (i := 1047) (by decide +kernel)) rfl, ts_in (List.mem_of_getElem? (i := 61) (by decide +kernel)) rfl⟩
abbrev mX10_at : MD := (yX10_at, cX10_at, 4, (some .int), { frames := 0, cells := 0, slots := 0, locals := 0 })
theorem M_X10_at : Ms mX10_at 4 := ⟨⟨ts_in (List.mem_of_getElem? (i := 1051) (by decide +kernel)) rfl, ts_in (List.mem_of_getElem? (i := 76) (by decide +kernel)) rfl, ⟨by decide +kernel, by decide +kernel⟩, by decide +kernel, rfl, rfl⟩, ts_in (List.mem_of_getElem? (i := 1050) (by decide +kernel)) rfl⟩
abbrev mX10_widen : MD := (yX10_widen, cX10_widen, 12, none, { frames := 1, cells := 0, slots := 0, locals := 24 })
theorem M_X10_widen : Mv mX10_widen 6 := ⟨⟨ts_in (List.mem_of_getElem? (i := 1055) (by decide +kernel)) rfl, ts_in (List.mem_of_getElem? (i := 76) (by decide +kernel)) rfl, ⟨by decide +kernel, by decide +kernel⟩, by decide +kernel, rfl, rfl⟩, ts_in (List.mem_of_getElem? (i := 1054) (by decide +kernel)) rfl, ts_in (List.mem_of_getElem? (i := 62) (by decide +kernel)) rfl⟩
abbrev mX10_walk : MD := (yX10_walk, cX10_walk, 8, none, { frames := 2, cells := 0, slots := 0, locals := 55 })
theorem M_X10_walk : Mv mX10_walk 1 := ⟨⟨ts_in (List.mem_of_getElem? (i := 1039) (by decide +kernel)) rfl, ts_in (List.mem_of_getElem? (i := 76) (by decide +kernel)) rfl, ⟨by decide +kernel, by decide +kernel⟩, by decide +kernel, rfl, rfl⟩, ts_in (List.mem_of_getElem? (i := 1038) (by decide +kernel)) rfl, ts_in (List.mem_of_getElem? (i := 59) (by decide +kernel)) rfl⟩
abbrev mX10_leastOf : MD := (yX10_leastOf, cX10_leastOf, 8, (some .int), { frames := 1, cells := 0, slots := 0, locals := 23 })
theorem M_X10_leastOf : Mv mX10_leastOf 1 := ⟨⟨ts_in (List.mem_of_getElem? (i := 1059) (by decide +kernel)) rfl, ts_in (List.mem_of_getElem? (i := 76) (by decide +kernel)) rfl, ⟨by decide +kernel, by decide +kernel⟩, by decide +kernel, rfl, rfl⟩, ts_in (List.mem_of_getElem? (i := 1058) (by decide +kernel)) rfl, ts_in (List.mem_of_getElem? (i := 63) (by decide +kernel)) rfl⟩
abbrev mX10_most : MD := (yX10_most, cX10_most, 3, (some .int), { frames := 3, cells := 0, slots := 0, locals := 82 })
theorem M_X10_most : Mv mX10_most 1 := ⟨⟨ts_in (List.mem_of_getElem? (i := 1035) (by decide +kernel)) rfl, ts_in (List.mem_of_getElem? (i := 76) (by decide +kernel)) rfl, ⟨by decide +kernel, by decide +kernel⟩, by decide +kernel, rfl, rfl⟩, ts_in (List.mem_of_getElem? (i := 1033) (by decide +kernel)) rfl, ts_in (List.mem_of_getElem? (i := 1034) (by decide +kernel)) rfl⟩
abbrev mX10_least : MD := (yX10_least, cX10_least, 4, (some .int), { frames := 3, cells := 0, slots := 0, locals := 82 })
theorem M_X10_least : Mv mX10_least 2 := ⟨⟨ts_in (List.mem_of_getElem? (i := 1063) (by decide +kernel)) rfl, ts_in (List.mem_of_getElem? (i := 76) (by decide +kernel)) rfl, ⟨by decide +kernel, by decide +kernel⟩, by decide +kernel, rfl, rfl⟩, ts_in (List.mem_of_getElem? (i := 1061) (by decide +kernel)) rfl, ts_in (List.mem_of_getElem? (i := 1062) (by decide +kernel)) rfl⟩
abbrev mX10_led : MD := (yX10_led, cX10_led, 5, (some .int), { frames := 2, cells := 0, slots := 0, locals := 45 })
theorem M_X10_led : Mv mX10_led 2 := ⟨⟨ts_in (List.mem_of_getElem? (i := 1067) (by decide +kernel)) rfl, ts_in (List.mem_of_getElem? (i := 76) (by decide +kernel)) rfl, ⟨by decide +kernel, by decide +kernel⟩, by decide +kernel, rfl, rfl⟩, ts_in (List.mem_of_getElem? (i := 1065) (by decide +kernel)) rfl, ts_in (List.mem_of_getElem? (i := 1066) (by decide +kernel)) rfl⟩
abbrev mX10_count : MD := (yX10_count, cX10_count, 4, (some .int), { frames := 0, cells := 0, slots := 0, locals := 0 })
theorem M_X10_count : Mv mX10_count 1 := ⟨⟨ts_in (List.mem_of_getElem? (i := 1071) (by decide +kernel)) rfl, ts_in (List.mem_of_getElem? (i := 76) (by decide +kernel)) rfl, ⟨by decide +kernel, by decide +kernel⟩, by decide +kernel, rfl, rfl⟩, ts_in (List.mem_of_getElem? (i := 1069) (by decide +kernel)) rfl, ts_in (List.mem_of_getElem? (i := 1070) (by decide +kernel)) rfl⟩
abbrev mX10_status : MD := (yX10_status, cX10_status, 1, (some .int), { frames := 0, cells := 0, slots := 0, locals := 0 })
theorem M_X10_status : Mv mX10_status 0 := ⟨⟨ts_in (List.mem_of_getElem? (i := 1075) (by decide +kernel)) rfl, ts_in (List.mem_of_getElem? (i := 76) (by decide +kernel)) rfl, ⟨by decide +kernel, by decide +kernel⟩, by decide +kernel, rfl, rfl⟩, ts_in (List.mem_of_getElem? (i := 1073) (by decide +kernel)) rfl, ts_in (List.mem_of_getElem? (i := 1074) (by decide +kernel)) rfl⟩
abbrev mJ0_length_8abf5 : MD := (yJ0_length_8abf5, cJ0_length_8abf5, 1, (some .int), { frames := 1, cells := 0, slots := 0, locals := 20 })
theorem M_J0_length_8abf5 : Mv mJ0_length_8abf5 0 := ⟨⟨ts_in (List.mem_of_getElem? (i := 474) (by decide +kernel)) rfl, ts_in (List.mem_of_getElem? (i := 77) (by decide +kernel)) rfl, ⟨by decide +kernel, by decide +kernel⟩, by decide +kernel, rfl, rfl⟩, ts_in (List.mem_of_getElem? (i := 472) (by decide +kernel)) rfl, ts_in (List.mem_of_getElem? (i := 473) (by decide +kernel)) rfl⟩
abbrev mJ0_charAt_5068e : MD := (yJ0_charAt_5068e, cJ0_charAt_5068e, 2, (some .char), { frames := 3, cells := 0, slots := 0, locals := 64 })
theorem M_J0_charAt_5068e : Mv mJ0_charAt_5068e 1 := ⟨⟨ts_in (List.mem_of_getElem? (i := 484) (by decide +kernel)) rfl, ts_in (List.mem_of_getElem? (i := 77) (by decide +kernel)) rfl, ⟨by decide +kernel, by decide +kernel⟩, by decide +kernel, rfl, rfl⟩, ts_in (List.mem_of_getElem? (i := 482) (by decide +kernel)) rfl, ts_in (List.mem_of_getElem? (i := 483) (by decide +kernel)) rfl⟩
abbrev mJ0_coder_7d493 : MD := (yJ0_coder_7d493, cJ0_coder_7d493, 1, (some .byte), { frames := 0, cells := 0, slots := 0, locals := 0 })
theorem M_J0_coder_7d493 : Mv mJ0_coder_7d493 0 := ⟨⟨ts_in (List.mem_of_getElem? (i := 478) (by decide +kernel)) rfl, ts_in (List.mem_of_getElem? (i := 77) (by decide +kernel)) rfl, ⟨by decide +kernel, by decide +kernel⟩, by decide +kernel, rfl, rfl⟩, ts_in (List.mem_of_getElem? (i := 476) (by decide +kernel)) rfl, ts_in (List.mem_of_getElem? (i := 477) (by decide +kernel)) rfl⟩
abbrev mJ0_isLatin1_aae02 : MD := (yJ0_isLatin1_aae02, cJ0_isLatin1_aae02, 1, (some .boolean), { frames := 0, cells := 0, slots := 0, locals := 0 })
theorem M_J0_isLatin1_aae02 : Mv mJ0_isLatin1_aae02 0 := ⟨⟨ts_in (List.mem_of_getElem? (i := 488) (by decide +kernel)) rfl, ts_in (List.mem_of_getElem? (i := 77) (by decide +kernel)) rfl, ⟨by decide +kernel, by decide +kernel⟩, by decide +kernel, rfl, rfl⟩, ts_in (List.mem_of_getElem? (i := 486) (by decide +kernel)) rfl, ts_in (List.mem_of_getElem? (i := 487) (by decide +kernel)) rfl⟩
abbrev mJ0_checkIndex_df160 : MD := (yJ0_checkIndex_df160, cJ0_checkIndex_df160, 2, none, { frames := 1, cells := 0, slots := 0, locals := 22 })
theorem M_J0_checkIndex_df160 : Ms mJ0_checkIndex_df160 2 := ⟨⟨ts_in (List.mem_of_getElem? (i := 494) (by decide +kernel)) rfl, ts_in (List.mem_of_getElem? (i := 77) (by decide +kernel)) rfl, ⟨by decide +kernel, by decide +kernel⟩, by decide +kernel, rfl, rfl⟩, ts_in (List.mem_of_getElem? (i := 493) (by decide +kernel)) rfl⟩
abbrev mJ1_charAt_3b067 : MD := (yJ1_charAt_3b067, cJ1_charAt_3b067, 2, (some .char), { frames := 2, cells := 0, slots := 0, locals := 43 })
theorem M_J1_charAt_3b067 : Ms mJ1_charAt_3b067 2 := ⟨⟨ts_in (List.mem_of_getElem? (i := 491) (by decide +kernel)) rfl, ts_in (List.mem_of_getElem? (i := 78) (by decide +kernel)) rfl, ⟨by decide +kernel, by decide +kernel⟩, by decide +kernel, rfl, rfl⟩, ts_in (List.mem_of_getElem? (i := 490) (by decide +kernel)) rfl⟩
abbrev mJ7_fill_d0a16 : MD := (yJ7_fill_d0a16, cJ7_fill_d0a16, 5, none, { frames := 0, cells := 0, slots := 0, locals := 0 })
theorem M_J7_fill_d0a16 : Ms mJ7_fill_d0a16 2 := ⟨⟨ts_in (List.mem_of_getElem? (i := 569) (by decide +kernel)) rfl, ts_in (List.mem_of_getElem? (i := 74) (by decide +kernel)) rfl, ⟨by decide +kernel, by decide +kernel⟩, by decide +kernel, rfl, rfl⟩, ts_in (List.mem_of_getElem? (i := 568) (by decide +kernel)) rfl⟩
abbrev mJ7_fill_53178 : MD := (yJ7_fill_53178, cJ7_fill_53178, 4, none, { frames := 0, cells := 0, slots := 0, locals := 0 })
theorem M_J7_fill_53178 : Ms mJ7_fill_53178 2 := ⟨⟨ts_in (List.mem_of_getElem? (i := 307) (by decide +kernel)) rfl, ts_in (List.mem_of_getElem? (i := 74) (by decide +kernel)) rfl, ⟨by decide +kernel, by decide +kernel⟩, by decide +kernel, rfl, rfl⟩, ts_in (List.mem_of_getElem? (i := 306) (by decide +kernel)) rfl⟩
abbrev mJ3_checkIndex_8e157 : MD := (yJ3_checkIndex_8e157, cJ3_checkIndex_8e157, 3, (some .int), { frames := 0, cells := 0, slots := 0, locals := 0 })
theorem M_J3_checkIndex_8e157 : Ms mJ3_checkIndex_8e157 3 := ⟨⟨ts_in (List.mem_of_getElem? (i := 499) (by decide +kernel)) rfl, ts_in (List.mem_of_getElem? (i := 79) (by decide +kernel)) rfl, ⟨by decide +kernel, by decide +kernel⟩, by decide +kernel, rfl, rfl⟩, ts_in (List.mem_of_getElem? (i := 498) (by decide +kernel)) rfl⟩
theorem Cn_X6_37 : Cond.constant RX6 37 (1000000) ∈ Ts := ts_in (List.mem_of_getElem? (i := 680) (by decide +kernel)) rfl
theorem Cn_X9_102 : Cond.constant RX9 102 (100000) ∈ Ts := ts_in (List.mem_of_getElem? (i := 416) (by decide +kernel)) rfl
theorem Cn_X9_205 : Cond.constant RX9 205 (1000000) ∈ Ts := ts_in (List.mem_of_getElem? (i := 711) (by decide +kernel)) rfl
theorem Cn_X10_278 : Cond.constant RX10 278 (1000000000) ∈ Ts := ts_in (List.mem_of_getElem? (i := 1044) (by decide +kernel)) rfl
theorem Cn_X1_144 : Cond.constantLong RX1 144 (1073741824) ∈ Ts := ts_in (List.mem_of_getElem? (i := 611) (by decide +kernel)) rfl
theorem Cn_X5_32 : Cond.constantLong RX5 32 (100) ∈ Ts := ts_in (List.mem_of_getElem? (i := 634) (by decide +kernel)) rfl
theorem Cn_X9_127 : Cond.constantLong RX9 127 (-1) ∈ Ts := ts_in (List.mem_of_getElem? (i := 562) (by decide +kernel)) rfl
theorem Cn_X10_123 : Cond.constantLong RX10 123 (400) ∈ Ts := ts_in (List.mem_of_getElem? (i := 916) (by decide +kernel)) rfl
theorem Cn_X10_132 : Cond.constantLong RX10 132 (9) ∈ Ts := ts_in (List.mem_of_getElem? (i := 898) (by decide +kernel)) rfl
theorem Cn_X10_134 : Cond.constantLong RX10 134 (1000) ∈ Ts := ts_in (List.mem_of_getElem? (i := 902) (by decide +kernel)) rfl
theorem Cn_X10_136 : Cond.constantLong RX10 136 (50) ∈ Ts := ts_in (List.mem_of_getElem? (i := 903) (by decide +kernel)) rfl
theorem Cn_X10_142 : Cond.constantLong RX10 142 (100000) ∈ Ts := ts_in (List.mem_of_getElem? (i := 912) (by decide +kernel)) rfl
theorem Cn_X10_154 : Cond.constantLong RX10 154 (4) ∈ Ts := ts_in (List.mem_of_getElem? (i := 925) (by decide +kernel)) rfl
theorem Cn_X10_185 : Cond.constantLong RX10 185 (32) ∈ Ts := ts_in (List.mem_of_getElem? (i := 952) (by decide +kernel)) rfl
theorem Cn_X10_187 : Cond.constantLong RX10 187 (96) ∈ Ts := ts_in (List.mem_of_getElem? (i := 953) (by decide +kernel)) rfl
theorem Cn_X10_189 : Cond.constantLong RX10 189 (-1) ∈ Ts := ts_in (List.mem_of_getElem? (i := 954) (by decide +kernel)) rfl
theorem Cn_X10_191 : Cond.constantLong RX10 191 (10000) ∈ Ts := ts_in (List.mem_of_getElem? (i := 955) (by decide +kernel)) rfl
theorem Cn_X10_193 : Cond.constantLong RX10 193 (10) ∈ Ts := ts_in (List.mem_of_getElem? (i := 956) (by decide +kernel)) rfl
theorem Cn_X10_195 : Cond.constantLong RX10 195 (48) ∈ Ts := ts_in (List.mem_of_getElem? (i := 957) (by decide +kernel)) rfl
theorem Cn_X10_229 : Cond.constantLong RX10 229 (59) ∈ Ts := ts_in (List.mem_of_getElem? (i := 978) (by decide +kernel)) rfl
theorem Cn_X10_234 : Cond.constantLong RX10 234 (1000000000) ∈ Ts := ts_in (List.mem_of_getElem? (i := 1000) (by decide +kernel)) rfl
theorem Cn_X10_243 : Cond.constantLong RX10 243 (2) ∈ Ts := ts_in (List.mem_of_getElem? (i := 1009) (by decide +kernel)) rfl
theorem Cn_X10_252 : Cond.constantLong RX10 252 (100) ∈ Ts := ts_in (List.mem_of_getElem? (i := 991) (by decide +kernel)) rfl
theorem Cn_X10_264 : Cond.constantLong RX10 264 (3) ∈ Ts := ts_in (List.mem_of_getElem? (i := 1022) (by decide +kernel)) rfl
theorem Cn_X10_266 : Cond.constantLong RX10 266 (5000) ∈ Ts := ts_in (List.mem_of_getElem? (i := 1027) (by decide +kernel)) rfl
theorem Ml_X1_113 : Ml RX1 113 mX1_pay := Or.inl (ts_in (List.mem_of_getElem? (i := 592) (by decide +kernel)) rfl)
theorem Ml_X1_117 : Ml RX1 117 mX1_debt := Or.inl (ts_in (List.mem_of_getElem? (i := 596) (by decide +kernel)) rfl)
theorem Ml_X1_120 : Ml RX1 120 mX1_giveEvenly := Or.inl (ts_in (List.mem_of_getElem? (i := 600) (by decide +kernel)) rfl)
theorem Ml_X1_124 : Ml RX1 124 mX1_payDebts := Or.inl (ts_in (List.mem_of_getElem? (i := 616) (by decide +kernel)) rfl)
theorem Ml_X1_137 : Ml RX1 137 mX1_greatestLevel := Or.inl (ts_in (List.mem_of_getElem? (i := 607) (by decide +kernel)) rfl)
theorem Ml_X1_140 : Ml RX1 140 mX1_sumAtLevel := Or.inl (ts_in (List.mem_of_getElem? (i := 612) (by decide +kernel)) rfl)
theorem Ml_X1_36 : Ml RX1 36 mJ7_fill_d0a16 := Or.inl (ts_in (List.mem_of_getElem? (i := 567) (by decide +kernel)) rfl)
theorem Ml_X1_42 : Ml RX1 42 mX1_addCredits := Or.inl (ts_in (List.mem_of_getElem? (i := 570) (by decide +kernel)) rfl)
theorem Ml_X1_46 : Ml RX1 46 mX1_addBaskets := Or.inl (ts_in (List.mem_of_getElem? (i := 574) (by decide +kernel)) rfl)
theorem Ml_X2_106 : Ml RX2 106 mX2_kindAt := Or.inl (ts_in (List.mem_of_getElem? (i := 458) (by decide +kernel)) rfl)
theorem Ml_X2_110 : Ml RX2 110 mJ0_length_8abf5 := Or.inl (ts_in (List.mem_of_getElem? (i := 471) (by decide +kernel)) rfl)
theorem Ml_X2_114 : Ml RX2 114 mJ0_charAt_5068e := Or.inl (ts_in (List.mem_of_getElem? (i := 481) (by decide +kernel)) rfl)
theorem Ml_X2_28 : Ml RX2 28 mX2_next := Or.inl (ts_in (List.mem_of_getElem? (i := 454) (by decide +kernel)) rfl)
theorem Ml_X2_34 : Ml RX2 34 mX2_readClause := Or.inl (ts_in (List.mem_of_getElem? (i := 462) (by decide +kernel)) rfl)
theorem Ml_X2_44 : Ml RX2 44 mX2_isSemicolon := Or.inl (ts_in (List.mem_of_getElem? (i := 549) (by decide +kernel)) rfl)
theorem Ml_X2_49 : Ml RX2 49 mX2_isWord := Or.inl (ts_in (List.mem_of_getElem? (i := 467) (by decide +kernel)) rfl)
theorem Ml_X2_53 : Ml RX2 53 mX2_readPrice := Or.inl (ts_in (List.mem_of_getElem? (i := 519) (by decide +kernel)) rfl)
theorem Ml_X2_58 : Ml RX2 58 mX2_readQuota := Or.inl (ts_in (List.mem_of_getElem? (i := 532) (by decide +kernel)) rfl)
theorem Ml_X2_63 : Ml RX2 63 mX2_readShare := Or.inl (ts_in (List.mem_of_getElem? (i := 537) (by decide +kernel)) rfl)
theorem Ml_X2_73 : Ml RX2 73 mX2_number := Or.inl (ts_in (List.mem_of_getElem? (i := 523) (by decide +kernel)) rfl)
theorem Ml_X5_28 : Ml RX5 28 mX5_lostAt := Or.inl (ts_in (List.mem_of_getElem? (i := 630) (by decide +kernel)) rfl)
theorem Ml_X6_38 : Ml RX6 38 mJ7_fill_53178 := Or.inl (ts_in (List.mem_of_getElem? (i := 681) (by decide +kernel)) rfl)
theorem Ml_X6_44 : Ml RX6 44 mX6_cellOf := Or.inl (ts_in (List.mem_of_getElem? (i := 682) (by decide +kernel)) rfl)
theorem Ml_X6_48 : Ml RX6 48 mX6_goOnFrom := Or.inl (ts_in (List.mem_of_getElem? (i := 686) (by decide +kernel)) rfl)
theorem Ml_X6_52 : Ml RX6 52 mX6_placeAtEnd := Or.inl (ts_in (List.mem_of_getElem? (i := 690) (by decide +kernel)) rfl)
theorem Ml_X6_62 : Ml RX6 62 mX6_arrive := Or.inl (ts_in (List.mem_of_getElem? (i := 695) (by decide +kernel)) rfl)
theorem Ml_X8_21 : Ml RX8 21 mX8_reset := Or.inl (ts_in (List.mem_of_getElem? (i := 301) (by decide +kernel)) rfl)
theorem Ml_X8_24 : Ml RX8 24 mJ7_fill_53178 := Or.inl (ts_in (List.mem_of_getElem? (i := 305) (by decide +kernel)) rfl)
theorem Ml_X8_30 : Ml RX8 30 mX8_setShare := Or.inl (ts_in (List.mem_of_getElem? (i := 308) (by decide +kernel)) rfl)
theorem Ml_X9_103 : Ml RX9 103 mX9_isNoFarmer := Or.inl (ts_in (List.mem_of_getElem? (i := 417) (by decide +kernel)) rfl)
theorem Ml_X9_167 : Ml RX9 167 mX9_foretold := Or.inl (ts_in (List.mem_of_getElem? (i := 622) (by decide +kernel)) rfl)
theorem Ml_X9_170 : Ml RX9 170 mX9_isShort := Or.inl (ts_in (List.mem_of_getElem? (i := 635) (by decide +kernel)) rfl)
theorem Ml_X9_84 : Ml RX9 84 mX9_outside := Or.inl (ts_in (List.mem_of_getElem? (i := 397) (by decide +kernel)) rfl)
theorem Ml_X9_88 : Ml RX9 88 mX9_refuse := Or.inl (ts_in (List.mem_of_getElem? (i := 400) (by decide +kernel)) rfl)
theorem Ml_X9_99 : Ml RX9 99 mX9_accept := Or.inl (ts_in (List.mem_of_getElem? (i := 408) (by decide +kernel)) rfl)
theorem Ml_X10_125 : Ml RX10 125 mX10_in := Or.inl (ts_in (List.mem_of_getElem? (i := 899) (by decide +kernel)) rfl)
theorem Ml_X10_138 : Ml RX10 138 mX10_told := Or.inl (ts_in (List.mem_of_getElem? (i := 904) (by decide +kernel)) rfl)
theorem Ml_X10_144 : Ml RX10 144 mX10_isDay := Or.inl (ts_in (List.mem_of_getElem? (i := 913) (by decide +kernel)) rfl)
theorem Ml_X10_148 : Ml RX10 148 mX10_isFarmer := Or.inl (ts_in (List.mem_of_getElem? (i := 917) (by decide +kernel)) rfl)
theorem Ml_X10_162 : Ml RX10 162 mX10_four := Or.inl (ts_in (List.mem_of_getElem? (i := 930) (by decide +kernel)) rfl)
theorem Ml_X10_176 : Ml RX10 176 mX10_isSmall := Or.inl (ts_in (List.mem_of_getElem? (i := 946) (by decide +kernel)) rfl)
theorem Ml_X10_179 : Ml RX10 179 mX10_isDigit := Or.inl (ts_in (List.mem_of_getElem? (i := 949) (by decide +kernel)) rfl)
theorem Ml_X10_201 : Ml RX10 201 mX10_next := Or.inl (ts_in (List.mem_of_getElem? (i := 942) (by decide +kernel)) rfl)
theorem Ml_X10_204 : Ml RX10 204 mX10_must := Or.inl (ts_in (List.mem_of_getElem? (i := 970) (by decide +kernel)) rfl)
theorem Ml_X10_208 : Ml RX10 208 mX10_isWord := Or.inl (ts_in (List.mem_of_getElem? (i := 962) (by decide +kernel)) rfl)
theorem Ml_X10_212 : Ml RX10 212 mX10_partAt := Or.inl (ts_in (List.mem_of_getElem? (i := 966) (by decide +kernel)) rfl)
theorem Ml_X10_219 : Ml RX10 219 mX10_number := Or.inl (ts_in (List.mem_of_getElem? (i := 974) (by decide +kernel)) rfl)
theorem Ml_X10_226 : Ml RX10 226 mX10_readClause := Or.inl (ts_in (List.mem_of_getElem? (i := 958) (by decide +kernel)) rfl)
theorem Ml_X10_236 : Ml RX10 236 mX10_partOf := Or.inl (ts_in (List.mem_of_getElem? (i := 1001) (by decide +kernel)) rfl)
theorem Ml_X10_240 : Ml RX10 240 mX10_stand := Or.inl (ts_in (List.mem_of_getElem? (i := 1005) (by decide +kernel)) rfl)
theorem Ml_X10_245 : Ml RX10 245 mX10_givenAt := Or.inl (ts_in (List.mem_of_getElem? (i := 1010) (by decide +kernel)) rfl)
theorem Ml_X10_257 : Ml RX10 257 mX10_reckon := Or.inl (ts_in (List.mem_of_getElem? (i := 996) (by decide +kernel)) rfl)
theorem Ml_X10_260 : Ml RX10 260 mX10_foretold := Or.inl (ts_in (List.mem_of_getElem? (i := 1014) (by decide +kernel)) rfl)
theorem Ml_X10_274 : Ml RX10 274 mX10_at := Or.inl (ts_in (List.mem_of_getElem? (i := 1049) (by decide +kernel)) rfl)
theorem Ml_X10_279 : Ml RX10 279 mX10_metAt := Or.inl (ts_in (List.mem_of_getElem? (i := 1045) (by decide +kernel)) rfl)
theorem Ml_X10_283 : Ml RX10 283 mX10_addPlace := Or.inl (ts_in (List.mem_of_getElem? (i := 1040) (by decide +kernel)) rfl)
theorem Ml_X10_286 : Ml RX10 286 mX10_widen := Or.inl (ts_in (List.mem_of_getElem? (i := 1052) (by decide +kernel)) rfl)
theorem Ml_X10_290 : Ml RX10 290 mX10_walk := Or.inl (ts_in (List.mem_of_getElem? (i := 1036) (by decide +kernel)) rfl)
theorem Ml_X10_293 : Ml RX10 293 mX10_leastOf := Or.inl (ts_in (List.mem_of_getElem? (i := 1056) (by decide +kernel)) rfl)
theorem Ml_J0_1059 : Ml RJ0 1059 mJ3_checkIndex_8e157 := Or.inl (ts_in (List.mem_of_getElem? (i := 497) (by decide +kernel)) rfl)
theorem Ml_J0_335 : Ml RJ0 335 mJ0_coder_7d493 := Or.inl (ts_in (List.mem_of_getElem? (i := 475) (by decide +kernel)) rfl)
theorem Ml_J0_492 : Ml RJ0 492 mJ0_isLatin1_aae02 := Or.inl (ts_in (List.mem_of_getElem? (i := 485) (by decide +kernel)) rfl)
theorem Ml_J0_495 : Ml RJ0 495 mJ1_charAt_3b067 := Or.inl (ts_in (List.mem_of_getElem? (i := 489) (by decide +kernel)) rfl)
theorem Ml_J1_9 : Ml RJ1 9 mJ0_checkIndex_df160 := Or.inl (ts_in (List.mem_of_getElem? (i := 492) (by decide +kernel)) rfl)
theorem Ml_X1_58 : Ml RX1 58 mX8_shareOf := Or.inr ⟨"MillFarmers", tn_in (List.mem_of_getElem? (i := 584) (by decide +kernel)) rfl⟩
theorem Ml_X2_19 : Ml RX2 19 mX8_reset := Or.inr ⟨"MillFarmers", tn_in (List.mem_of_getElem? (i := 453) (by decide +kernel)) rfl⟩
theorem Ml_X2_77 : Ml RX2 77 mX9_outside := Or.inr ⟨"MillFarmers", tn_in (List.mem_of_getElem? (i := 530) (by decide +kernel)) rfl⟩
theorem Ml_X2_94 : Ml RX2 94 mX8_setShare := Or.inr ⟨"MillFarmers", tn_in (List.mem_of_getElem? (i := 545) (by decide +kernel)) rfl⟩
theorem Ml_X9_108 : Ml RX9 108 mX3_add := Or.inr ⟨"MillFarmers", tn_in (List.mem_of_getElem? (i := 421) (by decide +kernel)) rfl⟩
theorem Ml_X9_110 : Ml RX9 110 mX0_add := Or.inr ⟨"MillFarmers", tn_in (List.mem_of_getElem? (i := 429) (by decide +kernel)) rfl⟩
theorem Ml_X9_116 : Ml RX9 116 mX7_append := Or.inr ⟨"MillFarmers", tn_in (List.mem_of_getElem? (i := 437) (by decide +kernel)) rfl⟩
theorem Ml_X9_120 : Ml RX9 120 mX2_read := Or.inr ⟨"MillFarmers", tn_in (List.mem_of_getElem? (i := 449) (by decide +kernel)) rfl⟩
theorem Ml_X9_129 : Ml RX9 129 mX1_draw := Or.inr ⟨"MillFarmers", tn_in (List.mem_of_getElem? (i := 563) (by decide +kernel)) rfl⟩
theorem Ml_X9_137 : Ml RX9 137 mX1_stand := Or.inr ⟨"MillFarmers", tn_in (List.mem_of_getElem? (i := 588) (by decide +kernel)) rfl⟩
theorem Ml_X9_154 : Ml RX9 154 mX1_pay := Or.inr ⟨"MillFarmers", tn_in (List.mem_of_getElem? (i := 620) (by decide +kernel)) rfl⟩
theorem Ml_X9_158 : Ml RX9 158 mX1_debt := Or.inr ⟨"MillFarmers", tn_in (List.mem_of_getElem? (i := 621) (by decide +kernel)) rfl⟩
theorem Ml_X9_173 : Ml RX9 173 mX4_howManyIn := Or.inr ⟨"MillFarmers", tn_in (List.mem_of_getElem? (i := 644) (by decide +kernel)) rfl⟩
theorem Ml_X9_187 : Ml RX9 187 mX5_add := Or.inr ⟨"MillFarmers", tn_in (List.mem_of_getElem? (i := 656) (by decide +kernel)) rfl⟩
theorem Ml_X9_192 : Ml RX9 192 mX6_add := Or.inr ⟨"MillFarmers", tn_in (List.mem_of_getElem? (i := 664) (by decide +kernel)) rfl⟩
theorem Ml_X9_195 : Ml RX9 195 mX6_walk := Or.inr ⟨"MillFarmers", tn_in (List.mem_of_getElem? (i := 676) (by decide +kernel)) rfl⟩
theorem Ml_X9_198 : Ml RX9 198 mX6_mostMet := Or.inr ⟨"MillFarmers", tn_in (List.mem_of_getElem? (i := 699) (by decide +kernel)) rfl⟩
theorem Ml_X9_202 : Ml RX9 202 mX6_firstHourWith := Or.inr ⟨"MillFarmers", tn_in (List.mem_of_getElem? (i := 707) (by decide +kernel)) rfl⟩
theorem Ml_X9_206 : Ml RX9 206 mX0_ownerOf := Or.inr ⟨"MillFarmers", tn_in (List.mem_of_getElem? (i := 716) (by decide +kernel)) rfl⟩
theorem Ml_X9_216 : Ml RX9 216 mX5_foretold := Or.inr ⟨"MillFarmers", tn_in (List.mem_of_getElem? (i := 626) (by decide +kernel)) rfl⟩
theorem Ml_X9_219 : Ml RX9 219 mX8_shareOf := Or.inr ⟨"MillFarmers", tn_in (List.mem_of_getElem? (i := 639) (by decide +kernel)) rfl⟩
theorem Ml_X9_95 : Ml RX9 95 mX4_add := Or.inr ⟨"MillFarmers", tn_in (List.mem_of_getElem? (i := 404) (by decide +kernel)) rfl⟩
theorem In_Math : Cond.initialized "java/lang/Math" ∈ Ts := ts_in (List.mem_of_getElem? (i := 81) (by decide +kernel)) rfl
theorem In_System : Cond.initialized "java/lang/System" ∈ Ts := ts_in (List.mem_of_getElem? (i := 82) (by decide +kernel)) rfl
theorem Fs_SIOOBE : Cond.fieldLink RJ0 1053 "jdk/internal/util/Preconditions" "SIOOBE_FORMATTER" "Ljava/util/function/BiFunction;" ∈ Ts := ts_in (List.mem_of_getElem? (i := 495) (by decide +kernel)) rfl
theorem Fs_value : Cond.fieldLink RJ0 9 "java/lang/String" "value" "[B" ∈ Ts := ts_in (List.mem_of_getElem? (i := 1076) (by decide +kernel)) rfl
theorem Fs_coder : Cond.fieldLink RJ0 15 "java/lang/String" "coder" "B" ∈ Ts := ts_in (List.mem_of_getElem? (i := 1077) (by decide +kernel)) rfl
theorem Fs_COMPACT_STRINGS : Cond.fieldLink RJ0 38 "java/lang/String" "COMPACT_STRINGS" "Z" ∈ Ts := ts_in (List.mem_of_getElem? (i := 479) (by decide +kernel)) rfl
