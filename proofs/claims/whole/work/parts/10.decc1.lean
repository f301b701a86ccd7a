theorem dX6_goOnFrom_25 : decode cX6_goOnFrom 25 = .ok (.iload_n 1, 1) := by decide +kernel
theorem dX6_goOnFrom_26 : decode cX6_goOnFrom 26 = .ok (.iload_n 2, 1) := by decide +kernel
theorem dX6_goOnFrom_27 : decode cX6_goOnFrom 27 = .ok (.iload_n 3, 1) := by decide +kernel
theorem dX6_goOnFrom_28 : decode cX6_goOnFrom 28 = .ok (.iload 5, 2) := by decide +kernel
theorem dX6_goOnFrom_30 : decode cX6_goOnFrom 30 = .ok (.invokevirtual 44, 3) := by decide +kernel
theorem dX6_goOnFrom_33 : decode cX6_goOnFrom 33 = .ok (.iaload, 1) := by decide +kernel
theorem dX6_goOnFrom_34 : decode cX6_goOnFrom 34 = .ok (.istore 6, 2) := by decide +kernel
theorem dX6_goOnFrom_36 : decode cX6_goOnFrom 36 = .ok (.iload 6, 2) := by decide +kernel
theorem dX6_goOnFrom_38 : decode cX6_goOnFrom 38 = .ok (.ldc 37, 2) := by decide +kernel
theorem dX6_goOnFrom_40 : decode cX6_goOnFrom 40 = .ok (.if_icmp .ne 6, 3) := by decide +kernel
theorem dX6_goOnFrom_43 : decode cX6_goOnFrom 43 = .ok (.goto 134, 3) := by decide +kernel
theorem dX6_goOnFrom_46 : decode cX6_goOnFrom 46 = .ok (.aload_n 0, 1) := by decide +kernel
theorem dX6_goOnFrom_47 : decode cX6_goOnFrom 47 = .ok (.getfield 21, 3) := by decide +kernel
theorem dX6_goOnFrom_50 : decode cX6_goOnFrom 50 = .ok (.iload 5, 2) := by decide +kernel
theorem dX6_goOnFrom_52 : decode cX6_goOnFrom 52 = .ok (.aload_n 0, 1) := by decide +kernel
theorem dX6_goOnFrom_53 : decode cX6_goOnFrom 53 = .ok (.getfield 21, 3) := by decide +kernel
theorem dX6_goOnFrom_56 : decode cX6_goOnFrom 56 = .ok (.iload 5, 2) := by decide +kernel
theorem dX6_goOnFrom_58 : decode cX6_goOnFrom 58 = .ok (.iaload, 1) := by decide +kernel
theorem dX6_goOnFrom_59 : decode cX6_goOnFrom 59 = .ok (.iload 6, 2) := by decide +kernel
theorem dX6_goOnFrom_61 : decode cX6_goOnFrom 61 = .ok (.invokestatic 56, 3) := by decide +kernel
theorem dX6_goOnFrom_64 : decode cX6_goOnFrom 64 = .ok (.iastore, 1) := by decide +kernel
theorem dX6_goOnFrom_65 : decode cX6_goOnFrom 65 = .ok (.iload_n 1, 1) := by decide +kernel
theorem dX6_goOnFrom_66 : decode cX6_goOnFrom 66 = .ok (.aload_n 0, 1) := by decide +kernel
theorem dX6_goOnFrom_67 : decode cX6_goOnFrom 67 = .ok (.getfield 31, 3) := by decide +kernel
theorem dX6_goOnFrom_70 : decode cX6_goOnFrom 70 = .ok (.if_icmp .ge 52, 3) := by decide +kernel
theorem dX6_goOnFrom_73 : decode cX6_goOnFrom 73 = .ok (.aload_n 0, 1) := by decide +kernel
theorem dX6_goOnFrom_74 : decode cX6_goOnFrom 74 = .ok (.getfield 31, 3) := by decide +kernel
theorem dX6_goOnFrom_77 : decode cX6_goOnFrom 77 = .ok (.iload_n 1, 1) := by decide +kernel
theorem dX6_goOnFrom_78 : decode cX6_goOnFrom 78 = .ok (.isub, 1) := by decide +kernel
theorem dX6_goOnFrom_79 : decode cX6_goOnFrom 79 = .ok (.iconst 1, 1) := by decide +kernel
theorem dX6_goOnFrom_80 : decode cX6_goOnFrom 80 = .ok (.isub, 1) := by decide +kernel
theorem dX6_goOnFrom_81 : decode cX6_goOnFrom 81 = .ok (.istore 7, 2) := by decide +kernel
theorem dX6_goOnFrom_83 : decode cX6_goOnFrom 83 = .ok (.iload 6, 2) := by decide +kernel
theorem dX6_goOnFrom_85 : decode cX6_goOnFrom 85 = .ok (.iload 4, 2) := by decide +kernel
theorem dX6_goOnFrom_87 : decode cX6_goOnFrom 87 = .ok (.iadd, 1) := by decide +kernel
theorem dX6_goOnFrom_88 : decode cX6_goOnFrom 88 = .ok (.aload_n 0, 1) := by decide +kernel
theorem dX6_goOnFrom_89 : decode cX6_goOnFrom 89 = .ok (.getfield 9, 3) := by decide +kernel
theorem dX6_goOnFrom_92 : decode cX6_goOnFrom 92 = .ok (.iload 7, 2) := by decide +kernel
theorem dX6_goOnFrom_94 : decode cX6_goOnFrom 94 = .ok (.iaload, 1) := by decide +kernel
theorem dX6_goOnFrom_95 : decode cX6_goOnFrom 95 = .ok (.isub, 1) := by decide +kernel
theorem dX6_goOnFrom_96 : decode cX6_goOnFrom 96 = .ok (.istore 8, 2) := by decide +kernel
theorem dX6_goOnFrom_98 : decode cX6_goOnFrom 98 = .ok (.aload_n 0, 1) := by decide +kernel
theorem dX6_goOnFrom_99 : decode cX6_goOnFrom 99 = .ok (.aload_n 0, 1) := by decide +kernel
theorem dX6_goOnFrom_100 : decode cX6_goOnFrom 100 = .ok (.iload_n 1, 1) := by decide +kernel
theorem dX6_goOnFrom_101 : decode cX6_goOnFrom 101 = .ok (.iconst 1, 1) := by decide +kernel
theorem dX6_goOnFrom_102 : decode cX6_goOnFrom 102 = .ok (.iadd, 1) := by decide +kernel
theorem dX6_goOnFrom_103 : decode cX6_goOnFrom 103 = .ok (.iload_n 2, 1) := by decide +kernel
theorem dX6_goOnFrom_104 : decode cX6_goOnFrom 104 = .ok (.iconst 0, 1) := by decide +kernel
theorem dX6_goOnFrom_105 : decode cX6_goOnFrom 105 = .ok (.iload 5, 2) := by decide +kernel
theorem dX6_goOnFrom_107 : decode cX6_goOnFrom 107 = .ok (.invokevirtual 44, 3) := by decide +kernel
theorem dX6_goOnFrom_110 : decode cX6_goOnFrom 110 = .ok (.iload 8, 2) := by decide +kernel
theorem dX6_goOnFrom_112 : decode cX6_goOnFrom 112 = .ok (.aload_n 0, 1) := by decide +kernel
theorem dX6_goOnFrom_113 : decode cX6_goOnFrom 113 = .ok (.getfield 15, 3) := by decide +kernel
theorem dX6_goOnFrom_116 : decode cX6_goOnFrom 116 = .ok (.iload 7, 2) := by decide +kernel
theorem dX6_goOnFrom_118 : decode cX6_goOnFrom 118 = .ok (.iaload, 1) := by decide +kernel
theorem dX6_goOnFrom_119 : decode cX6_goOnFrom 119 = .ok (.invokevirtual 62, 3) := by decide +kernel
theorem dX6_goOnFrom_122 : decode cX6_goOnFrom 122 = .ok (.iload_n 2, 1) := by decide +kernel
theorem dX6_goOnFrom_123 : decode cX6_goOnFrom 123 = .ok (.aload_n 0, 1) := by decide +kernel
theorem dX6_goOnFrom_124 : decode cX6_goOnFrom 124 = .ok (.getfield 34, 3) := by decide +kernel
theorem dX6_goOnFrom_127 : decode cX6_goOnFrom 127 = .ok (.if_icmp .ge 50, 3) := by decide +kernel
theorem dX6_goOnFrom_130 : decode cX6_goOnFrom 130 = .ok (.aload_n 0, 1) := by decide +kernel
theorem dX6_goOnFrom_131 : decode cX6_goOnFrom 131 = .ok (.getfield 31, 3) := by decide +kernel
theorem dX6_goOnFrom_134 : decode cX6_goOnFrom 134 = .ok (.iload_n 2, 1) := by decide +kernel
theorem dX6_goOnFrom_135 : decode cX6_goOnFrom 135 = .ok (.iadd, 1) := by decide +kernel
theorem dX6_goOnFrom_136 : decode cX6_goOnFrom 136 = .ok (.istore 7, 2) := by decide +kernel
theorem dX6_goOnFrom_138 : decode cX6_goOnFrom 138 = .ok (.iload 6, 2) := by decide +kernel
theorem dX6_goOnFrom_140 : decode cX6_goOnFrom 140 = .ok (.aload_n 0, 1) := by decide +kernel
theorem dX6_goOnFrom_141 : decode cX6_goOnFrom 141 = .ok (.getfield 9, 3) := by decide +kernel
theorem dX6_goOnFrom_144 : decode cX6_goOnFrom 144 = .ok (.iload 7, 2) := by decide +kernel
theorem dX6_goOnFrom_146 : decode cX6_goOnFrom 146 = .ok (.iaload, 1) := by decide +kernel
theorem dX6_goOnFrom_147 : decode cX6_goOnFrom 147 = .ok (.iadd, 1) := by decide +kernel
theorem dX6_goOnFrom_148 : decode cX6_goOnFrom 148 = .ok (.iload 4, 2) := by decide +kernel
theorem dX6_goOnFrom_150 : decode cX6_goOnFrom 150 = .ok (.isub, 1) := by decide +kernel
theorem dX6_goOnFrom_151 : decode cX6_goOnFrom 151 = .ok (.istore 8, 2) := by decide +kernel
theorem dX6_goOnFrom_153 : decode cX6_goOnFrom 153 = .ok (.aload_n 0, 1) := by decide +kernel
theorem dX6_goOnFrom_154 : decode cX6_goOnFrom 154 = .ok (.aload_n 0, 1) := by decide +kernel
theorem dX6_goOnFrom_155 : decode cX6_goOnFrom 155 = .ok (.iload_n 1, 1) := by decide +kernel
theorem dX6_goOnFrom_156 : decode cX6_goOnFrom 156 = .ok (.iload_n 2, 1) := by decide +kernel
theorem dX6_goOnFrom_157 : decode cX6_goOnFrom 157 = .ok (.iconst 1, 1) := by decide +kernel
theorem dX6_goOnFrom_158 : decode cX6_goOnFrom 158 = .ok (.iadd, 1) := by decide +kernel
theorem dX6_goOnFrom_159 : decode cX6_goOnFrom 159 = .ok (.iconst 1, 1) := by decide +kernel
theorem dX6_goOnFrom_160 : decode cX6_goOnFrom 160 = .ok (.iload 5, 2) := by decide +kernel
theorem dX6_goOnFrom_162 : decode cX6_goOnFrom 162 = .ok (.invokevirtual 44, 3) := by decide +kernel
theorem dX6_goOnFrom_165 : decode cX6_goOnFrom 165 = .ok (.iload 8, 2) := by decide +kernel
theorem dX6_goOnFrom_167 : decode cX6_goOnFrom 167 = .ok (.aload_n 0, 1) := by decide +kernel
theorem dX6_goOnFrom_168 : decode cX6_goOnFrom 168 = .ok (.getfield 15, 3) := by decide +kernel
theorem dX6_goOnFrom_171 : decode cX6_goOnFrom 171 = .ok (.iload 7, 2) := by decide +kernel
theorem dX6_goOnFrom_173 : decode cX6_goOnFrom 173 = .ok (.iaload, 1) := by decide +kernel
theorem dX6_goOnFrom_174 : decode cX6_goOnFrom 174 = .ok (.invokevirtual 62, 3) := by decide +kernel
theorem dX6_goOnFrom_177 : decode cX6_goOnFrom 177 = .ok (.iinc 5 1, 3) := by decide +kernel
theorem dX6_goOnFrom_180 : decode cX6_goOnFrom 180 = .ok (.goto (-168), 3) := by decide +kernel
theorem dX6_goOnFrom_183 : decode cX6_goOnFrom 183 = .ok (.return_, 1) := by decide +kernel
theorem dX6_arrive_0 : decode cX6_arrive 0 = .ok (.iload_n 2, 1) := by decide +kernel
theorem dX6_arrive_1 : decode cX6_arrive 1 = .ok (.iload_n 3, 1) := by decide +kernel
theorem dX6_arrive_2 : decode cX6_arrive 2 = .ok (.if_icmp .gt 9, 3) := by decide +kernel
theorem dX6_arrive_5 : decode cX6_arrive 5 = .ok (.iload_n 1, 1) := by decide +kernel
theorem dX6_arrive_6 : decode cX6_arrive 6 = .ok (.iconst 1, 1) := by decide +kernel
theorem dX6_arrive_7 : decode cX6_arrive 7 = .ok (.iadd, 1) := by decide +kernel
theorem dX6_arrive_8 : decode cX6_arrive 8 = .ok (.goto 4, 3) := by decide +kernel
theorem dX6_arrive_11 : decode cX6_arrive 11 = .ok (.iload_n 1, 1) := by decide +kernel
theorem dX6_arrive_12 : decode cX6_arrive 12 = .ok (.istore 4, 2) := by decide +kernel
theorem dX6_arrive_14 : decode cX6_arrive 14 = .ok (.aload_n 0, 1) := by decide +kernel
theorem dX6_arrive_15 : decode cX6_arrive 15 = .ok (.getfield 18, 3) := by decide +kernel
theorem dX6_arrive_18 : decode cX6_arrive 18 = .ok (.iload 4, 2) := by decide +kernel
theorem dX6_arrive_20 : decode cX6_arrive 20 = .ok (.aload_n 0, 1) := by decide +kernel
theorem dX6_arrive_21 : decode cX6_arrive 21 = .ok (.getfield 18, 3) := by decide +kernel
theorem dX6_arrive_24 : decode cX6_arrive 24 = .ok (.iload 4, 2) := by decide +kernel
theorem dX6_arrive_26 : decode cX6_arrive 26 = .ok (.iaload, 1) := by decide +kernel
theorem dX6_arrive_27 : decode cX6_arrive 27 = .ok (.iload_n 2, 1) := by decide +kernel
theorem dX6_arrive_28 : decode cX6_arrive 28 = .ok (.invokestatic 56, 3) := by decide +kernel
theorem dX6_arrive_31 : decode cX6_arrive 31 = .ok (.iastore, 1) := by decide +kernel
theorem dX6_arrive_32 : decode cX6_arrive 32 = .ok (.return_, 1) := by decide +kernel
theorem dX6_placeAtEnd_0 : decode cX6_placeAtEnd 0 = .ok (.iload_n 3, 1) := by decide +kernel
theorem dX6_placeAtEnd_1 : decode cX6_placeAtEnd 1 = .ok (.ifCond .ne 26, 3) := by decide +kernel
theorem dX6_placeAtEnd_4 : decode cX6_placeAtEnd 4 = .ok (.iload_n 1, 1) := by decide +kernel
theorem dX6_placeAtEnd_5 : decode cX6_placeAtEnd 5 = .ok (.ifCond .ne 10, 3) := by decide +kernel
theorem dX6_placeAtEnd_8 : decode cX6_placeAtEnd 8 = .ok (.aload_n 0, 1) := by decide +kernel
theorem dX6_placeAtEnd_9 : decode cX6_placeAtEnd 9 = .ok (.getfield 28, 3) := by decide +kernel
theorem dX6_placeAtEnd_12 : decode cX6_placeAtEnd 12 = .ok (.goto 14, 3) := by decide +kernel
theorem dX6_placeAtEnd_15 : decode cX6_placeAtEnd 15 = .ok (.aload_n 0, 1) := by decide +kernel
theorem dX6_placeAtEnd_16 : decode cX6_placeAtEnd 16 = .ok (.getfield 9, 3) := by decide +kernel
theorem dX6_placeAtEnd_19 : decode cX6_placeAtEnd 19 = .ok (.aload_n 0, 1) := by decide +kernel
theorem dX6_placeAtEnd_20 : decode cX6_placeAtEnd 20 = .ok (.getfield 31, 3) := by decide +kernel
theorem dX6_placeAtEnd_23 : decode cX6_placeAtEnd 23 = .ok (.iload_n 1, 1) := by decide +kernel
theorem dX6_placeAtEnd_24 : decode cX6_placeAtEnd 24 = .ok (.isub, 1) := by decide +kernel
theorem dX6_placeAtEnd_25 : decode cX6_placeAtEnd 25 = .ok (.iaload, 1) := by decide +kernel
theorem dX6_placeAtEnd_26 : decode cX6_placeAtEnd 26 = .ok (.ireturn, 1) := by decide +kernel
theorem dX6_placeAtEnd_27 : decode cX6_placeAtEnd 27 = .ok (.iload_n 2, 1) := by decide +kernel
theorem dX6_placeAtEnd_28 : decode cX6_placeAtEnd 28 = .ok (.ifCond .ne 10, 3) := by decide +kernel
theorem dX6_placeAtEnd_31 : decode cX6_placeAtEnd 31 = .ok (.aload_n 0, 1) := by decide +kernel
theorem dX6_placeAtEnd_32 : decode cX6_placeAtEnd 32 = .ok (.getfield 28, 3) := by decide +kernel
theorem dX6_placeAtEnd_35 : decode cX6_placeAtEnd 35 = .ok (.goto 16, 3) := by decide +kernel
theorem dX6_placeAtEnd_38 : decode cX6_placeAtEnd 38 = .ok (.aload_n 0, 1) := by decide +kernel
theorem dX6_placeAtEnd_39 : decode cX6_placeAtEnd 39 = .ok (.getfield 9, 3) := by decide +kernel
theorem dX6_placeAtEnd_42 : decode cX6_placeAtEnd 42 = .ok (.aload_n 0, 1) := by decide +kernel
theorem dX6_placeAtEnd_43 : decode cX6_placeAtEnd 43 = .ok (.getfield 31, 3) := by decide +kernel
theorem dX6_placeAtEnd_46 : decode cX6_placeAtEnd 46 = .ok (.iload_n 2, 1) := by decide +kernel
theorem dX6_placeAtEnd_47 : decode cX6_placeAtEnd 47 = .ok (.iadd, 1) := by decide +kernel
theorem dX6_placeAtEnd_48 : decode cX6_placeAtEnd 48 = .ok (.iconst 1, 1) := by decide +kernel
theorem dX6_placeAtEnd_49 : decode cX6_placeAtEnd 49 = .ok (.isub, 1) := by decide +kernel
theorem dX6_placeAtEnd_50 : decode cX6_placeAtEnd 50 = .ok (.iaload, 1) := by decide +kernel
theorem dX6_placeAtEnd_51 : decode cX6_placeAtEnd 51 = .ok (.ireturn, 1) := by decide +kernel
theorem dX6_cellOf_0 : decode cX6_cellOf 0 = .ok (.iload_n 1, 1) := by decide +kernel
theorem dX6_cellOf_1 : decode cX6_cellOf 1 = .ok (.aload_n 0, 1) := by decide +kernel
theorem dX6_cellOf_2 : decode cX6_cellOf 2 = .ok (.getfield 34, 3) := by decide +kernel
theorem dX6_cellOf_5 : decode cX6_cellOf 5 = .ok (.iconst 1, 1) := by decide +kernel
theorem dX6_cellOf_6 : decode cX6_cellOf 6 = .ok (.iadd, 1) := by decide +kernel
theorem dX6_cellOf_7 : decode cX6_cellOf 7 = .ok (.imul, 1) := by decide +kernel
theorem dX6_cellOf_8 : decode cX6_cellOf 8 = .ok (.iload_n 2, 1) := by decide +kernel
theorem dX6_cellOf_9 : decode cX6_cellOf 9 = .ok (.iadd, 1) := by decide +kernel
theorem dX6_cellOf_10 : decode cX6_cellOf 10 = .ok (.iconst 2, 1) := by decide +kernel
theorem dX6_cellOf_11 : decode cX6_cellOf 11 = .ok (.imul, 1) := by decide +kernel
theorem dX6_cellOf_12 : decode cX6_cellOf 12 = .ok (.iload_n 3, 1) := by decide +kernel
theorem dX6_cellOf_13 : decode cX6_cellOf 13 = .ok (.iadd, 1) := by decide +kernel
theorem dX6_cellOf_14 : decode cX6_cellOf 14 = .ok (.bipush 17, 2) := by decide +kernel
theorem dX6_cellOf_16 : decode cX6_cellOf 16 = .ok (.imul, 1) := by decide +kernel
theorem dX6_cellOf_17 : decode cX6_cellOf 17 = .ok (.iload 4, 2) := by decide +kernel
theorem dX6_cellOf_19 : decode cX6_cellOf 19 = .ok (.iadd, 1) := by decide +kernel
theorem dX6_cellOf_20 : decode cX6_cellOf 20 = .ok (.ireturn, 1) := by decide +kernel
theorem dX6_mostMet_0 : decode cX6_mostMet 0 = .ok (.iconst 0, 1) := by decide +kernel
theorem dX6_mostMet_1 : decode cX6_mostMet 1 = .ok (.istore_n 1, 1) := by decide +kernel
theorem dX6_mostMet_2 : decode cX6_mostMet 2 = .ok (.iconst 1, 1) := by decide +kernel
theorem dX6_mostMet_3 : decode cX6_mostMet 3 = .ok (.istore_n 2, 1) := by decide +kernel
theorem dX6_mostMet_4 : decode cX6_mostMet 4 = .ok (.iload_n 2, 1) := by decide +kernel
theorem dX6_mostMet_5 : decode cX6_mostMet 5 = .ok (.aload_n 0, 1) := by decide +kernel
theorem dX6_mostMet_6 : decode cX6_mostMet 6 = .ok (.getfield 24, 3) := by decide +kernel
theorem dX6_mostMet_9 : decode cX6_mostMet 9 = .ok (.if_icmp .gt 22, 3) := by decide +kernel
theorem dX6_mostMet_12 : decode cX6_mostMet 12 = .ok (.aload_n 0, 1) := by decide +kernel
theorem dX6_mostMet_13 : decode cX6_mostMet 13 = .ok (.getfield 21, 3) := by decide +kernel
theorem dX6_mostMet_16 : decode cX6_mostMet 16 = .ok (.iload_n 2, 1) := by decide +kernel
theorem dX6_mostMet_17 : decode cX6_mostMet 17 = .ok (.iaload, 1) := by decide +kernel
theorem dX6_mostMet_18 : decode cX6_mostMet 18 = .ok (.ldc 37, 2) := by decide +kernel
theorem dX6_mostMet_20 : decode cX6_mostMet 20 = .ok (.if_icmp .eq 5, 3) := by decide +kernel
theorem dX6_mostMet_23 : decode cX6_mostMet 23 = .ok (.iload_n 2, 1) := by decide +kernel
theorem dX6_mostMet_24 : decode cX6_mostMet 24 = .ok (.istore_n 1, 1) := by decide +kernel
theorem dX6_mostMet_25 : decode cX6_mostMet 25 = .ok (.iinc 2 1, 3) := by decide +kernel
theorem dX6_mostMet_28 : decode cX6_mostMet 28 = .ok (.goto (-24), 3) := by decide +kernel
theorem dX6_mostMet_31 : decode cX6_mostMet 31 = .ok (.iload_n 1, 1) := by decide +kernel
theorem dX6_mostMet_32 : decode cX6_mostMet 32 = .ok (.ireturn, 1) := by decide +kernel
theorem dX6_firstHourWith_0 : decode cX6_firstHourWith 0 = .ok (.ldc 37, 2) := by decide +kernel
theorem dX6_firstHourWith_2 : decode cX6_firstHourWith 2 = .ok (.istore_n 2, 1) := by decide +kernel
theorem dX6_firstHourWith_3 : decode cX6_firstHourWith 3 = .ok (.iload_n 1, 1) := by decide +kernel
theorem dX6_firstHourWith_4 : decode cX6_firstHourWith 4 = .ok (.istore_n 3, 1) := by decide +kernel
theorem dX6_firstHourWith_5 : decode cX6_firstHourWith 5 = .ok (.iload_n 3, 1) := by decide +kernel
theorem dX6_firstHourWith_6 : decode cX6_firstHourWith 6 = .ok (.aload_n 0, 1) := by decide +kernel
theorem dX6_firstHourWith_7 : decode cX6_firstHourWith 7 = .ok (.getfield 24, 3) := by decide +kernel
theorem dX6_firstHourWith_10 : decode cX6_firstHourWith 10 = .ok (.if_icmp .gt 20, 3) := by decide +kernel
theorem dX6_firstHourWith_13 : decode cX6_firstHourWith 13 = .ok (.iload_n 2, 1) := by decide +kernel
theorem dX6_firstHourWith_14 : decode cX6_firstHourWith 14 = .ok (.aload_n 0, 1) := by decide +kernel
theorem dX6_firstHourWith_15 : decode cX6_firstHourWith 15 = .ok (.getfield 21, 3) := by decide +kernel
theorem dX6_firstHourWith_18 : decode cX6_firstHourWith 18 = .ok (.iload_n 3, 1) := by decide +kernel
theorem dX6_firstHourWith_19 : decode cX6_firstHourWith 19 = .ok (.iaload, 1) := by decide +kernel
theorem dX6_firstHourWith_20 : decode cX6_firstHourWith 20 = .ok (.invokestatic 56, 3) := by decide +kernel
theorem dX6_firstHourWith_23 : decode cX6_firstHourWith 23 = .ok (.istore_n 2, 1) := by decide +kernel
theorem dX6_firstHourWith_24 : decode cX6_firstHourWith 24 = .ok (.iinc 3 1, 3) := by decide +kernel
theorem dX6_firstHourWith_27 : decode cX6_firstHourWith 27 = .ok (.goto (-22), 3) := by decide +kernel
theorem dX6_firstHourWith_30 : decode cX6_firstHourWith 30 = .ok (.iload_n 2, 1) := by decide +kernel
theorem dX6_firstHourWith_31 : decode cX6_firstHourWith 31 = .ok (.ireturn, 1) := by decide +kernel
theorem dX7_append_0 : decode cX7_append 0 = .ok (.bipush 24, 2) := by decide +kernel
theorem dX7_append_2 : decode cX7_append 2 = .ok (.istore_n 2, 1) := by decide +kernel
theorem dX7_append_3 : decode cX7_append 3 = .ok (.iload_n 2, 1) := by decide +kernel
theorem dX7_append_4 : decode cX7_append 4 = .ok (.ifCond .lt 45, 3) := by decide +kernel
theorem dX7_append_7 : decode cX7_append 7 = .ok (.aload_n 0, 1) := by decide +kernel
theorem dX7_append_8 : decode cX7_append 8 = .ok (.getfield 15, 3) := by decide +kernel
theorem dX7_append_11 : decode cX7_append 11 = .ok (.sipush 200, 3) := by decide +kernel
theorem dX7_append_14 : decode cX7_append 14 = .ok (.if_icmp .ge 35, 3) := by decide +kernel
theorem dX7_append_17 : decode cX7_append 17 = .ok (.aload_n 0, 1) := by decide +kernel
theorem dX7_append_18 : decode cX7_append 18 = .ok (.getfield 9, 3) := by decide +kernel
theorem dX7_append_21 : decode cX7_append 21 = .ok (.aload_n 0, 1) := by decide +kernel
theorem dX7_append_22 : decode cX7_append 22 = .ok (.getfield 15, 3) := by decide +kernel
theorem dX7_append_25 : decode cX7_append 25 = .ok (.iload_n 1, 1) := by decide +kernel
theorem dX7_append_26 : decode cX7_append 26 = .ok (.iload_n 2, 1) := by decide +kernel
theorem dX7_append_27 : decode cX7_append 27 = .ok (.iushr, 1) := by decide +kernel
theorem dX7_append_28 : decode cX7_append 28 = .ok (.sipush 255, 3) := by decide +kernel
theorem dX7_append_31 : decode cX7_append 31 = .ok (.iand, 1) := by decide +kernel
theorem dX7_append_32 : decode cX7_append 32 = .ok (.iastore, 1) := by decide +kernel
theorem dX7_append_33 : decode cX7_append 33 = .ok (.aload_n 0, 1) := by decide +kernel
theorem dX7_append_34 : decode cX7_append 34 = .ok (.dup, 1) := by decide +kernel
theorem dX7_append_35 : decode cX7_append 35 = .ok (.getfield 15, 3) := by decide +kernel
theorem dX7_append_38 : decode cX7_append 38 = .ok (.iconst 1, 1) := by decide +kernel
theorem dX7_append_39 : decode cX7_append 39 = .ok (.iadd, 1) := by decide +kernel
theorem dX7_append_40 : decode cX7_append 40 = .ok (.putfield 15, 3) := by decide +kernel
theorem dX7_append_43 : decode cX7_append 43 = .ok (.iinc 2 (-8), 3) := by decide +kernel
theorem dX7_append_46 : decode cX7_append 46 = .ok (.goto (-43), 3) := by decide +kernel
theorem dX7_append_49 : decode cX7_append 49 = .ok (.return_, 1) := by decide +kernel
theorem dX8_reset_0 : decode cX8_reset 0 = .ok (.aload_n 0, 1) := by decide +kernel
theorem dX8_reset_1 : decode cX8_reset 1 = .ok (.getfield 9, 3) := by decide +kernel
theorem dX8_reset_4 : decode cX8_reset 4 = .ok (.iconst 0, 1) := by decide +kernel
theorem dX8_reset_5 : decode cX8_reset 5 = .ok (.invokestatic 24, 3) := by decide +kernel
theorem dX8_reset_8 : decode cX8_reset 8 = .ok (.aload_n 0, 1) := by decide +kernel
theorem dX8_reset_9 : decode cX8_reset 9 = .ok (.iconst 0, 1) := by decide +kernel
theorem dX8_reset_10 : decode cX8_reset 10 = .ok (.iconst 1, 1) := by decide +kernel
theorem dX8_reset_11 : decode cX8_reset 11 = .ok (.iconst 1, 1) := by decide +kernel
theorem dX8_reset_12 : decode cX8_reset 12 = .ok (.invokevirtual 30, 3) := by decide +kernel
theorem dX8_reset_15 : decode cX8_reset 15 = .ok (.aload_n 0, 1) := by decide +kernel
theorem dX8_reset_16 : decode cX8_reset 16 = .ok (.iconst 1, 1) := by decide +kernel
theorem dX8_reset_17 : decode cX8_reset 17 = .ok (.iconst 1, 1) := by decide +kernel
theorem dX8_reset_18 : decode cX8_reset 18 = .ok (.iconst 1, 1) := by decide +kernel
theorem dX8_reset_19 : decode cX8_reset 19 = .ok (.invokevirtual 30, 3) := by decide +kernel
theorem dX8_reset_22 : decode cX8_reset 22 = .ok (.aload_n 0, 1) := by decide +kernel
theorem dX8_reset_23 : decode cX8_reset 23 = .ok (.iconst 2, 1) := by decide +kernel
theorem dX8_reset_24 : decode cX8_reset 24 = .ok (.iconst 0, 1) := by decide +kernel
theorem dX8_reset_25 : decode cX8_reset 25 = .ok (.iconst 1, 1) := by decide +kernel
theorem dX8_reset_26 : decode cX8_reset 26 = .ok (.invokevirtual 30, 3) := by decide +kernel
theorem dX8_reset_29 : decode cX8_reset 29 = .ok (.aload_n 0, 1) := by decide +kernel
theorem dX8_reset_30 : decode cX8_reset 30 = .ok (.iconst 3, 1) := by decide +kernel
theorem dX8_reset_31 : decode cX8_reset 31 = .ok (.iconst 0, 1) := by decide +kernel
theorem dX8_reset_32 : decode cX8_reset 32 = .ok (.iconst 1, 1) := by decide +kernel
theorem dX8_reset_33 : decode cX8_reset 33 = .ok (.invokevirtual 30, 3) := by decide +kernel
theorem dX8_reset_36 : decode cX8_reset 36 = .ok (.aload_n 0, 1) := by decide +kernel
theorem dX8_reset_37 : decode cX8_reset 37 = .ok (.iconst (-1), 1) := by decide +kernel
theorem dX8_reset_38 : decode cX8_reset 38 = .ok (.putfield 34, 3) := by decide +kernel
theorem dX8_reset_41 : decode cX8_reset 41 = .ok (.aload_n 0, 1) := by decide +kernel
theorem dX8_reset_42 : decode cX8_reset 42 = .ok (.iconst 0, 1) := by decide +kernel
theorem dX8_reset_43 : decode cX8_reset 43 = .ok (.putfield 38, 3) := by decide +kernel
theorem dX8_reset_46 : decode cX8_reset 46 = .ok (.return_, 1) := by decide +kernel
theorem dX8_setShare_0 : decode cX8_setShare 0 = .ok (.iload_n 1, 1) := by decide +kernel
theorem dX8_setShare_1 : decode cX8_setShare 1 = .ok (.ifCond .lt 8, 3) := by decide +kernel
theorem dX8_setShare_4 : decode cX8_setShare 4 = .ok (.iload_n 1, 1) := by decide +kernel
theorem dX8_setShare_5 : decode cX8_setShare 5 = .ok (.iconst 4, 1) := by decide +kernel
theorem dX8_setShare_6 : decode cX8_setShare 6 = .ok (.if_icmp .lt 4, 3) := by decide +kernel
theorem dX8_setShare_9 : decode cX8_setShare 9 = .ok (.return_, 1) := by decide +kernel
theorem dX8_setShare_10 : decode cX8_setShare 10 = .ok (.aload_n 0, 1) := by decide +kernel
theorem dX8_setShare_11 : decode cX8_setShare 11 = .ok (.getfield 15, 3) := by decide +kernel
theorem dX8_setShare_14 : decode cX8_setShare 14 = .ok (.iload_n 1, 1) := by decide +kernel
theorem dX8_setShare_15 : decode cX8_setShare 15 = .ok (.iload_n 2, 1) := by decide +kernel
theorem dX8_setShare_16 : decode cX8_setShare 16 = .ok (.iastore, 1) := by decide +kernel
theorem dX8_setShare_17 : decode cX8_setShare 17 = .ok (.aload_n 0, 1) := by decide +kernel
theorem dX8_setShare_18 : decode cX8_setShare 18 = .ok (.getfield 18, 3) := by decide +kernel
theorem dX8_setShare_21 : decode cX8_setShare 21 = .ok (.iload_n 1, 1) := by decide +kernel
theorem dX8_setShare_22 : decode cX8_setShare 22 = .ok (.iload_n 3, 1) := by decide +kernel
theorem dX8_setShare_23 : decode cX8_setShare 23 = .ok (.iastore, 1) := by decide +kernel
theorem dX8_setShare_24 : decode cX8_setShare 24 = .ok (.return_, 1) := by decide +kernel
theorem dX8_shareOf_0 : decode cX8_shareOf 0 = .ok (.iload_n 1, 1) := by decide +kernel
theorem dX8_shareOf_1 : decode cX8_shareOf 1 = .ok (.ifCond .lt 18, 3) := by decide +kernel
theorem dX8_shareOf_4 : decode cX8_shareOf 4 = .ok (.iload_n 1, 1) := by decide +kernel
theorem dX8_shareOf_5 : decode cX8_shareOf 5 = .ok (.iconst 4, 1) := by decide +kernel
theorem dX8_shareOf_6 : decode cX8_shareOf 6 = .ok (.if_icmp .ge 13, 3) := by decide +kernel
theorem dX8_shareOf_9 : decode cX8_shareOf 9 = .ok (.aload_n 0, 1) := by decide +kernel
theorem dX8_shareOf_10 : decode cX8_shareOf 10 = .ok (.getfield 18, 3) := by decide +kernel
theorem dX8_shareOf_13 : decode cX8_shareOf 13 = .ok (.iload_n 1, 1) := by decide +kernel
theorem dX8_shareOf_14 : decode cX8_shareOf 14 = .ok (.iaload, 1) := by decide +kernel
theorem dX8_shareOf_15 : decode cX8_shareOf 15 = .ok (.iconst 1, 1) := by decide +kernel
theorem dX8_shareOf_16 : decode cX8_shareOf 16 = .ok (.if_icmp .ge 5, 3) := by decide +kernel
theorem dX8_shareOf_19 : decode cX8_shareOf 19 = .ok (.lconst 0, 1) := by decide +kernel
theorem dX8_shareOf_20 : decode cX8_shareOf 20 = .ok (.lreturn, 1) := by decide +kernel
theorem dX8_shareOf_21 : decode cX8_shareOf 21 = .ok (.lload_n 2, 1) := by decide +kernel
theorem dX8_shareOf_22 : decode cX8_shareOf 22 = .ok (.aload_n 0, 1) := by decide +kernel
theorem dX8_shareOf_23 : decode cX8_shareOf 23 = .ok (.getfield 15, 3) := by decide +kernel
theorem dX8_shareOf_26 : decode cX8_shareOf 26 = .ok (.iload_n 1, 1) := by decide +kernel
theorem dX8_shareOf_27 : decode cX8_shareOf 27 = .ok (.iaload, 1) := by decide +kernel
theorem dX8_shareOf_28 : decode cX8_shareOf 28 = .ok (.i2l, 1) := by decide +kernel
theorem dX8_shareOf_29 : decode cX8_shareOf 29 = .ok (.lmul, 1) := by decide +kernel
theorem dX8_shareOf_30 : decode cX8_shareOf 30 = .ok (.aload_n 0, 1) := by decide +kernel
theorem dX8_shareOf_31 : decode cX8_shareOf 31 = .ok (.getfield 18, 3) := by decide +kernel
theorem dX8_shareOf_34 : decode cX8_shareOf 34 = .ok (.iload_n 1, 1) := by decide +kernel
theorem dX8_shareOf_35 : decode cX8_shareOf 35 = .ok (.iaload, 1) := by decide +kernel
theorem dX8_shareOf_36 : decode cX8_shareOf 36 = .ok (.i2l, 1) := by decide +kernel
theorem dX8_shareOf_37 : decode cX8_shareOf 37 = .ok (.ldiv, 1) := by decide +kernel
theorem dX8_shareOf_38 : decode cX8_shareOf 38 = .ok (.lreturn, 1) := by decide +kernel
theorem dX9_farmer_0 : decode cX9_farmer 0 = .ok (.iload_n 1, 1) := by decide +kernel
theorem dX9_farmer_1 : decode cX9_farmer 1 = .ok (.iconst 0, 1) := by decide +kernel
theorem dX9_farmer_2 : decode cX9_farmer 2 = .ok (.bipush 9, 2) := by decide +kernel
theorem dX9_farmer_4 : decode cX9_farmer 4 = .ok (.invokestatic 84, 3) := by decide +kernel
theorem dX9_farmer_7 : decode cX9_farmer 7 = .ok (.ifCond .ne 24, 3) := by decide +kernel
theorem dX9_farmer_10 : decode cX9_farmer 10 = .ok (.iload_n 2, 1) := by decide +kernel
theorem dX9_farmer_11 : decode cX9_farmer 11 = .ok (.iconst 0, 1) := by decide +kernel
theorem dX9_farmer_12 : decode cX9_farmer 12 = .ok (.sipush 1000, 3) := by decide +kernel
theorem dX9_farmer_15 : decode cX9_farmer 15 = .ok (.invokestatic 84, 3) := by decide +kernel
theorem dX9_farmer_18 : decode cX9_farmer 18 = .ok (.ifCond .ne 13, 3) := by decide +kernel
theorem dX9_farmer_21 : decode cX9_farmer 21 = .ok (.iload_n 3, 1) := by decide +kernel
theorem dX9_farmer_22 : decode cX9_farmer 22 = .ok (.iconst 1, 1) := by decide +kernel
theorem dX9_farmer_23 : decode cX9_farmer 23 = .ok (.bipush 50, 2) := by decide +kernel
theorem dX9_farmer_25 : decode cX9_farmer 25 = .ok (.invokestatic 84, 3) := by decide +kernel
theorem dX9_farmer_28 : decode cX9_farmer 28 = .ok (.ifCond .eq 9, 3) := by decide +kernel
theorem dX9_farmer_31 : decode cX9_farmer 31 = .ok (.aload_n 0, 1) := by decide +kernel
theorem dX9_farmer_32 : decode cX9_farmer 32 = .ok (.iconst (-1), 1) := by decide +kernel
theorem dX9_farmer_33 : decode cX9_farmer 33 = .ok (.invokevirtual 88, 3) := by decide +kernel
theorem dX9_farmer_36 : decode cX9_farmer 36 = .ok (.ireturn, 1) := by decide +kernel
theorem dX9_farmer_37 : decode cX9_farmer 37 = .ok (.aload_n 0, 1) := by decide +kernel
theorem dX9_farmer_38 : decode cX9_farmer 38 = .ok (.getfield 10, 3) := by decide +kernel
theorem dX9_farmer_41 : decode cX9_farmer 41 = .ok (.getfield 92, 3) := by decide +kernel
theorem dX9_farmer_44 : decode cX9_farmer 44 = .ok (.bipush 40, 2) := by decide +kernel
theorem dX9_farmer_46 : decode cX9_farmer 46 = .ok (.if_icmp .lt 10, 3) := by decide +kernel
theorem dX9_farmer_49 : decode cX9_farmer 49 = .ok (.aload_n 0, 1) := by decide +kernel
theorem dX9_farmer_50 : decode cX9_farmer 50 = .ok (.bipush (-5), 2) := by decide +kernel
theorem dX9_farmer_52 : decode cX9_farmer 52 = .ok (.invokevirtual 88, 3) := by decide +kernel
theorem dX9_farmer_55 : decode cX9_farmer 55 = .ok (.ireturn, 1) := by decide +kernel
theorem dX9_farmer_56 : decode cX9_farmer 56 = .ok (.aload_n 0, 1) := by decide +kernel
theorem dX9_farmer_57 : decode cX9_farmer 57 = .ok (.getfield 10, 3) := by decide +kernel
theorem dX9_farmer_60 : decode cX9_farmer 60 = .ok (.iload_n 1, 1) := by decide +kernel
theorem dX9_farmer_61 : decode cX9_farmer 61 = .ok (.iload_n 2, 1) := by decide +kernel
theorem dX9_farmer_62 : decode cX9_farmer 62 = .ok (.iload_n 3, 1) := by decide +kernel
theorem dX9_farmer_63 : decode cX9_farmer 63 = .ok (.invokevirtual 95, 3) := by decide +kernel
theorem dX9_farmer_66 : decode cX9_farmer 66 = .ok (.aload_n 0, 1) := by decide +kernel
theorem dX9_farmer_67 : decode cX9_farmer 67 = .ok (.aload_n 0, 1) := by decide +kernel
theorem dX9_farmer_68 : decode cX9_farmer 68 = .ok (.getfield 10, 3) := by decide +kernel
theorem dX9_farmer_71 : decode cX9_farmer 71 = .ok (.getfield 92, 3) := by decide +kernel
theorem dX9_farmer_74 : decode cX9_farmer 74 = .ok (.iconst 1, 1) := by decide +kernel
theorem dX9_farmer_75 : decode cX9_farmer 75 = .ok (.isub, 1) := by decide +kernel
theorem dX9_farmer_76 : decode cX9_farmer 76 = .ok (.invokevirtual 99, 3) := by decide +kernel
theorem dX9_farmer_79 : decode cX9_farmer 79 = .ok (.ireturn, 1) := by decide +kernel
theorem dX9_credit_0 : decode cX9_credit 0 = .ok (.iload_n 2, 1) := by decide +kernel
theorem dX9_credit_1 : decode cX9_credit 1 = .ok (.iconst 1, 1) := by decide +kernel
theorem dX9_credit_2 : decode cX9_credit 2 = .ok (.ldc 102, 2) := by decide +kernel
theorem dX9_credit_4 : decode cX9_credit 4 = .ok (.invokestatic 84, 3) := by decide +kernel
theorem dX9_credit_7 : decode cX9_credit 7 = .ok (.ifCond .ne 14, 3) := by decide +kernel
theorem dX9_credit_10 : decode cX9_credit 10 = .ok (.iload_n 3, 1) := by decide +kernel
theorem dX9_credit_11 : decode cX9_credit 11 = .ok (.iconst 0, 1) := by decide +kernel
theorem dX9_credit_12 : decode cX9_credit 12 = .ok (.sipush 400, 3) := by decide +kernel
theorem dX9_credit_15 : decode cX9_credit 15 = .ok (.invokestatic 84, 3) := by decide +kernel
theorem dX9_credit_18 : decode cX9_credit 18 = .ok (.ifCond .eq 9, 3) := by decide +kernel
theorem dX9_credit_21 : decode cX9_credit 21 = .ok (.aload_n 0, 1) := by decide +kernel
theorem dX9_credit_22 : decode cX9_credit 22 = .ok (.iconst (-1), 1) := by decide +kernel
theorem dX9_credit_23 : decode cX9_credit 23 = .ok (.invokevirtual 88, 3) := by decide +kernel
theorem dX9_credit_26 : decode cX9_credit 26 = .ok (.ireturn, 1) := by decide +kernel
theorem dX9_credit_27 : decode cX9_credit 27 = .ok (.aload_n 0, 1) := by decide +kernel
theorem dX9_credit_28 : decode cX9_credit 28 = .ok (.iload_n 1, 1) := by decide +kernel
theorem dX9_credit_29 : decode cX9_credit 29 = .ok (.invokevirtual 103, 3) := by decide +kernel
theorem dX9_credit_32 : decode cX9_credit 32 = .ok (.ifCond .eq 10, 3) := by decide +kernel
theorem dX9_credit_35 : decode cX9_credit 35 = .ok (.aload_n 0, 1) := by decide +kernel
theorem dX9_credit_36 : decode cX9_credit 36 = .ok (.bipush (-2), 2) := by decide +kernel
theorem dX9_credit_38 : decode cX9_credit 38 = .ok (.invokevirtual 88, 3) := by decide +kernel
theorem dX9_credit_41 : decode cX9_credit 41 = .ok (.ireturn, 1) := by decide +kernel
theorem dX9_credit_42 : decode cX9_credit 42 = .ok (.aload_n 0, 1) := by decide +kernel
theorem dX9_credit_43 : decode cX9_credit 43 = .ok (.getfield 19, 3) := by decide +kernel
theorem dX9_credit_46 : decode cX9_credit 46 = .ok (.getfield 107, 3) := by decide +kernel
theorem dX9_credit_49 : decode cX9_credit 49 = .ok (.sipush 200, 3) := by decide +kernel
theorem dX9_credit_52 : decode cX9_credit 52 = .ok (.if_icmp .lt 10, 3) := by decide +kernel
theorem dX9_credit_55 : decode cX9_credit 55 = .ok (.aload_n 0, 1) := by decide +kernel
theorem dX9_credit_56 : decode cX9_credit 56 = .ok (.bipush (-5), 2) := by decide +kernel
theorem dX9_credit_58 : decode cX9_credit 58 = .ok (.invokevirtual 88, 3) := by decide +kernel
theorem dX9_credit_61 : decode cX9_credit 61 = .ok (.ireturn, 1) := by decide +kernel
theorem dX9_credit_62 : decode cX9_credit 62 = .ok (.aload_n 0, 1) := by decide +kernel
theorem dX9_credit_63 : decode cX9_credit 63 = .ok (.getfield 19, 3) := by decide +kernel
theorem dX9_credit_66 : decode cX9_credit 66 = .ok (.iload_n 1, 1) := by decide +kernel
theorem dX9_credit_67 : decode cX9_credit 67 = .ok (.iload_n 2, 1) := by decide +kernel
theorem dX9_credit_68 : decode cX9_credit 68 = .ok (.iload_n 3, 1) := by decide +kernel
theorem dX9_credit_69 : decode cX9_credit 69 = .ok (.invokevirtual 108, 3) := by decide +kernel
theorem dX9_credit_72 : decode cX9_credit 72 = .ok (.aload_n 0, 1) := by decide +kernel
theorem dX9_credit_73 : decode cX9_credit 73 = .ok (.aload_n 0, 1) := by decide +kernel
theorem dX9_credit_74 : decode cX9_credit 74 = .ok (.getfield 19, 3) := by decide +kernel
theorem dX9_credit_77 : decode cX9_credit 77 = .ok (.getfield 107, 3) := by decide +kernel
theorem dX9_credit_80 : decode cX9_credit 80 = .ok (.invokevirtual 99, 3) := by decide +kernel
theorem dX9_credit_83 : decode cX9_credit 83 = .ok (.ireturn, 1) := by decide +kernel
theorem dX9_basket_0 : decode cX9_basket 0 = .ok (.iload_n 2, 1) := by decide +kernel
theorem dX9_basket_1 : decode cX9_basket 1 = .ok (.iconst 1, 1) := by decide +kernel
theorem dX9_basket_2 : decode cX9_basket 2 = .ok (.sipush 1000, 3) := by decide +kernel
theorem dX9_basket_5 : decode cX9_basket 5 = .ok (.invokestatic 84, 3) := by decide +kernel
theorem dX9_basket_8 : decode cX9_basket 8 = .ok (.ifCond .ne 24, 3) := by decide +kernel
theorem dX9_basket_11 : decode cX9_basket 11 = .ok (.iload_n 3, 1) := by decide +kernel
theorem dX9_basket_12 : decode cX9_basket 12 = .ok (.iconst 0, 1) := by decide +kernel
theorem dX9_basket_13 : decode cX9_basket 13 = .ok (.iconst 4, 1) := by decide +kernel
theorem dX9_basket_14 : decode cX9_basket 14 = .ok (.invokestatic 84, 3) := by decide +kernel
theorem dX9_basket_17 : decode cX9_basket 17 = .ok (.ifCond .ne 15, 3) := by decide +kernel
theorem dX9_basket_20 : decode cX9_basket 20 = .ok (.iload 4, 2) := by decide +kernel
theorem dX9_basket_22 : decode cX9_basket 22 = .ok (.iconst 0, 1) := by decide +kernel
theorem dX9_basket_23 : decode cX9_basket 23 = .ok (.sipush 400, 3) := by decide +kernel
theorem dX9_basket_26 : decode cX9_basket 26 = .ok (.invokestatic 84, 3) := by decide +kernel
theorem dX9_basket_29 : decode cX9_basket 29 = .ok (.ifCond .eq 9, 3) := by decide +kernel
theorem dX9_basket_32 : decode cX9_basket 32 = .ok (.aload_n 0, 1) := by decide +kernel
theorem dX9_basket_33 : decode cX9_basket 33 = .ok (.iconst (-1), 1) := by decide +kernel
theorem dX9_basket_34 : decode cX9_basket 34 = .ok (.invokevirtual 88, 3) := by decide +kernel
theorem dX9_basket_37 : decode cX9_basket 37 = .ok (.ireturn, 1) := by decide +kernel
theorem dX9_basket_38 : decode cX9_basket 38 = .ok (.aload_n 0, 1) := by decide +kernel
theorem dX9_basket_39 : decode cX9_basket 39 = .ok (.iload_n 1, 1) := by decide +kernel
theorem dX9_basket_40 : decode cX9_basket 40 = .ok (.invokevirtual 103, 3) := by decide +kernel
theorem dX9_basket_43 : decode cX9_basket 43 = .ok (.ifCond .eq 10, 3) := by decide +kernel
theorem dX9_basket_46 : decode cX9_basket 46 = .ok (.aload_n 0, 1) := by decide +kernel
theorem dX9_basket_47 : decode cX9_basket 47 = .ok (.bipush (-2), 2) := by decide +kernel
theorem dX9_basket_49 : decode cX9_basket 49 = .ok (.invokevirtual 88, 3) := by decide +kernel
theorem dX9_basket_52 : decode cX9_basket 52 = .ok (.ireturn, 1) := by decide +kernel
theorem dX9_basket_53 : decode cX9_basket 53 = .ok (.aload_n 0, 1) := by decide +kernel
theorem dX9_basket_54 : decode cX9_basket 54 = .ok (.getfield 26, 3) := by decide +kernel
theorem dX9_basket_57 : decode cX9_basket 57 = .ok (.getfield 109, 3) := by decide +kernel
theorem dX9_basket_60 : decode cX9_basket 60 = .ok (.sipush 300, 3) := by decide +kernel
theorem dX9_basket_63 : decode cX9_basket 63 = .ok (.if_icmp .lt 10, 3) := by decide +kernel
theorem dX9_basket_66 : decode cX9_basket 66 = .ok (.aload_n 0, 1) := by decide +kernel
theorem dX9_basket_67 : decode cX9_basket 67 = .ok (.bipush (-5), 2) := by decide +kernel
theorem dX9_basket_69 : decode cX9_basket 69 = .ok (.invokevirtual 88, 3) := by decide +kernel
theorem dX9_basket_72 : decode cX9_basket 72 = .ok (.ireturn, 1) := by decide +kernel
theorem dX9_basket_73 : decode cX9_basket 73 = .ok (.aload_n 0, 1) := by decide +kernel
theorem dX9_basket_74 : decode cX9_basket 74 = .ok (.getfield 26, 3) := by decide +kernel
theorem dX9_basket_77 : decode cX9_basket 77 = .ok (.iload_n 1, 1) := by decide +kernel
theorem dX9_basket_78 : decode cX9_basket 78 = .ok (.iload_n 2, 1) := by decide +kernel
theorem dX9_basket_79 : decode cX9_basket 79 = .ok (.iload_n 3, 1) := by decide +kernel
theorem dX9_basket_80 : decode cX9_basket 80 = .ok (.iload 4, 2) := by decide +kernel
theorem dX9_basket_82 : decode cX9_basket 82 = .ok (.invokevirtual 110, 3) := by decide +kernel
theorem dX9_basket_85 : decode cX9_basket 85 = .ok (.aload_n 0, 1) := by decide +kernel
theorem dX9_basket_86 : decode cX9_basket 86 = .ok (.aload_n 0, 1) := by decide +kernel
theorem dX9_basket_87 : decode cX9_basket 87 = .ok (.getfield 26, 3) := by decide +kernel
theorem dX9_basket_90 : decode cX9_basket 90 = .ok (.getfield 109, 3) := by decide +kernel
theorem dX9_basket_93 : decode cX9_basket 93 = .ok (.invokevirtual 99, 3) := by decide +kernel
theorem dX9_basket_96 : decode cX9_basket 96 = .ok (.ireturn, 1) := by decide +kernel
theorem dX9_feed_0 : decode cX9_feed 0 = .ok (.aload_n 0, 1) := by decide +kernel
theorem dX9_feed_1 : decode cX9_feed 1 = .ok (.getfield 33, 3) := by decide +kernel
theorem dX9_feed_4 : decode cX9_feed 4 = .ok (.getfield 113, 3) := by decide +kernel
theorem dX9_feed_7 : decode cX9_feed 7 = .ok (.sipush 180, 3) := by decide +kernel
theorem dX9_feed_10 : decode cX9_feed 10 = .ok (.if_icmp .le 5, 3) := by decide +kernel
theorem dX9_feed_13 : decode cX9_feed 13 = .ok (.iconst (-1), 1) := by decide +kernel
theorem dX9_feed_14 : decode cX9_feed 14 = .ok (.ireturn, 1) := by decide +kernel
theorem dX9_feed_15 : decode cX9_feed 15 = .ok (.aload_n 0, 1) := by decide +kernel
theorem dX9_feed_16 : decode cX9_feed 16 = .ok (.getfield 33, 3) := by decide +kernel
theorem dX9_feed_19 : decode cX9_feed 19 = .ok (.iload_n 1, 1) := by decide +kernel
theorem dX9_feed_20 : decode cX9_feed 20 = .ok (.invokevirtual 116, 3) := by decide +kernel
theorem dX9_feed_23 : decode cX9_feed 23 = .ok (.aload_n 0, 1) := by decide +kernel
theorem dX9_feed_24 : decode cX9_feed 24 = .ok (.getfield 33, 3) := by decide +kernel
theorem dX9_feed_27 : decode cX9_feed 27 = .ok (.iload_n 2, 1) := by decide +kernel
theorem dX9_feed_28 : decode cX9_feed 28 = .ok (.invokevirtual 116, 3) := by decide +kernel
theorem dX9_feed_31 : decode cX9_feed 31 = .ok (.aload_n 0, 1) := by decide +kernel
theorem dX9_feed_32 : decode cX9_feed 32 = .ok (.getfield 33, 3) := by decide +kernel
theorem dX9_feed_35 : decode cX9_feed 35 = .ok (.iload_n 3, 1) := by decide +kernel
theorem dX9_feed_36 : decode cX9_feed 36 = .ok (.invokevirtual 116, 3) := by decide +kernel
theorem dX9_feed_39 : decode cX9_feed 39 = .ok (.aload_n 0, 1) := by decide +kernel
theorem dX9_feed_40 : decode cX9_feed 40 = .ok (.getfield 33, 3) := by decide +kernel
theorem dX9_feed_43 : decode cX9_feed 43 = .ok (.iload 4, 2) := by decide +kernel
theorem dX9_feed_45 : decode cX9_feed 45 = .ok (.invokevirtual 116, 3) := by decide +kernel
theorem dX9_feed_48 : decode cX9_feed 48 = .ok (.aload_n 0, 1) := by decide +kernel
theorem dX9_feed_49 : decode cX9_feed 49 = .ok (.getfield 33, 3) := by decide +kernel
theorem dX9_feed_52 : decode cX9_feed 52 = .ok (.iload 5, 2) := by decide +kernel
theorem dX9_feed_54 : decode cX9_feed 54 = .ok (.invokevirtual 116, 3) := by decide +kernel
theorem dX9_feed_57 : decode cX9_feed 57 = .ok (.aload_n 0, 1) := by decide +kernel
theorem dX9_feed_58 : decode cX9_feed 58 = .ok (.getfield 33, 3) := by decide +kernel
theorem dX9_feed_61 : decode cX9_feed 61 = .ok (.getfield 113, 3) := by decide +kernel
theorem dX9_feed_64 : decode cX9_feed 64 = .ok (.ireturn, 1) := by decide +kernel
theorem dX9_end_0 : decode cX9_end 0 = .ok (.iload_n 1, 1) := by decide +kernel
theorem dX9_end_1 : decode cX9_end 1 = .ok (.iconst 0, 1) := by decide +kernel
theorem dX9_end_2 : decode cX9_end 2 = .ok (.aload_n 0, 1) := by decide +kernel
theorem dX9_end_3 : decode cX9_end 3 = .ok (.getfield 33, 3) := by decide +kernel
theorem dX9_end_6 : decode cX9_end 6 = .ok (.getfield 113, 3) := by decide +kernel
theorem dX9_end_9 : decode cX9_end 9 = .ok (.invokestatic 84, 3) := by decide +kernel
theorem dX9_end_12 : decode cX9_end 12 = .ok (.ifCond .eq 5, 3) := by decide +kernel
theorem dX9_end_15 : decode cX9_end 15 = .ok (.iconst (-1), 1) := by decide +kernel
theorem dX9_end_16 : decode cX9_end 16 = .ok (.ireturn, 1) := by decide +kernel
theorem dX9_end_17 : decode cX9_end 17 = .ok (.aload_n 0, 1) := by decide +kernel
theorem dX9_end_18 : decode cX9_end 18 = .ok (.getfield 33, 3) := by decide +kernel
theorem dX9_end_21 : decode cX9_end 21 = .ok (.iload_n 1, 1) := by decide +kernel
theorem dX9_end_22 : decode cX9_end 22 = .ok (.putfield 113, 3) := by decide +kernel
theorem dX9_end_25 : decode cX9_end 25 = .ok (.iload_n 1, 1) := by decide +kernel
theorem dX9_end_26 : decode cX9_end 26 = .ok (.ireturn, 1) := by decide +kernel
theorem dX9_contract_0 : decode cX9_contract 0 = .ok (.aload_n 0, 1) := by decide +kernel
theorem dX9_contract_1 : decode cX9_contract 1 = .ok (.aload_n 0, 1) := by decide +kernel
theorem dX9_contract_2 : decode cX9_contract 2 = .ok (.getfield 73, 3) := by decide +kernel
theorem dX9_contract_5 : decode cX9_contract 5 = .ok (.aload_n 0, 1) := by decide +kernel
theorem dX9_contract_6 : decode cX9_contract 6 = .ok (.getfield 65, 3) := by decide +kernel
theorem dX9_contract_9 : decode cX9_contract 9 = .ok (.invokevirtual 120, 3) := by decide +kernel
theorem dX9_contract_12 : decode cX9_contract 12 = .ok (.putfield 77, 3) := by decide +kernel
theorem dX9_contract_15 : decode cX9_contract 15 = .ok (.aload_n 0, 1) := by decide +kernel
theorem dX9_contract_16 : decode cX9_contract 16 = .ok (.getfield 33, 3) := by decide +kernel
theorem dX9_contract_19 : decode cX9_contract 19 = .ok (.iconst 0, 1) := by decide +kernel
theorem dX9_contract_20 : decode cX9_contract 20 = .ok (.putfield 113, 3) := by decide +kernel
theorem dX9_contract_23 : decode cX9_contract 23 = .ok (.aload_n 0, 1) := by decide +kernel
theorem dX9_contract_24 : decode cX9_contract 24 = .ok (.getfield 77, 3) := by decide +kernel
theorem dX9_contract_27 : decode cX9_contract 27 = .ok (.iconst (-1), 1) := by decide +kernel
theorem dX9_contract_28 : decode cX9_contract 28 = .ok (.if_icmp .eq 10, 3) := by decide +kernel
theorem dX9_contract_31 : decode cX9_contract 31 = .ok (.aload_n 0, 1) := by decide +kernel
theorem dX9_contract_32 : decode cX9_contract 32 = .ok (.bipush (-6), 2) := by decide +kernel
theorem dX9_contract_34 : decode cX9_contract 34 = .ok (.invokevirtual 88, 3) := by decide +kernel
theorem dX9_contract_37 : decode cX9_contract 37 = .ok (.ireturn, 1) := by decide +kernel
theorem dX9_contract_38 : decode cX9_contract 38 = .ok (.aload_n 0, 1) := by decide +kernel
theorem dX9_contract_39 : decode cX9_contract 39 = .ok (.getfield 61, 3) := by decide +kernel
theorem dX9_contract_42 : decode cX9_contract 42 = .ok (.astore_n 1, 1) := by decide +kernel
theorem dX9_contract_43 : decode cX9_contract 43 = .ok (.aload_n 0, 1) := by decide +kernel
theorem dX9_contract_44 : decode cX9_contract 44 = .ok (.aload_n 0, 1) := by decide +kernel
theorem dX9_contract_45 : decode cX9_contract 45 = .ok (.getfield 65, 3) := by decide +kernel
theorem dX9_contract_48 : decode cX9_contract 48 = .ok (.putfield 61, 3) := by decide +kernel
theorem dX9_contract_51 : decode cX9_contract 51 = .ok (.aload_n 0, 1) := by decide +kernel
theorem dX9_contract_52 : decode cX9_contract 52 = .ok (.aload_n 1, 1) := by decide +kernel
theorem dX9_contract_53 : decode cX9_contract 53 = .ok (.putfield 65, 3) := by decide +kernel
theorem dX9_contract_56 : decode cX9_contract 56 = .ok (.aload_n 0, 1) := by decide +kernel
theorem dX9_contract_57 : decode cX9_contract 57 = .ok (.aload_n 0, 1) := by decide +kernel
theorem dX9_contract_58 : decode cX9_contract 58 = .ok (.getfield 61, 3) := by decide +kernel
theorem dX9_contract_61 : decode cX9_contract 61 = .ok (.getfield 124, 3) := by decide +kernel
theorem dX9_contract_64 : decode cX9_contract 64 = .ok (.invokevirtual 99, 3) := by decide +kernel
theorem dX9_contract_67 : decode cX9_contract 67 = .ok (.ireturn, 1) := by decide +kernel
theorem dX9_fault_0 : decode cX9_fault 0 = .ok (.aload_n 0, 1) := by decide +kernel
theorem dX9_fault_1 : decode cX9_fault 1 = .ok (.getfield 77, 3) := by decide +kernel
theorem dX9_fault_4 : decode cX9_fault 4 = .ok (.ireturn, 1) := by decide +kernel
theorem dX9_of_0 : decode cX9_of 0 = .ok (.aload_n 0, 1) := by decide +kernel
theorem dX9_of_1 : decode cX9_of 1 = .ok (.iload_n 1, 1) := by decide +kernel
theorem dX9_of_2 : decode cX9_of 2 = .ok (.invokevirtual 103, 3) := by decide +kernel
theorem dX9_of_5 : decode cX9_of 5 = .ok (.ifCond .ne 24, 3) := by decide +kernel
theorem dX9_of_8 : decode cX9_of 8 = .ok (.iload_n 2, 1) := by decide +kernel
theorem dX9_of_9 : decode cX9_of 9 = .ok (.iconst 0, 1) := by decide +kernel
theorem dX9_of_10 : decode cX9_of 10 = .ok (.sipush 400, 3) := by decide +kernel
theorem dX9_of_13 : decode cX9_of 13 = .ok (.invokestatic 84, 3) := by decide +kernel
theorem dX9_of_16 : decode cX9_of 16 = .ok (.ifCond .ne 13, 3) := by decide +kernel
theorem dX9_of_19 : decode cX9_of 19 = .ok (.iload_n 3, 1) := by decide +kernel
theorem dX9_of_20 : decode cX9_of 20 = .ok (.iconst 0, 1) := by decide +kernel
theorem dX9_of_21 : decode cX9_of 21 = .ok (.bipush 10, 2) := by decide +kernel
theorem dX9_of_23 : decode cX9_of 23 = .ok (.invokestatic 84, 3) := by decide +kernel
theorem dX9_of_26 : decode cX9_of 26 = .ok (.ifCond .eq 7, 3) := by decide +kernel
theorem dX9_of_29 : decode cX9_of 29 = .ok (.ldc2_w 127, 3) := by decide +kernel
theorem dX9_of_32 : decode cX9_of 32 = .ok (.lreturn, 1) := by decide +kernel
theorem dX9_of_33 : decode cX9_of 33 = .ok (.aload_n 0, 1) := by decide +kernel
theorem dX9_of_34 : decode cX9_of 34 = .ok (.getfield 40, 3) := by decide +kernel
theorem dX9_of_37 : decode cX9_of 37 = .ok (.aload_n 0, 1) := by decide +kernel
theorem dX9_of_38 : decode cX9_of 38 = .ok (.getfield 10, 3) := by decide +kernel
theorem dX9_of_41 : decode cX9_of 41 = .ok (.aload_n 0, 1) := by decide +kernel
theorem dX9_of_42 : decode cX9_of 42 = .ok (.getfield 19, 3) := by decide +kernel
theorem dX9_of_45 : decode cX9_of 45 = .ok (.aload_n 0, 1) := by decide +kernel
theorem dX9_of_46 : decode cX9_of 46 = .ok (.getfield 26, 3) := by decide +kernel
theorem dX9_of_49 : decode cX9_of 49 = .ok (.aload_n 0, 1) := by decide +kernel
theorem dX9_of_50 : decode cX9_of 50 = .ok (.getfield 61, 3) := by decide +kernel
theorem dX9_of_53 : decode cX9_of 53 = .ok (.iload_n 2, 1) := by decide +kernel
theorem dX9_of_54 : decode cX9_of 54 = .ok (.invokevirtual 129, 3) := by decide +kernel
theorem dX9_of_57 : decode cX9_of 57 = .ok (.aload_n 0, 1) := by decide +kernel
theorem dX9_of_58 : decode cX9_of 58 = .ok (.getfield 40, 3) := by decide +kernel
theorem dX9_of_61 : decode cX9_of 61 = .ok (.aload_n 0, 1) := by decide +kernel
theorem dX9_of_62 : decode cX9_of 62 = .ok (.getfield 10, 3) := by decide +kernel
theorem dX9_of_65 : decode cX9_of 65 = .ok (.aload_n 0, 1) := by decide +kernel
theorem dX9_of_66 : decode cX9_of 66 = .ok (.getfield 61, 3) := by decide +kernel
theorem dX9_of_69 : decode cX9_of 69 = .ok (.aload_n 0, 1) := by decide +kernel
theorem dX9_of_70 : decode cX9_of 70 = .ok (.getfield 10, 3) := by decide +kernel
theorem dX9_of_73 : decode cX9_of 73 = .ok (.getfield 133, 3) := by decide +kernel
theorem dX9_of_76 : decode cX9_of 76 = .ok (.iload_n 1, 1) := by decide +kernel
theorem dX9_of_77 : decode cX9_of 77 = .ok (.iaload, 1) := by decide +kernel
theorem dX9_of_78 : decode cX9_of 78 = .ok (.invokevirtual 137, 3) := by decide +kernel
theorem dX9_of_81 : decode cX9_of 81 = .ok (.iload_n 3, 1) := by decide +kernel
theorem dX9_of_82 : decode cX9_of 82 = .ok (.tableswitch 166 0 9 #[54, 64, 74, 84, 94, 103, 112, 122, 141, 160], 54) := by decide +kernel
theorem dX9_of_136 : decode cX9_of 136 = .ok (.aload_n 0, 1) := by decide +kernel
theorem dX9_of_137 : decode cX9_of 137 = .ok (.getfield 40, 3) := by decide +kernel
theorem dX9_of_140 : decode cX9_of 140 = .ok (.getfield 141, 3) := by decide +kernel
theorem dX9_of_143 : decode cX9_of 143 = .ok (.iload_n 1, 1) := by decide +kernel
theorem dX9_of_144 : decode cX9_of 144 = .ok (.laload, 1) := by decide +kernel
theorem dX9_of_145 : decode cX9_of 145 = .ok (.lreturn, 1) := by decide +kernel
theorem dX9_of_146 : decode cX9_of 146 = .ok (.aload_n 0, 1) := by decide +kernel
theorem dX9_of_147 : decode cX9_of 147 = .ok (.getfield 40, 3) := by decide +kernel
theorem dX9_of_150 : decode cX9_of 150 = .ok (.getfield 145, 3) := by decide +kernel
theorem dX9_of_153 : decode cX9_of 153 = .ok (.iload_n 1, 1) := by decide +kernel
theorem dX9_of_154 : decode cX9_of 154 = .ok (.laload, 1) := by decide +kernel
theorem dX9_of_155 : decode cX9_of 155 = .ok (.lreturn, 1) := by decide +kernel
theorem dX9_of_156 : decode cX9_of 156 = .ok (.aload_n 0, 1) := by decide +kernel
theorem dX9_of_157 : decode cX9_of 157 = .ok (.getfield 40, 3) := by decide +kernel
theorem dX9_of_160 : decode cX9_of 160 = .ok (.getfield 148, 3) := by decide +kernel
theorem dX9_of_163 : decode cX9_of 163 = .ok (.iload_n 1, 1) := by decide +kernel
theorem dX9_of_164 : decode cX9_of 164 = .ok (.laload, 1) := by decide +kernel
theorem dX9_of_165 : decode cX9_of 165 = .ok (.lreturn, 1) := by decide +kernel
theorem dX9_of_166 : decode cX9_of 166 = .ok (.aload_n 0, 1) := by decide +kernel
theorem dX9_of_167 : decode cX9_of 167 = .ok (.getfield 40, 3) := by decide +kernel
theorem dX9_of_170 : decode cX9_of 170 = .ok (.getfield 151, 3) := by decide +kernel
theorem dX9_of_173 : decode cX9_of 173 = .ok (.iload_n 1, 1) := by decide +kernel
theorem dX9_of_174 : decode cX9_of 174 = .ok (.laload, 1) := by decide +kernel
theorem dX9_of_175 : decode cX9_of 175 = .ok (.lreturn, 1) := by decide +kernel
theorem dX9_of_176 : decode cX9_of 176 = .ok (.aload_n 0, 1) := by decide +kernel
theorem dX9_of_177 : decode cX9_of 177 = .ok (.getfield 40, 3) := by decide +kernel
theorem dX9_of_180 : decode cX9_of 180 = .ok (.iload_n 1, 1) := by decide +kernel
theorem dX9_of_181 : decode cX9_of 181 = .ok (.invokevirtual 154, 3) := by decide +kernel
theorem dX9_of_184 : decode cX9_of 184 = .ok (.lreturn, 1) := by decide +kernel
theorem dX9_of_185 : decode cX9_of 185 = .ok (.aload_n 0, 1) := by decide +kernel
theorem dX9_of_186 : decode cX9_of 186 = .ok (.getfield 40, 3) := by decide +kernel
theorem dX9_of_189 : decode cX9_of 189 = .ok (.iload_n 1, 1) := by decide +kernel
theorem dX9_of_190 : decode cX9_of 190 = .ok (.invokevirtual 158, 3) := by decide +kernel
theorem dX9_of_193 : decode cX9_of 193 = .ok (.lreturn, 1) := by decide +kernel
theorem dX9_of_194 : decode cX9_of 194 = .ok (.aload_n 0, 1) := by decide +kernel
theorem dX9_of_195 : decode cX9_of 195 = .ok (.getfield 40, 3) := by decide +kernel
theorem dX9_of_198 : decode cX9_of 198 = .ok (.getfield 161, 3) := by decide +kernel
theorem dX9_of_201 : decode cX9_of 201 = .ok (.iload_n 1, 1) := by decide +kernel
theorem dX9_of_202 : decode cX9_of 202 = .ok (.laload, 1) := by decide +kernel
theorem dX9_of_203 : decode cX9_of 203 = .ok (.lreturn, 1) := by decide +kernel
theorem dX9_of_204 : decode cX9_of 204 = .ok (.aload_n 0, 1) := by decide +kernel
theorem dX9_of_205 : decode cX9_of 205 = .ok (.getfield 40, 3) := by decide +kernel
theorem dX9_of_208 : decode cX9_of 208 = .ok (.iload_n 1, 1) := by decide +kernel
theorem dX9_of_209 : decode cX9_of 209 = .ok (.invokevirtual 154, 3) := by decide +kernel
theorem dX9_of_212 : decode cX9_of 212 = .ok (.aload_n 0, 1) := by decide +kernel
theorem dX9_of_213 : decode cX9_of 213 = .ok (.getfield 40, 3) := by decide +kernel
theorem dX9_of_216 : decode cX9_of 216 = .ok (.getfield 161, 3) := by decide +kernel
theorem dX9_of_219 : decode cX9_of 219 = .ok (.iload_n 1, 1) := by decide +kernel
theorem dX9_of_220 : decode cX9_of 220 = .ok (.laload, 1) := by decide +kernel
theorem dX9_of_221 : decode cX9_of 221 = .ok (.lsub, 1) := by decide +kernel
theorem dX9_of_222 : decode cX9_of 222 = .ok (.lreturn, 1) := by decide +kernel
theorem dX9_of_223 : decode cX9_of 223 = .ok (.aload_n 0, 1) := by decide +kernel
theorem dX9_of_224 : decode cX9_of 224 = .ok (.getfield 40, 3) := by decide +kernel
theorem dX9_of_227 : decode cX9_of 227 = .ok (.iload_n 1, 1) := by decide +kernel
theorem dX9_of_228 : decode cX9_of 228 = .ok (.invokevirtual 158, 3) := by decide +kernel
theorem dX9_of_231 : decode cX9_of 231 = .ok (.aload_n 0, 1) := by decide +kernel
theorem dX9_of_232 : decode cX9_of 232 = .ok (.getfield 40, 3) := by decide +kernel
theorem dX9_of_235 : decode cX9_of 235 = .ok (.getfield 164, 3) := by decide +kernel
theorem dX9_of_238 : decode cX9_of 238 = .ok (.iload_n 1, 1) := by decide +kernel
theorem dX9_of_239 : decode cX9_of 239 = .ok (.laload, 1) := by decide +kernel
theorem dX9_of_240 : decode cX9_of 240 = .ok (.lsub, 1) := by decide +kernel
theorem dX9_of_241 : decode cX9_of 241 = .ok (.lreturn, 1) := by decide +kernel
theorem dX9_of_242 : decode cX9_of 242 = .ok (.aload_n 0, 1) := by decide +kernel
theorem dX9_of_243 : decode cX9_of 243 = .ok (.iload_n 1, 1) := by decide +kernel
theorem dX9_of_244 : decode cX9_of 244 = .ok (.invokevirtual 167, 3) := by decide +kernel
theorem dX9_of_247 : decode cX9_of 247 = .ok (.lreturn, 1) := by decide +kernel
theorem dX9_of_248 : decode cX9_of 248 = .ok (.aload_n 0, 1) := by decide +kernel
theorem dX9_of_249 : decode cX9_of 249 = .ok (.iload_n 1, 1) := by decide +kernel
theorem dX9_of_250 : decode cX9_of 250 = .ok (.invokevirtual 170, 3) := by decide +kernel
theorem dX9_of_253 : decode cX9_of 253 = .ok (.ifCond .eq 7, 3) := by decide +kernel
theorem dX9_of_256 : decode cX9_of 256 = .ok (.lconst 1, 1) := by decide +kernel
theorem dX9_of_257 : decode cX9_of 257 = .ok (.goto 4, 3) := by decide +kernel
theorem dX9_of_260 : decode cX9_of 260 = .ok (.lconst 0, 1) := by decide +kernel
theorem dX9_of_261 : decode cX9_of 261 = .ok (.lreturn, 1) := by decide +kernel
theorem dX9_group_0 : decode cX9_group 0 = .ok (.iload_n 1, 1) := by decide +kernel
theorem dX9_group_1 : decode cX9_group 1 = .ok (.iconst 0, 1) := by decide +kernel
theorem dX9_group_2 : decode cX9_group 2 = .ok (.bipush 9, 2) := by decide +kernel
theorem dX9_group_4 : decode cX9_group 4 = .ok (.invokestatic 84, 3) := by decide +kernel
theorem dX9_group_7 : decode cX9_group 7 = .ok (.ifCond .ne 23, 3) := by decide +kernel
theorem dX9_group_10 : decode cX9_group 10 = .ok (.iload_n 2, 1) := by decide +kernel
theorem dX9_group_11 : decode cX9_group 11 = .ok (.iconst 0, 1) := by decide +kernel
theorem dX9_group_12 : decode cX9_group 12 = .ok (.sipush 400, 3) := by decide +kernel
theorem dX9_group_15 : decode cX9_group 15 = .ok (.invokestatic 84, 3) := by decide +kernel
theorem dX9_group_18 : decode cX9_group 18 = .ok (.ifCond .ne 12, 3) := by decide +kernel
theorem dX9_group_21 : decode cX9_group 21 = .ok (.iload_n 3, 1) := by decide +kernel
theorem dX9_group_22 : decode cX9_group 22 = .ok (.iconst 0, 1) := by decide +kernel
theorem dX9_group_23 : decode cX9_group 23 = .ok (.iconst 3, 1) := by decide +kernel
theorem dX9_group_24 : decode cX9_group 24 = .ok (.invokestatic 84, 3) := by decide +kernel
theorem dX9_group_27 : decode cX9_group 27 = .ok (.ifCond .eq 7, 3) := by decide +kernel
theorem dX9_group_30 : decode cX9_group 30 = .ok (.ldc2_w 127, 3) := by decide +kernel
theorem dX9_group_33 : decode cX9_group 33 = .ok (.lreturn, 1) := by decide +kernel
theorem dX9_group_34 : decode cX9_group 34 = .ok (.aload_n 0, 1) := by decide +kernel
theorem dX9_group_35 : decode cX9_group 35 = .ok (.getfield 40, 3) := by decide +kernel
theorem dX9_group_38 : decode cX9_group 38 = .ok (.aload_n 0, 1) := by decide +kernel
theorem dX9_group_39 : decode cX9_group 39 = .ok (.getfield 10, 3) := by decide +kernel
theorem dX9_group_42 : decode cX9_group 42 = .ok (.aload_n 0, 1) := by decide +kernel
theorem dX9_group_43 : decode cX9_group 43 = .ok (.getfield 19, 3) := by decide +kernel
theorem dX9_group_46 : decode cX9_group 46 = .ok (.aload_n 0, 1) := by decide +kernel
theorem dX9_group_47 : decode cX9_group 47 = .ok (.getfield 26, 3) := by decide +kernel
theorem dX9_group_50 : decode cX9_group 50 = .ok (.aload_n 0, 1) := by decide +kernel
theorem dX9_group_51 : decode cX9_group 51 = .ok (.getfield 61, 3) := by decide +kernel
theorem dX9_group_54 : decode cX9_group 54 = .ok (.iload_n 2, 1) := by decide +kernel
theorem dX9_group_55 : decode cX9_group 55 = .ok (.invokevirtual 129, 3) := by decide +kernel
theorem dX9_group_58 : decode cX9_group 58 = .ok (.aload_n 0, 1) := by decide +kernel
theorem dX9_group_59 : decode cX9_group 59 = .ok (.getfield 40, 3) := by decide +kernel
theorem dX9_group_62 : decode cX9_group 62 = .ok (.aload_n 0, 1) := by decide +kernel
theorem dX9_group_63 : decode cX9_group 63 = .ok (.getfield 10, 3) := by decide +kernel
theorem dX9_group_66 : decode cX9_group 66 = .ok (.aload_n 0, 1) := by decide +kernel
theorem dX9_group_67 : decode cX9_group 67 = .ok (.getfield 61, 3) := by decide +kernel
theorem dX9_group_70 : decode cX9_group 70 = .ok (.iload_n 1, 1) := by decide +kernel
theorem dX9_group_71 : decode cX9_group 71 = .ok (.invokevirtual 137, 3) := by decide +kernel
theorem dX9_group_74 : decode cX9_group 74 = .ok (.iload_n 3, 1) := by decide +kernel
theorem dX9_group_75 : decode cX9_group 75 = .ok (.tableswitch 51 0 2 #[25, 35, 43], 25) := by decide +kernel
theorem dX9_group_100 : decode cX9_group 100 = .ok (.aload_n 0, 1) := by decide +kernel
theorem dX9_group_101 : decode cX9_group 101 = .ok (.getfield 10, 3) := by decide +kernel
theorem dX9_group_104 : decode cX9_group 104 = .ok (.iload_n 1, 1) := by decide +kernel
theorem dX9_group_105 : decode cX9_group 105 = .ok (.invokevirtual 173, 3) := by decide +kernel
theorem dX9_group_108 : decode cX9_group 108 = .ok (.i2l, 1) := by decide +kernel
theorem dX9_group_109 : decode cX9_group 109 = .ok (.lreturn, 1) := by decide +kernel
theorem dX9_group_110 : decode cX9_group 110 = .ok (.aload_n 0, 1) := by decide +kernel
theorem dX9_group_111 : decode cX9_group 111 = .ok (.getfield 40, 3) := by decide +kernel
theorem dX9_group_114 : decode cX9_group 114 = .ok (.getfield 176, 3) := by decide +kernel
theorem dX9_group_117 : decode cX9_group 117 = .ok (.lreturn, 1) := by decide +kernel
theorem dX9_group_118 : decode cX9_group 118 = .ok (.aload_n 0, 1) := by decide +kernel
theorem dX9_group_119 : decode cX9_group 119 = .ok (.getfield 40, 3) := by decide +kernel
theorem dX9_group_122 : decode cX9_group 122 = .ok (.getfield 180, 3) := by decide +kernel
theorem dX9_group_125 : decode cX9_group 125 = .ok (.lreturn, 1) := by decide +kernel
theorem dX9_group_126 : decode cX9_group 126 = .ok (.aload_n 0, 1) := by decide +kernel
theorem dX9_group_127 : decode cX9_group 127 = .ok (.getfield 40, 3) := by decide +kernel
theorem dX9_group_130 : decode cX9_group 130 = .ok (.getfield 176, 3) := by decide +kernel
theorem dX9_group_133 : decode cX9_group 133 = .ok (.aload_n 0, 1) := by decide +kernel
theorem dX9_group_134 : decode cX9_group 134 = .ok (.getfield 40, 3) := by decide +kernel
theorem dX9_group_137 : decode cX9_group 137 = .ok (.getfield 180, 3) := by decide +kernel
theorem dX9_group_140 : decode cX9_group 140 = .ok (.lsub, 1) := by decide +kernel
theorem dX9_group_141 : decode cX9_group 141 = .ok (.lreturn, 1) := by decide +kernel
theorem dX9_bears_0 : decode cX9_bears 0 = .ok (.iload_n 1, 1) := by decide +kernel
theorem dX9_bears_1 : decode cX9_bears 1 = .ok (.iconst 0, 1) := by decide +kernel
theorem dX9_bears_2 : decode cX9_bears 2 = .ok (.sipush 10000, 3) := by decide +kernel
theorem dX9_bears_5 : decode cX9_bears 5 = .ok (.invokestatic 84, 3) := by decide +kernel
theorem dX9_bears_8 : decode cX9_bears 8 = .ok (.ifCond .eq 9, 3) := by decide +kernel
theorem dX9_bears_11 : decode cX9_bears 11 = .ok (.aload_n 0, 1) := by decide +kernel
theorem dX9_bears_12 : decode cX9_bears 12 = .ok (.iconst (-1), 1) := by decide +kernel
theorem dX9_bears_13 : decode cX9_bears 13 = .ok (.invokevirtual 88, 3) := by decide +kernel
theorem dX9_bears_16 : decode cX9_bears 16 = .ok (.ireturn, 1) := by decide +kernel
theorem dX9_bears_17 : decode cX9_bears 17 = .ok (.aload_n 0, 1) := by decide +kernel
theorem dX9_bears_18 : decode cX9_bears 18 = .ok (.getfield 47, 3) := by decide +kernel
theorem dX9_bears_21 : decode cX9_bears 21 = .ok (.getfield 183, 3) := by decide +kernel
theorem dX9_bears_24 : decode cX9_bears 24 = .ok (.istore_n 2, 1) := by decide +kernel
theorem dX9_bears_25 : decode cX9_bears 25 = .ok (.aload_n 0, 1) := by decide +kernel
theorem dX9_bears_26 : decode cX9_bears 26 = .ok (.getfield 47, 3) := by decide +kernel
theorem dX9_bears_29 : decode cX9_bears 29 = .ok (.iload_n 1, 1) := by decide +kernel
theorem dX9_bears_30 : decode cX9_bears 30 = .ok (.putfield 183, 3) := by decide +kernel
theorem dX9_bears_33 : decode cX9_bears 33 = .ok (.aload_n 0, 1) := by decide +kernel
theorem dX9_bears_34 : decode cX9_bears 34 = .ok (.iload_n 2, 1) := by decide +kernel
theorem dX9_bears_35 : decode cX9_bears 35 = .ok (.invokevirtual 99, 3) := by decide +kernel
theorem dX9_bears_38 : decode cX9_bears 38 = .ok (.ireturn, 1) := by decide +kernel
theorem dX9_drought_0 : decode cX9_drought 0 = .ok (.iload_n 1, 1) := by decide +kernel
theorem dX9_drought_1 : decode cX9_drought 1 = .ok (.iconst 0, 1) := by decide +kernel
theorem dX9_drought_2 : decode cX9_drought 2 = .ok (.sipush 1000, 3) := by decide +kernel
theorem dX9_drought_5 : decode cX9_drought 5 = .ok (.invokestatic 84, 3) := by decide +kernel
theorem dX9_drought_8 : decode cX9_drought 8 = .ok (.ifCond .ne 24, 3) := by decide +kernel
theorem dX9_drought_11 : decode cX9_drought 11 = .ok (.iload_n 2, 1) := by decide +kernel
theorem dX9_drought_12 : decode cX9_drought 12 = .ok (.iload_n 1, 1) := by decide +kernel
theorem dX9_drought_13 : decode cX9_drought 13 = .ok (.sipush 1000, 3) := by decide +kernel
theorem dX9_drought_16 : decode cX9_drought 16 = .ok (.invokestatic 84, 3) := by decide +kernel
theorem dX9_drought_19 : decode cX9_drought 19 = .ok (.ifCond .ne 13, 3) := by decide +kernel
theorem dX9_drought_22 : decode cX9_drought 22 = .ok (.iload_n 3, 1) := by decide +kernel
theorem dX9_drought_23 : decode cX9_drought 23 = .ok (.iconst 0, 1) := by decide +kernel
theorem dX9_drought_24 : decode cX9_drought 24 = .ok (.bipush 100, 2) := by decide +kernel
theorem dX9_drought_26 : decode cX9_drought 26 = .ok (.invokestatic 84, 3) := by decide +kernel
theorem dX9_drought_29 : decode cX9_drought 29 = .ok (.ifCond .eq 9, 3) := by decide +kernel
theorem dX9_drought_32 : decode cX9_drought 32 = .ok (.aload_n 0, 1) := by decide +kernel
theorem dX9_drought_33 : decode cX9_drought 33 = .ok (.iconst (-1), 1) := by decide +kernel
theorem dX9_drought_34 : decode cX9_drought 34 = .ok (.invokevirtual 88, 3) := by decide +kernel
theorem dX9_drought_37 : decode cX9_drought 37 = .ok (.ireturn, 1) := by decide +kernel
theorem dX9_drought_38 : decode cX9_drought 38 = .ok (.aload_n 0, 1) := by decide +kernel
theorem dX9_drought_39 : decode cX9_drought 39 = .ok (.getfield 47, 3) := by decide +kernel
theorem dX9_drought_42 : decode cX9_drought 42 = .ok (.getfield 186, 3) := by decide +kernel
theorem dX9_drought_45 : decode cX9_drought 45 = .ok (.bipush 60, 2) := by decide +kernel
theorem dX9_drought_47 : decode cX9_drought 47 = .ok (.if_icmp .lt 10, 3) := by decide +kernel
theorem dX9_drought_50 : decode cX9_drought 50 = .ok (.aload_n 0, 1) := by decide +kernel
theorem dX9_drought_51 : decode cX9_drought 51 = .ok (.bipush (-5), 2) := by decide +kernel
theorem dX9_drought_53 : decode cX9_drought 53 = .ok (.invokevirtual 88, 3) := by decide +kernel
theorem dX9_drought_56 : decode cX9_drought 56 = .ok (.ireturn, 1) := by decide +kernel
theorem dX9_drought_57 : decode cX9_drought 57 = .ok (.aload_n 0, 1) := by decide +kernel
theorem dX9_drought_58 : decode cX9_drought 58 = .ok (.getfield 47, 3) := by decide +kernel
theorem dX9_drought_61 : decode cX9_drought 61 = .ok (.iload_n 1, 1) := by decide +kernel
theorem dX9_drought_62 : decode cX9_drought 62 = .ok (.iload_n 2, 1) := by decide +kernel
theorem dX9_drought_63 : decode cX9_drought 63 = .ok (.iload_n 3, 1) := by decide +kernel
theorem dX9_drought_64 : decode cX9_drought 64 = .ok (.invokevirtual 187, 3) := by decide +kernel
theorem dX9_drought_67 : decode cX9_drought 67 = .ok (.aload_n 0, 1) := by decide +kernel
theorem dX9_drought_68 : decode cX9_drought 68 = .ok (.aload_n 0, 1) := by decide +kernel
theorem dX9_drought_69 : decode cX9_drought 69 = .ok (.getfield 47, 3) := by decide +kernel
theorem dX9_drought_72 : decode cX9_drought 72 = .ok (.getfield 186, 3) := by decide +kernel
theorem dX9_drought_75 : decode cX9_drought 75 = .ok (.invokevirtual 99, 3) := by decide +kernel
theorem dX9_drought_78 : decode cX9_drought 78 = .ok (.ireturn, 1) := by decide +kernel
theorem dX9_visit_0 : decode cX9_visit 0 = .ok (.iload_n 2, 1) := by decide +kernel
theorem dX9_visit_1 : decode cX9_visit 1 = .ok (.iconst 0, 1) := by decide +kernel
theorem dX9_visit_2 : decode cX9_visit 2 = .ok (.sipush 5000, 3) := by decide +kernel
theorem dX9_visit_5 : decode cX9_visit 5 = .ok (.invokestatic 84, 3) := by decide +kernel
theorem dX9_visit_8 : decode cX9_visit 8 = .ok (.ifCond .eq 9, 3) := by decide +kernel
theorem dX9_visit_11 : decode cX9_visit 11 = .ok (.aload_n 0, 1) := by decide +kernel
theorem dX9_visit_12 : decode cX9_visit 12 = .ok (.iconst (-1), 1) := by decide +kernel
theorem dX9_visit_13 : decode cX9_visit 13 = .ok (.invokevirtual 88, 3) := by decide +kernel
theorem dX9_visit_16 : decode cX9_visit 16 = .ok (.ireturn, 1) := by decide +kernel
theorem dX9_visit_17 : decode cX9_visit 17 = .ok (.aload_n 0, 1) := by decide +kernel
theorem dX9_visit_18 : decode cX9_visit 18 = .ok (.iload_n 1, 1) := by decide +kernel
theorem dX9_visit_19 : decode cX9_visit 19 = .ok (.invokevirtual 103, 3) := by decide +kernel
theorem dX9_visit_22 : decode cX9_visit 22 = .ok (.ifCond .eq 10, 3) := by decide +kernel
theorem dX9_visit_25 : decode cX9_visit 25 = .ok (.aload_n 0, 1) := by decide +kernel
theorem dX9_visit_26 : decode cX9_visit 26 = .ok (.bipush (-2), 2) := by decide +kernel
theorem dX9_visit_28 : decode cX9_visit 28 = .ok (.invokevirtual 88, 3) := by decide +kernel
theorem dX9_visit_31 : decode cX9_visit 31 = .ok (.ireturn, 1) := by decide +kernel
theorem dX9_visit_32 : decode cX9_visit 32 = .ok (.aload_n 0, 1) := by decide +kernel
theorem dX9_visit_33 : decode cX9_visit 33 = .ok (.getfield 54, 3) := by decide +kernel
theorem dX9_visit_36 : decode cX9_visit 36 = .ok (.getfield 188, 3) := by decide +kernel
theorem dX9_visit_39 : decode cX9_visit 39 = .ok (.bipush 16, 2) := by decide +kernel
theorem dX9_visit_41 : decode cX9_visit 41 = .ok (.if_icmp .lt 10, 3) := by decide +kernel
theorem dX9_visit_44 : decode cX9_visit 44 = .ok (.aload_n 0, 1) := by decide +kernel
theorem dX9_visit_45 : decode cX9_visit 45 = .ok (.bipush (-5), 2) := by decide +kernel
theorem dX9_visit_47 : decode cX9_visit 47 = .ok (.invokevirtual 88, 3) := by decide +kernel
theorem dX9_visit_50 : decode cX9_visit 50 = .ok (.ireturn, 1) := by decide +kernel
theorem dX9_visit_51 : decode cX9_visit 51 = .ok (.aload_n 0, 1) := by decide +kernel
theorem dX9_visit_52 : decode cX9_visit 52 = .ok (.getfield 54, 3) := by decide +kernel
theorem dX9_visit_55 : decode cX9_visit 55 = .ok (.aload_n 0, 1) := by decide +kernel
theorem dX9_visit_56 : decode cX9_visit 56 = .ok (.getfield 10, 3) := by decide +kernel
theorem dX9_visit_59 : decode cX9_visit 59 = .ok (.getfield 189, 3) := by decide +kernel
theorem dX9_visit_62 : decode cX9_visit 62 = .ok (.iload_n 1, 1) := by decide +kernel
theorem dX9_visit_63 : decode cX9_visit 63 = .ok (.iaload, 1) := by decide +kernel
theorem dX9_visit_64 : decode cX9_visit 64 = .ok (.iload_n 2, 1) := by decide +kernel
theorem dX9_visit_65 : decode cX9_visit 65 = .ok (.invokevirtual 192, 3) := by decide +kernel
theorem dX9_visit_68 : decode cX9_visit 68 = .ok (.aload_n 0, 1) := by decide +kernel
theorem dX9_visit_69 : decode cX9_visit 69 = .ok (.aload_n 0, 1) := by decide +kernel
theorem dX9_visit_70 : decode cX9_visit 70 = .ok (.getfield 54, 3) := by decide +kernel
theorem dX9_visit_73 : decode cX9_visit 73 = .ok (.getfield 188, 3) := by decide +kernel
theorem dX9_visit_76 : decode cX9_visit 76 = .ok (.invokevirtual 99, 3) := by decide +kernel
theorem dX9_visit_79 : decode cX9_visit 79 = .ok (.ireturn, 1) := by decide +kernel
theorem dX9_clear_0 : decode cX9_clear 0 = .ok (.aload_n 0, 1) := by decide +kernel
theorem dX9_clear_1 : decode cX9_clear 1 = .ok (.getfield 54, 3) := by decide +kernel
theorem dX9_clear_4 : decode cX9_clear 4 = .ok (.getfield 188, 3) := by decide +kernel
theorem dX9_clear_7 : decode cX9_clear 7 = .ok (.istore_n 1, 1) := by decide +kernel
theorem dX9_clear_8 : decode cX9_clear 8 = .ok (.aload_n 0, 1) := by decide +kernel
theorem dX9_clear_9 : decode cX9_clear 9 = .ok (.getfield 54, 3) := by decide +kernel
theorem dX9_clear_12 : decode cX9_clear 12 = .ok (.iconst 0, 1) := by decide +kernel
theorem dX9_clear_13 : decode cX9_clear 13 = .ok (.putfield 188, 3) := by decide +kernel
theorem dX9_clear_16 : decode cX9_clear 16 = .ok (.iload_n 1, 1) := by decide +kernel
theorem dX9_clear_17 : decode cX9_clear 17 = .ok (.ireturn, 1) := by decide +kernel
theorem dX9_most_0 : decode cX9_most 0 = .ok (.iload_n 1, 1) := by decide +kernel
theorem dX9_most_1 : decode cX9_most 1 = .ok (.iconst 0, 1) := by decide +kernel
theorem dX9_most_2 : decode cX9_most 2 = .ok (.sipush 1000, 3) := by decide +kernel
theorem dX9_most_5 : decode cX9_most 5 = .ok (.invokestatic 84, 3) := by decide +kernel
theorem dX9_most_8 : decode cX9_most 8 = .ok (.ifCond .eq 5, 3) := by decide +kernel
theorem dX9_most_11 : decode cX9_most 11 = .ok (.iconst (-1), 1) := by decide +kernel
theorem dX9_most_12 : decode cX9_most 12 = .ok (.ireturn, 1) := by decide +kernel
theorem dX9_most_13 : decode cX9_most 13 = .ok (.aload_n 0, 1) := by decide +kernel
theorem dX9_most_14 : decode cX9_most 14 = .ok (.getfield 54, 3) := by decide +kernel
theorem dX9_most_17 : decode cX9_most 17 = .ok (.iload_n 1, 1) := by decide +kernel
theorem dX9_most_18 : decode cX9_most 18 = .ok (.invokevirtual 195, 3) := by decide +kernel
theorem dX9_most_21 : decode cX9_most 21 = .ok (.aload_n 0, 1) := by decide +kernel
theorem dX9_most_22 : decode cX9_most 22 = .ok (.getfield 54, 3) := by decide +kernel
theorem dX9_most_25 : decode cX9_most 25 = .ok (.invokevirtual 198, 3) := by decide +kernel
theorem dX9_most_28 : decode cX9_most 28 = .ok (.ireturn, 1) := by decide +kernel
theorem dX9_least_0 : decode cX9_least 0 = .ok (.iload_n 1, 1) := by decide +kernel
theorem dX9_least_1 : decode cX9_least 1 = .ok (.iconst 0, 1) := by decide +kernel
theorem dX9_least_2 : decode cX9_least 2 = .ok (.sipush 1000, 3) := by decide +kernel
theorem dX9_least_5 : decode cX9_least 5 = .ok (.invokestatic 84, 3) := by decide +kernel
theorem dX9_least_8 : decode cX9_least 8 = .ok (.ifCond .ne 18, 3) := by decide +kernel
theorem dX9_least_11 : decode cX9_least 11 = .ok (.iload_n 2, 1) := by decide +kernel
theorem dX9_least_12 : decode cX9_least 12 = .ok (.iconst 0, 1) := by decide +kernel
theorem dX9_least_13 : decode cX9_least 13 = .ok (.aload_n 0, 1) := by decide +kernel
theorem dX9_least_14 : decode cX9_least 14 = .ok (.getfield 54, 3) := by decide +kernel
theorem dX9_least_17 : decode cX9_least 17 = .ok (.getfield 188, 3) := by decide +kernel
theorem dX9_least_20 : decode cX9_least 20 = .ok (.invokestatic 84, 3) := by decide +kernel
theorem dX9_least_23 : decode cX9_least 23 = .ok (.ifCond .eq 5, 3) := by decide +kernel
theorem dX9_least_26 : decode cX9_least 26 = .ok (.iconst (-1), 1) := by decide +kernel
theorem dX9_least_27 : decode cX9_least 27 = .ok (.ireturn, 1) := by decide +kernel
theorem dX9_least_28 : decode cX9_least 28 = .ok (.aload_n 0, 1) := by decide +kernel
theorem dX9_least_29 : decode cX9_least 29 = .ok (.getfield 54, 3) := by decide +kernel
theorem dX9_least_32 : decode cX9_least 32 = .ok (.iload_n 1, 1) := by decide +kernel
theorem dX9_least_33 : decode cX9_least 33 = .ok (.invokevirtual 195, 3) := by decide +kernel
theorem dX9_least_36 : decode cX9_least 36 = .ok (.aload_n 0, 1) := by decide +kernel
theorem dX9_least_37 : decode cX9_least 37 = .ok (.getfield 54, 3) := by decide +kernel
theorem dX9_least_40 : decode cX9_least 40 = .ok (.iload_n 2, 1) := by decide +kernel
theorem dX9_least_41 : decode cX9_least 41 = .ok (.invokevirtual 202, 3) := by decide +kernel
theorem dX9_least_44 : decode cX9_least 44 = .ok (.istore_n 3, 1) := by decide +kernel
theorem dX9_least_45 : decode cX9_least 45 = .ok (.iload_n 3, 1) := by decide +kernel
theorem dX9_least_46 : decode cX9_least 46 = .ok (.ldc 205, 2) := by decide +kernel
theorem dX9_least_48 : decode cX9_least 48 = .ok (.if_icmp .ne 7, 3) := by decide +kernel
theorem dX9_least_51 : decode cX9_least 51 = .ok (.iconst (-1), 1) := by decide +kernel
theorem dX9_least_52 : decode cX9_least 52 = .ok (.goto 4, 3) := by decide +kernel
theorem dX9_least_55 : decode cX9_least 55 = .ok (.iload_n 3, 1) := by decide +kernel
theorem dX9_least_56 : decode cX9_least 56 = .ok (.ireturn, 1) := by decide +kernel
theorem dX9_led_0 : decode cX9_led 0 = .ok (.iload_n 1, 1) := by decide +kernel
theorem dX9_led_1 : decode cX9_led 1 = .ok (.ifCond .lt 14, 3) := by decide +kernel
theorem dX9_led_4 : decode cX9_led 4 = .ok (.iload_n 2, 1) := by decide +kernel
theorem dX9_led_5 : decode cX9_led 5 = .ok (.iconst 0, 1) := by decide +kernel
theorem dX9_led_6 : decode cX9_led 6 = .ok (.sipush 400, 3) := by decide +kernel
theorem dX9_led_9 : decode cX9_led 9 = .ok (.invokestatic 84, 3) := by decide +kernel
theorem dX9_led_12 : decode cX9_led 12 = .ok (.ifCond .eq 5, 3) := by decide +kernel
theorem dX9_led_15 : decode cX9_led 15 = .ok (.iconst (-1), 1) := by decide +kernel
theorem dX9_led_16 : decode cX9_led 16 = .ok (.ireturn, 1) := by decide +kernel
theorem dX9_led_17 : decode cX9_led 17 = .ok (.aload_n 0, 1) := by decide +kernel
theorem dX9_led_18 : decode cX9_led 18 = .ok (.getfield 26, 3) := by decide +kernel
theorem dX9_led_21 : decode cX9_led 21 = .ok (.iload_n 1, 1) := by decide +kernel
theorem dX9_led_22 : decode cX9_led 22 = .ok (.iload_n 2, 1) := by decide +kernel
theorem dX9_led_23 : decode cX9_led 23 = .ok (.invokevirtual 206, 3) := by decide +kernel
theorem dX9_led_26 : decode cX9_led 26 = .ok (.ireturn, 1) := by decide +kernel
theorem dX9_count_0 : decode cX9_count 0 = .ok (.iload_n 1, 1) := by decide +kernel
theorem dX9_count_1 : decode cX9_count 1 = .ok (.tableswitch 111 0 7 #[47, 55, 63, 71, 79, 87, 95, 103], 47) := by decide +kernel
theorem dX9_count_48 : decode cX9_count 48 = .ok (.aload_n 0, 1) := by decide +kernel
theorem dX9_count_49 : decode cX9_count 49 = .ok (.getfield 10, 3) := by decide +kernel
theorem dX9_count_52 : decode cX9_count 52 = .ok (.getfield 92, 3) := by decide +kernel
theorem dX9_count_55 : decode cX9_count 55 = .ok (.ireturn, 1) := by decide +kernel
theorem dX9_count_56 : decode cX9_count 56 = .ok (.aload_n 0, 1) := by decide +kernel
theorem dX9_count_57 : decode cX9_count 57 = .ok (.getfield 19, 3) := by decide +kernel
theorem dX9_count_60 : decode cX9_count 60 = .ok (.getfield 107, 3) := by decide +kernel
theorem dX9_count_63 : decode cX9_count 63 = .ok (.ireturn, 1) := by decide +kernel
theorem dX9_count_64 : decode cX9_count 64 = .ok (.aload_n 0, 1) := by decide +kernel
theorem dX9_count_65 : decode cX9_count 65 = .ok (.getfield 26, 3) := by decide +kernel
theorem dX9_count_68 : decode cX9_count 68 = .ok (.getfield 109, 3) := by decide +kernel
theorem dX9_count_71 : decode cX9_count 71 = .ok (.ireturn, 1) := by decide +kernel
theorem dX9_count_72 : decode cX9_count 72 = .ok (.aload_n 0, 1) := by decide +kernel
theorem dX9_count_73 : decode cX9_count 73 = .ok (.getfield 61, 3) := by decide +kernel
theorem dX9_count_76 : decode cX9_count 76 = .ok (.getfield 124, 3) := by decide +kernel
theorem dX9_count_79 : decode cX9_count 79 = .ok (.ireturn, 1) := by decide +kernel
theorem dX9_count_80 : decode cX9_count 80 = .ok (.aload_n 0, 1) := by decide +kernel
theorem dX9_count_81 : decode cX9_count 81 = .ok (.getfield 47, 3) := by decide +kernel
theorem dX9_count_84 : decode cX9_count 84 = .ok (.getfield 186, 3) := by decide +kernel
theorem dX9_count_87 : decode cX9_count 87 = .ok (.ireturn, 1) := by decide +kernel
theorem dX9_count_88 : decode cX9_count 88 = .ok (.aload_n 0, 1) := by decide +kernel
theorem dX9_count_89 : decode cX9_count 89 = .ok (.getfield 54, 3) := by decide +kernel
theorem dX9_count_92 : decode cX9_count 92 = .ok (.getfield 188, 3) := by decide +kernel
theorem dX9_count_95 : decode cX9_count 95 = .ok (.ireturn, 1) := by decide +kernel
theorem dX9_count_96 : decode cX9_count 96 = .ok (.aload_n 0, 1) := by decide +kernel
theorem dX9_count_97 : decode cX9_count 97 = .ok (.getfield 33, 3) := by decide +kernel
theorem dX9_count_100 : decode cX9_count 100 = .ok (.getfield 113, 3) := by decide +kernel
theorem dX9_count_103 : decode cX9_count 103 = .ok (.ireturn, 1) := by decide +kernel
theorem dX9_count_104 : decode cX9_count 104 = .ok (.aload_n 0, 1) := by decide +kernel
theorem dX9_count_105 : decode cX9_count 105 = .ok (.getfield 26, 3) := by decide +kernel
theorem dX9_count_108 : decode cX9_count 108 = .ok (.getfield 210, 3) := by decide +kernel
theorem dX9_count_111 : decode cX9_count 111 = .ok (.ireturn, 1) := by decide +kernel
theorem dX9_count_112 : decode cX9_count 112 = .ok (.iconst (-1), 1) := by decide +kernel
theorem dX9_count_113 : decode cX9_count 113 = .ok (.ireturn, 1) := by decide +kernel
theorem dX9_status_0 : decode cX9_status 0 = .ok (.aload_n 0, 1) := by decide +kernel
theorem dX9_status_1 : decode cX9_status 1 = .ok (.getfield 81, 3) := by decide +kernel
theorem dX9_status_4 : decode cX9_status 4 = .ok (.ireturn, 1) := by decide +kernel
theorem dX9_refuse_0 : decode cX9_refuse 0 = .ok (.aload_n 0, 1) := by decide +kernel
theorem dX9_refuse_1 : decode cX9_refuse 1 = .ok (.iload_n 1, 1) := by decide +kernel
theorem dX9_refuse_2 : decode cX9_refuse 2 = .ok (.putfield 81, 3) := by decide +kernel
theorem dX9_refuse_5 : decode cX9_refuse 5 = .ok (.iload_n 1, 1) := by decide +kernel
theorem dX9_refuse_6 : decode cX9_refuse 6 = .ok (.ireturn, 1) := by decide +kernel
theorem dX9_accept_0 : decode cX9_accept 0 = .ok (.aload_n 0, 1) := by decide +kernel
theorem dX9_accept_1 : decode cX9_accept 1 = .ok (.iconst 0, 1) := by decide +kernel
theorem dX9_accept_2 : decode cX9_accept 2 = .ok (.putfield 81, 3) := by decide +kernel
theorem dX9_accept_5 : decode cX9_accept 5 = .ok (.iload_n 1, 1) := by decide +kernel
theorem dX9_accept_6 : decode cX9_accept 6 = .ok (.ireturn, 1) := by decide +kernel
theorem dX9_isNoFarmer_0 : decode cX9_isNoFarmer 0 = .ok (.iload_n 1, 1) := by decide +kernel
theorem dX9_isNoFarmer_1 : decode cX9_isNoFarmer 1 = .ok (.iconst 0, 1) := by decide +kernel
theorem dX9_isNoFarmer_2 : decode cX9_isNoFarmer 2 = .ok (.aload_n 0, 1) := by decide +kernel
theorem dX9_isNoFarmer_3 : decode cX9_isNoFarmer 3 = .ok (.getfield 10, 3) := by decide +kernel
theorem dX9_isNoFarmer_6 : decode cX9_isNoFarmer 6 = .ok (.getfield 92, 3) := by decide +kernel
theorem dX9_isNoFarmer_9 : decode cX9_isNoFarmer 9 = .ok (.iconst 1, 1) := by decide +kernel
theorem dX9_isNoFarmer_10 : decode cX9_isNoFarmer 10 = .ok (.isub, 1) := by decide +kernel
theorem dX9_isNoFarmer_11 : decode cX9_isNoFarmer 11 = .ok (.invokestatic 84, 3) := by decide +kernel
theorem dX9_isNoFarmer_14 : decode cX9_isNoFarmer 14 = .ok (.ireturn, 1) := by decide +kernel
theorem dX9_foretold_0 : decode cX9_foretold 0 = .ok (.aload_n 0, 1) := by decide +kernel
theorem dX9_foretold_1 : decode cX9_foretold 1 = .ok (.getfield 47, 3) := by decide +kernel
theorem dX9_foretold_4 : decode cX9_foretold 4 = .ok (.aload_n 0, 1) := by decide +kernel
theorem dX9_foretold_5 : decode cX9_foretold 5 = .ok (.getfield 10, 3) := by decide +kernel
theorem dX9_foretold_8 : decode cX9_foretold 8 = .ok (.getfield 213, 3) := by decide +kernel
theorem dX9_foretold_11 : decode cX9_foretold 11 = .ok (.iload_n 1, 1) := by decide +kernel
theorem dX9_foretold_12 : decode cX9_foretold 12 = .ok (.iaload, 1) := by decide +kernel
theorem dX9_foretold_13 : decode cX9_foretold 13 = .ok (.aload_n 0, 1) := by decide +kernel
theorem dX9_foretold_14 : decode cX9_foretold 14 = .ok (.getfield 10, 3) := by decide +kernel
theorem dX9_foretold_17 : decode cX9_foretold 17 = .ok (.getfield 189, 3) := by decide +kernel
theorem dX9_foretold_20 : decode cX9_foretold 20 = .ok (.iload_n 1, 1) := by decide +kernel
theorem dX9_foretold_21 : decode cX9_foretold 21 = .ok (.iaload, 1) := by decide +kernel
theorem dX9_foretold_22 : decode cX9_foretold 22 = .ok (.invokevirtual 216, 3) := by decide +kernel
theorem dX9_foretold_25 : decode cX9_foretold 25 = .ok (.lreturn, 1) := by decide +kernel
theorem dX9_isShort_0 : decode cX9_isShort 0 = .ok (.aload_n 0, 1) := by decide +kernel
theorem dX9_isShort_1 : decode cX9_isShort 1 = .ok (.getfield 40, 3) := by decide +kernel
theorem dX9_isShort_4 : decode cX9_isShort 4 = .ok (.getfield 141, 3) := by decide +kernel
theorem dX9_isShort_7 : decode cX9_isShort 7 = .ok (.iload_n 1, 1) := by decide +kernel
theorem dX9_isShort_8 : decode cX9_isShort 8 = .ok (.laload, 1) := by decide +kernel
theorem dX9_isShort_9 : decode cX9_isShort 9 = .ok (.aload_n 0, 1) := by decide +kernel
theorem dX9_isShort_10 : decode cX9_isShort 10 = .ok (.getfield 61, 3) := by decide +kernel
theorem dX9_isShort_13 : decode cX9_isShort 13 = .ok (.iconst 3, 1) := by decide +kernel
theorem dX9_isShort_14 : decode cX9_isShort 14 = .ok (.aload_n 0, 1) := by decide +kernel
theorem dX9_isShort_15 : decode cX9_isShort 15 = .ok (.iload_n 1, 1) := by decide +kernel
theorem dX9_isShort_16 : decode cX9_isShort 16 = .ok (.invokevirtual 167, 3) := by decide +kernel
theorem dX9_isShort_19 : decode cX9_isShort 19 = .ok (.invokevirtual 219, 3) := by decide +kernel
theorem dX9_isShort_22 : decode cX9_isShort 22 = .ok (.lcmp, 1) := by decide +kernel
theorem dX9_isShort_23 : decode cX9_isShort 23 = .ok (.ifCond .ge 7, 3) := by decide +kernel
theorem dX9_isShort_26 : decode cX9_isShort 26 = .ok (.iconst 1, 1) := by decide +kernel
theorem dX9_isShort_27 : decode cX9_isShort 27 = .ok (.goto 4, 3) := by decide +kernel
theorem dX9_isShort_30 : decode cX9_isShort 30 = .ok (.iconst 0, 1) := by decide +kernel
theorem dX9_isShort_31 : decode cX9_isShort 31 = .ok (.ireturn, 1) := by decide +kernel
theorem dX9_outside_0 : decode cX9_outside 0 = .ok (.iload_n 0, 1) := by decide +kernel
theorem dX9_outside_1 : decode cX9_outside 1 = .ok (.iload_n 1, 1) := by decide +kernel
theorem dX9_outside_2 : decode cX9_outside 2 = .ok (.if_icmp .lt 8, 3) := by decide +kernel
theorem dX9_outside_5 : decode cX9_outside 5 = .ok (.iload_n 0, 1) := by decide +kernel
theorem dX9_outside_6 : decode cX9_outside 6 = .ok (.iload_n 2, 1) := by decide +kernel
theorem dX9_outside_7 : decode cX9_outside 7 = .ok (.if_icmp .le 7, 3) := by decide +kernel
theorem dX9_outside_10 : decode cX9_outside 10 = .ok (.iconst 1, 1) := by decide +kernel
theorem dX9_outside_11 : decode cX9_outside 11 = .ok (.goto 4, 3) := by decide +kernel
theorem dX9_outside_14 : decode cX9_outside 14 = .ok (.iconst 0, 1) := by decide +kernel
theorem dX9_outside_15 : decode cX9_outside 15 = .ok (.ireturn, 1) := by decide +kernel
theorem dJ0_length_8abf5_0 : decode cJ0_length_8abf5 0 = .ok (.aload_n 0, 1) := by decide +kernel
theorem dJ0_length_8abf5_1 : decode cJ0_length_8abf5 1 = .ok (.getfield 9, 3) := by decide +kernel
theorem dJ0_length_8abf5_4 : decode cJ0_length_8abf5 4 = .ok (.arraylength, 1) := by decide +kernel
theorem dJ0_length_8abf5_5 : decode cJ0_length_8abf5 5 = .ok (.aload_n 0, 1) := by decide +kernel
theorem dJ0_length_8abf5_6 : decode cJ0_length_8abf5 6 = .ok (.invokevirtual 335, 3) := by decide +kernel
theorem dJ0_length_8abf5_9 : decode cJ0_length_8abf5 9 = .ok (.ishr, 1) := by decide +kernel
theorem dJ0_length_8abf5_10 : decode cJ0_length_8abf5 10 = .ok (.ireturn, 1) := by decide +kernel
theorem dJ0_charAt_5068e_0 : decode cJ0_charAt_5068e 0 = .ok (.aload_n 0, 1) := by decide +kernel
theorem dJ0_charAt_5068e_1 : decode cJ0_charAt_5068e 1 = .ok (.invokevirtual 492, 3) := by decide +kernel
theorem dJ0_charAt_5068e_4 : decode cJ0_charAt_5068e 4 = .ok (.ifCond .eq 12, 3) := by decide +kernel
theorem dJ0_charAt_5068e_7 : decode cJ0_charAt_5068e 7 = .ok (.aload_n 0, 1) := by decide +kernel
theorem dJ0_charAt_5068e_8 : decode cJ0_charAt_5068e 8 = .ok (.getfield 9, 3) := by decide +kernel
theorem dJ0_charAt_5068e_11 : decode cJ0_charAt_5068e 11 = .ok (.iload_n 1, 1) := by decide +kernel
theorem dJ0_charAt_5068e_12 : decode cJ0_charAt_5068e 12 = .ok (.invokestatic 495, 3) := by decide +kernel
theorem dJ0_charAt_5068e_15 : decode cJ0_charAt_5068e 15 = .ok (.ireturn, 1) := by decide +kernel
theorem dJ0_charAt_5068e_16 : decode cJ0_charAt_5068e 16 = .ok (.aload_n 0, 1) := by decide +kernel
theorem dJ0_charAt_5068e_17 : decode cJ0_charAt_5068e 17 = .ok (.getfield 9, 3) := by decide +kernel
theorem dJ0_charAt_5068e_20 : decode cJ0_charAt_5068e 20 = .ok (.iload_n 1, 1) := by decide +kernel
theorem dJ0_charAt_5068e_21 : decode cJ0_charAt_5068e 21 = .ok (.invokestatic 498, 3) := by decide +kernel
theorem dJ0_charAt_5068e_24 : decode cJ0_charAt_5068e 24 = .ok (.ireturn, 1) := by decide +kernel
theorem dJ0_coder_7d493_0 : decode cJ0_coder_7d493 0 = .ok (.getstatic 38, 3) := by decide +kernel
theorem dJ0_coder_7d493_3 : decode cJ0_coder_7d493 3 = .ok (.ifCond .eq 10, 3) := by decide +kernel
theorem dJ0_coder_7d493_6 : decode cJ0_coder_7d493 6 = .ok (.aload_n 0, 1) := by decide +kernel
theorem dJ0_coder_7d493_7 : decode cJ0_coder_7d493 7 = .ok (.getfield 15, 3) := by decide +kernel
theorem dJ0_coder_7d493_10 : decode cJ0_coder_7d493 10 = .ok (.goto 4, 3) := by decide +kernel
theorem dJ0_coder_7d493_13 : decode cJ0_coder_7d493 13 = .ok (.iconst 1, 1) := by decide +kernel
theorem dJ0_coder_7d493_14 : decode cJ0_coder_7d493 14 = .ok (.ireturn, 1) := by decide +kernel
theorem dJ0_isLatin1_aae02_0 : decode cJ0_isLatin1_aae02 0 = .ok (.getstatic 38, 3) := by decide +kernel
theorem dJ0_isLatin1_aae02_3 : decode cJ0_isLatin1_aae02 3 = .ok (.ifCond .eq 14, 3) := by decide +kernel
theorem dJ0_isLatin1_aae02_6 : decode cJ0_isLatin1_aae02 6 = .ok (.aload_n 0, 1) := by decide +kernel
theorem dJ0_isLatin1_aae02_7 : decode cJ0_isLatin1_aae02 7 = .ok (.getfield 15, 3) := by decide +kernel
theorem dJ0_isLatin1_aae02_10 : decode cJ0_isLatin1_aae02 10 = .ok (.ifCond .ne 7, 3) := by decide +kernel
theorem dJ0_isLatin1_aae02_13 : decode cJ0_isLatin1_aae02 13 = .ok (.iconst 1, 1) := by decide +kernel
theorem dJ0_isLatin1_aae02_14 : decode cJ0_isLatin1_aae02 14 = .ok (.goto 4, 3) := by decide +kernel
theorem dJ0_isLatin1_aae02_17 : decode cJ0_isLatin1_aae02 17 = .ok (.iconst 0, 1) := by decide +kernel
theorem dJ0_isLatin1_aae02_18 : decode cJ0_isLatin1_aae02 18 = .ok (.ireturn, 1) := by decide +kernel
theorem dJ0_checkIndex_df160_0 : decode cJ0_checkIndex_df160 0 = .ok (.iload_n 0, 1) := by decide +kernel
theorem dJ0_checkIndex_df160_1 : decode cJ0_checkIndex_df160 1 = .ok (.iload_n 1, 1) := by decide +kernel
theorem dJ0_checkIndex_df160_2 : decode cJ0_checkIndex_df160 2 = .ok (.getstatic 1053, 3) := by decide +kernel
theorem dJ0_checkIndex_df160_5 : decode cJ0_checkIndex_df160 5 = .ok (.invokestatic 1059, 3) := by decide +kernel
theorem dJ0_checkIndex_df160_8 : decode cJ0_checkIndex_df160 8 = .ok (.pop, 1) := by decide +kernel
theorem dJ0_checkIndex_df160_9 : decode cJ0_checkIndex_df160 9 = .ok (.return_, 1) := by decide +kernel
theorem dJ1_charAt_3b067_0 : decode cJ1_charAt_3b067 0 = .ok (.iload_n 1, 1) := by decide +kernel
theorem dJ1_charAt_3b067_1 : decode cJ1_charAt_3b067 1 = .ok (.aload_n 0, 1) := by decide +kernel
theorem dJ1_charAt_3b067_2 : decode cJ1_charAt_3b067 2 = .ok (.arraylength, 1) := by decide +kernel
theorem dJ1_charAt_3b067_3 : decode cJ1_charAt_3b067 3 = .ok (.invokestatic 9, 3) := by decide +kernel
theorem dJ1_charAt_3b067_6 : decode cJ1_charAt_3b067 6 = .ok (.aload_n 0, 1) := by decide +kernel
theorem dJ1_charAt_3b067_7 : decode cJ1_charAt_3b067 7 = .ok (.iload_n 1, 1) := by decide +kernel
theorem dJ1_charAt_3b067_8 : decode cJ1_charAt_3b067 8 = .ok (.baload, 1) := by decide +kernel
theorem dJ1_charAt_3b067_9 : decode cJ1_charAt_3b067 9 = .ok (.sipush 255, 3) := by decide +kernel
theorem dJ1_charAt_3b067_12 : decode cJ1_charAt_3b067 12 = .ok (.iand, 1) := by decide +kernel
theorem dJ1_charAt_3b067_13 : decode cJ1_charAt_3b067 13 = .ok (.i2c, 1) := by decide +kernel
theorem dJ1_charAt_3b067_14 : decode cJ1_charAt_3b067 14 = .ok (.ireturn, 1) := by decide +kernel
theorem dJ7_fill_d0a16_0 : decode cJ7_fill_d0a16 0 = .ok (.iconst 0, 1) := by decide +kernel
theorem dJ7_fill_d0a16_1 : decode cJ7_fill_d0a16 1 = .ok (.istore_n 3, 1) := by decide +kernel
theorem dJ7_fill_d0a16_2 : decode cJ7_fill_d0a16 2 = .ok (.aload_n 0, 1) := by decide +kernel
theorem dJ7_fill_d0a16_3 : decode cJ7_fill_d0a16 3 = .ok (.arraylength, 1) := by decide +kernel
theorem dJ7_fill_d0a16_4 : decode cJ7_fill_d0a16 4 = .ok (.istore 4, 2) := by decide +kernel
theorem dJ7_fill_d0a16_6 : decode cJ7_fill_d0a16 6 = .ok (.iload_n 3, 1) := by decide +kernel
theorem dJ7_fill_d0a16_7 : decode cJ7_fill_d0a16 7 = .ok (.iload 4, 2) := by decide +kernel
theorem dJ7_fill_d0a16_9 : decode cJ7_fill_d0a16 9 = .ok (.if_icmp .ge 13, 3) := by decide +kernel
theorem dJ7_fill_d0a16_12 : decode cJ7_fill_d0a16 12 = .ok (.aload_n 0, 1) := by decide +kernel
theorem dJ7_fill_d0a16_13 : decode cJ7_fill_d0a16 13 = .ok (.iload_n 3, 1) := by decide +kernel
theorem dJ7_fill_d0a16_14 : decode cJ7_fill_d0a16 14 = .ok (.lload_n 1, 1) := by decide +kernel
theorem dJ7_fill_d0a16_15 : decode cJ7_fill_d0a16 15 = .ok (.lastore, 1) := by decide +kernel
theorem dJ7_fill_d0a16_16 : decode cJ7_fill_d0a16 16 = .ok (.iinc 3 1, 3) := by decide +kernel
theorem dJ7_fill_d0a16_19 : decode cJ7_fill_d0a16 19 = .ok (.goto (-13), 3) := by decide +kernel
theorem dJ7_fill_d0a16_22 : decode cJ7_fill_d0a16 22 = .ok (.return_, 1) := by decide +kernel
theorem dJ7_fill_53178_0 : decode cJ7_fill_53178 0 = .ok (.iconst 0, 1) := by decide +kernel
theorem dJ7_fill_53178_1 : decode cJ7_fill_53178 1 = .ok (.istore_n 2, 1) := by decide +kernel
theorem dJ7_fill_53178_2 : decode cJ7_fill_53178 2 = .ok (.aload_n 0, 1) := by decide +kernel
theorem dJ7_fill_53178_3 : decode cJ7_fill_53178 3 = .ok (.arraylength, 1) := by decide +kernel
theorem dJ7_fill_53178_4 : decode cJ7_fill_53178 4 = .ok (.istore_n 3, 1) := by decide +kernel
theorem dJ7_fill_53178_5 : decode cJ7_fill_53178 5 = .ok (.iload_n 2, 1) := by decide +kernel
theorem dJ7_fill_53178_6 : decode cJ7_fill_53178 6 = .ok (.iload_n 3, 1) := by decide +kernel
theorem dJ7_fill_53178_7 : decode cJ7_fill_53178 7 = .ok (.if_icmp .ge 13, 3) := by decide +kernel
theorem dJ7_fill_53178_10 : decode cJ7_fill_53178 10 = .ok (.aload_n 0, 1) := by decide +kernel
theorem dJ7_fill_53178_11 : decode cJ7_fill_53178 11 = .ok (.iload_n 2, 1) := by decide +kernel
theorem dJ7_fill_53178_12 : decode cJ7_fill_53178 12 = .ok (.iload_n 1, 1) := by decide +kernel
theorem dJ7_fill_53178_13 : decode cJ7_fill_53178 13 = .ok (.iastore, 1) := by decide +kernel
theorem dJ7_fill_53178_14 : decode cJ7_fill_53178 14 = .ok (.iinc 2 1, 3) := by decide +kernel
theorem dJ7_fill_53178_17 : decode cJ7_fill_53178 17 = .ok (.goto (-12), 3) := by decide +kernel
theorem dJ7_fill_53178_20 : decode cJ7_fill_53178 20 = .ok (.return_, 1) := by decide +kernel
theorem dJ3_checkIndex_8e157_0 : decode cJ3_checkIndex_8e157 0 = .ok (.iload_n 0, 1) := by decide +kernel
theorem dJ3_checkIndex_8e157_1 : decode cJ3_checkIndex_8e157 1 = .ok (.ifCond .lt 8, 3) := by decide +kernel
theorem dJ3_checkIndex_8e157_4 : decode cJ3_checkIndex_8e157 4 = .ok (.iload_n 0, 1) := by decide +kernel
theorem dJ3_checkIndex_8e157_5 : decode cJ3_checkIndex_8e157 5 = .ok (.iload_n 1, 1) := by decide +kernel
theorem dJ3_checkIndex_8e157_6 : decode cJ3_checkIndex_8e157 6 = .ok (.if_icmp .lt 10, 3) := by decide +kernel
theorem dJ3_checkIndex_8e157_9 : decode cJ3_checkIndex_8e157 9 = .ok (.aload_n 2, 1) := by decide +kernel
theorem dJ3_checkIndex_8e157_10 : decode cJ3_checkIndex_8e157 10 = .ok (.iload_n 0, 1) := by decide +kernel
theorem dJ3_checkIndex_8e157_11 : decode cJ3_checkIndex_8e157 11 = .ok (.iload_n 1, 1) := by decide +kernel
theorem dJ3_checkIndex_8e157_12 : decode cJ3_checkIndex_8e157 12 = .ok (.invokestatic 95, 3) := by decide +kernel
theorem dJ3_checkIndex_8e157_15 : decode cJ3_checkIndex_8e157 15 = .ok (.athrow, 1) := by decide +kernel
theorem dJ3_checkIndex_8e157_16 : decode cJ3_checkIndex_8e157 16 = .ok (.iload_n 0, 1) := by decide +kernel
theorem dJ3_checkIndex_8e157_17 : decode cJ3_checkIndex_8e157 17 = .ok (.ireturn, 1) := by decide +kernel
