theorem dX10_in_0 : decode cX10_in 0 = .ok (.lload_n 0, 1) := by decide +kernel
theorem dX10_in_1 : decode cX10_in 1 = .ok (.lload_n 2, 1) := by decide +kernel
theorem dX10_in_2 : decode cX10_in 2 = .ok (.lcmp, 1) := by decide +kernel
theorem dX10_in_3 : decode cX10_in 3 = .ok (.ifCond .lt 14, 3) := by decide +kernel
theorem dX10_in_6 : decode cX10_in 6 = .ok (.lload_n 0, 1) := by decide +kernel
theorem dX10_in_7 : decode cX10_in 7 = .ok (.lload 4, 2) := by decide +kernel
theorem dX10_in_9 : decode cX10_in 9 = .ok (.lcmp, 1) := by decide +kernel
theorem dX10_in_10 : decode cX10_in 10 = .ok (.ifCond .gt 7, 3) := by decide +kernel
theorem dX10_in_13 : decode cX10_in 13 = .ok (.iconst 1, 1) := by decide +kernel
theorem dX10_in_14 : decode cX10_in 14 = .ok (.goto 4, 3) := by decide +kernel
theorem dX10_in_17 : decode cX10_in 17 = .ok (.iconst 0, 1) := by decide +kernel
theorem dX10_in_18 : decode cX10_in 18 = .ok (.ireturn, 1) := by decide +kernel
theorem dX10_told_0 : decode cX10_told 0 = .ok (.aload_n 0, 1) := by decide +kernel
theorem dX10_told_1 : decode cX10_told 1 = .ok (.iload_n 1, 1) := by decide +kernel
theorem dX10_told_2 : decode cX10_told 2 = .ok (.ifCond .ge 7, 3) := by decide +kernel
theorem dX10_told_5 : decode cX10_told 5 = .ok (.iload_n 1, 1) := by decide +kernel
theorem dX10_told_6 : decode cX10_told 6 = .ok (.goto 4, 3) := by decide +kernel
theorem dX10_told_9 : decode cX10_told 9 = .ok (.iconst 0, 1) := by decide +kernel
theorem dX10_told_10 : decode cX10_told 10 = .ok (.putfield 120, 3) := by decide +kernel
theorem dX10_told_13 : decode cX10_told 13 = .ok (.iload_n 1, 1) := by decide +kernel
theorem dX10_told_14 : decode cX10_told 14 = .ok (.ireturn, 1) := by decide +kernel
theorem dX10_isDay_0 : decode cX10_isDay 0 = .ok (.iload_n 0, 1) := by decide +kernel
theorem dX10_isDay_1 : decode cX10_isDay 1 = .ok (.i2l, 1) := by decide +kernel
theorem dX10_isDay_2 : decode cX10_isDay 2 = .ok (.lconst 0, 1) := by decide +kernel
theorem dX10_isDay_3 : decode cX10_isDay 3 = .ok (.ldc2_w 123, 3) := by decide +kernel
theorem dX10_isDay_6 : decode cX10_isDay 6 = .ok (.invokestatic 125, 3) := by decide +kernel
theorem dX10_isDay_9 : decode cX10_isDay 9 = .ok (.ireturn, 1) := by decide +kernel
theorem dX10_isFarmer_0 : decode cX10_isFarmer 0 = .ok (.iload_n 1, 1) := by decide +kernel
theorem dX10_isFarmer_1 : decode cX10_isFarmer 1 = .ok (.i2l, 1) := by decide +kernel
theorem dX10_isFarmer_2 : decode cX10_isFarmer 2 = .ok (.lconst 0, 1) := by decide +kernel
theorem dX10_isFarmer_3 : decode cX10_isFarmer 3 = .ok (.aload_n 0, 1) := by decide +kernel
theorem dX10_isFarmer_4 : decode cX10_isFarmer 4 = .ok (.getfield 129, 3) := by decide +kernel
theorem dX10_isFarmer_7 : decode cX10_isFarmer 7 = .ok (.i2l, 1) := by decide +kernel
theorem dX10_isFarmer_8 : decode cX10_isFarmer 8 = .ok (.lconst 1, 1) := by decide +kernel
theorem dX10_isFarmer_9 : decode cX10_isFarmer 9 = .ok (.lsub, 1) := by decide +kernel
theorem dX10_isFarmer_10 : decode cX10_isFarmer 10 = .ok (.invokestatic 125, 3) := by decide +kernel
theorem dX10_isFarmer_13 : decode cX10_isFarmer 13 = .ok (.ireturn, 1) := by decide +kernel
theorem dX10_farmer_0 : decode cX10_farmer 0 = .ok (.aload_n 0, 1) := by decide +kernel
theorem dX10_farmer_1 : decode cX10_farmer 1 = .ok (.iconst 0, 1) := by decide +kernel
theorem dX10_farmer_2 : decode cX10_farmer 2 = .ok (.putfield 117, 3) := by decide +kernel
theorem dX10_farmer_5 : decode cX10_farmer 5 = .ok (.iload_n 1, 1) := by decide +kernel
theorem dX10_farmer_6 : decode cX10_farmer 6 = .ok (.i2l, 1) := by decide +kernel
theorem dX10_farmer_7 : decode cX10_farmer 7 = .ok (.lconst 0, 1) := by decide +kernel
theorem dX10_farmer_8 : decode cX10_farmer 8 = .ok (.ldc2_w 132, 3) := by decide +kernel
theorem dX10_farmer_11 : decode cX10_farmer 11 = .ok (.invokestatic 125, 3) := by decide +kernel
theorem dX10_farmer_14 : decode cX10_farmer 14 = .ok (.ifCond .eq 27, 3) := by decide +kernel
theorem dX10_farmer_17 : decode cX10_farmer 17 = .ok (.iload_n 2, 1) := by decide +kernel
theorem dX10_farmer_18 : decode cX10_farmer 18 = .ok (.i2l, 1) := by decide +kernel
theorem dX10_farmer_19 : decode cX10_farmer 19 = .ok (.lconst 0, 1) := by decide +kernel
theorem dX10_farmer_20 : decode cX10_farmer 20 = .ok (.ldc2_w 134, 3) := by decide +kernel
theorem dX10_farmer_23 : decode cX10_farmer 23 = .ok (.invokestatic 125, 3) := by decide +kernel
theorem dX10_farmer_26 : decode cX10_farmer 26 = .ok (.ifCond .eq 15, 3) := by decide +kernel
theorem dX10_farmer_29 : decode cX10_farmer 29 = .ok (.iload_n 3, 1) := by decide +kernel
theorem dX10_farmer_30 : decode cX10_farmer 30 = .ok (.i2l, 1) := by decide +kernel
theorem dX10_farmer_31 : decode cX10_farmer 31 = .ok (.lconst 1, 1) := by decide +kernel
theorem dX10_farmer_32 : decode cX10_farmer 32 = .ok (.ldc2_w 136, 3) := by decide +kernel
theorem dX10_farmer_35 : decode cX10_farmer 35 = .ok (.invokestatic 125, 3) := by decide +kernel
theorem dX10_farmer_38 : decode cX10_farmer 38 = .ok (.ifCond .ne 9, 3) := by decide +kernel
theorem dX10_farmer_41 : decode cX10_farmer 41 = .ok (.aload_n 0, 1) := by decide +kernel
theorem dX10_farmer_42 : decode cX10_farmer 42 = .ok (.iconst (-1), 1) := by decide +kernel
theorem dX10_farmer_43 : decode cX10_farmer 43 = .ok (.invokevirtual 138, 3) := by decide +kernel
theorem dX10_farmer_46 : decode cX10_farmer 46 = .ok (.ireturn, 1) := by decide +kernel
theorem dX10_farmer_47 : decode cX10_farmer 47 = .ok (.aload_n 0, 1) := by decide +kernel
theorem dX10_farmer_48 : decode cX10_farmer 48 = .ok (.getfield 129, 3) := by decide +kernel
theorem dX10_farmer_51 : decode cX10_farmer 51 = .ok (.bipush 40, 2) := by decide +kernel
theorem dX10_farmer_53 : decode cX10_farmer 53 = .ok (.if_icmp .ne 10, 3) := by decide +kernel
theorem dX10_farmer_56 : decode cX10_farmer 56 = .ok (.aload_n 0, 1) := by decide +kernel
theorem dX10_farmer_57 : decode cX10_farmer 57 = .ok (.bipush (-5), 2) := by decide +kernel
theorem dX10_farmer_59 : decode cX10_farmer 59 = .ok (.invokevirtual 138, 3) := by decide +kernel
theorem dX10_farmer_62 : decode cX10_farmer 62 = .ok (.ireturn, 1) := by decide +kernel
theorem dX10_farmer_63 : decode cX10_farmer 63 = .ok (.aload_n 0, 1) := by decide +kernel
theorem dX10_farmer_64 : decode cX10_farmer 64 = .ok (.getfield 7, 3) := by decide +kernel
theorem dX10_farmer_67 : decode cX10_farmer 67 = .ok (.aload_n 0, 1) := by decide +kernel
theorem dX10_farmer_68 : decode cX10_farmer 68 = .ok (.getfield 129, 3) := by decide +kernel
theorem dX10_farmer_71 : decode cX10_farmer 71 = .ok (.iload_n 1, 1) := by decide +kernel
theorem dX10_farmer_72 : decode cX10_farmer 72 = .ok (.iastore, 1) := by decide +kernel
theorem dX10_farmer_73 : decode cX10_farmer 73 = .ok (.aload_n 0, 1) := by decide +kernel
theorem dX10_farmer_74 : decode cX10_farmer 74 = .ok (.getfield 13, 3) := by decide +kernel
theorem dX10_farmer_77 : decode cX10_farmer 77 = .ok (.aload_n 0, 1) := by decide +kernel
theorem dX10_farmer_78 : decode cX10_farmer 78 = .ok (.getfield 129, 3) := by decide +kernel
theorem dX10_farmer_81 : decode cX10_farmer 81 = .ok (.iload_n 2, 1) := by decide +kernel
theorem dX10_farmer_82 : decode cX10_farmer 82 = .ok (.iastore, 1) := by decide +kernel
theorem dX10_farmer_83 : decode cX10_farmer 83 = .ok (.aload_n 0, 1) := by decide +kernel
theorem dX10_farmer_84 : decode cX10_farmer 84 = .ok (.getfield 16, 3) := by decide +kernel
theorem dX10_farmer_87 : decode cX10_farmer 87 = .ok (.aload_n 0, 1) := by decide +kernel
theorem dX10_farmer_88 : decode cX10_farmer 88 = .ok (.getfield 129, 3) := by decide +kernel
theorem dX10_farmer_91 : decode cX10_farmer 91 = .ok (.iload_n 3, 1) := by decide +kernel
theorem dX10_farmer_92 : decode cX10_farmer 92 = .ok (.iastore, 1) := by decide +kernel
theorem dX10_farmer_93 : decode cX10_farmer 93 = .ok (.aload_n 0, 1) := by decide +kernel
theorem dX10_farmer_94 : decode cX10_farmer 94 = .ok (.dup, 1) := by decide +kernel
theorem dX10_farmer_95 : decode cX10_farmer 95 = .ok (.getfield 129, 3) := by decide +kernel
theorem dX10_farmer_98 : decode cX10_farmer 98 = .ok (.iconst 1, 1) := by decide +kernel
theorem dX10_farmer_99 : decode cX10_farmer 99 = .ok (.iadd, 1) := by decide +kernel
theorem dX10_farmer_100 : decode cX10_farmer 100 = .ok (.putfield 129, 3) := by decide +kernel
theorem dX10_farmer_103 : decode cX10_farmer 103 = .ok (.aload_n 0, 1) := by decide +kernel
theorem dX10_farmer_104 : decode cX10_farmer 104 = .ok (.aload_n 0, 1) := by decide +kernel
theorem dX10_farmer_105 : decode cX10_farmer 105 = .ok (.getfield 129, 3) := by decide +kernel
theorem dX10_farmer_108 : decode cX10_farmer 108 = .ok (.iconst 1, 1) := by decide +kernel
theorem dX10_farmer_109 : decode cX10_farmer 109 = .ok (.isub, 1) := by decide +kernel
theorem dX10_farmer_110 : decode cX10_farmer 110 = .ok (.invokevirtual 138, 3) := by decide +kernel
theorem dX10_farmer_113 : decode cX10_farmer 113 = .ok (.ireturn, 1) := by decide +kernel
theorem dX10_credit_0 : decode cX10_credit 0 = .ok (.aload_n 0, 1) := by decide +kernel
theorem dX10_credit_1 : decode cX10_credit 1 = .ok (.iconst 0, 1) := by decide +kernel
theorem dX10_credit_2 : decode cX10_credit 2 = .ok (.putfield 117, 3) := by decide +kernel
theorem dX10_credit_5 : decode cX10_credit 5 = .ok (.iload_n 2, 1) := by decide +kernel
theorem dX10_credit_6 : decode cX10_credit 6 = .ok (.i2l, 1) := by decide +kernel
theorem dX10_credit_7 : decode cX10_credit 7 = .ok (.lconst 1, 1) := by decide +kernel
theorem dX10_credit_8 : decode cX10_credit 8 = .ok (.ldc2_w 142, 3) := by decide +kernel
theorem dX10_credit_11 : decode cX10_credit 11 = .ok (.invokestatic 125, 3) := by decide +kernel
theorem dX10_credit_14 : decode cX10_credit 14 = .ok (.ifCond .eq 10, 3) := by decide +kernel
theorem dX10_credit_17 : decode cX10_credit 17 = .ok (.iload_n 3, 1) := by decide +kernel
theorem dX10_credit_18 : decode cX10_credit 18 = .ok (.invokestatic 144, 3) := by decide +kernel
theorem dX10_credit_21 : decode cX10_credit 21 = .ok (.ifCond .ne 9, 3) := by decide +kernel
theorem dX10_credit_24 : decode cX10_credit 24 = .ok (.aload_n 0, 1) := by decide +kernel
theorem dX10_credit_25 : decode cX10_credit 25 = .ok (.iconst (-1), 1) := by decide +kernel
theorem dX10_credit_26 : decode cX10_credit 26 = .ok (.invokevirtual 138, 3) := by decide +kernel
theorem dX10_credit_29 : decode cX10_credit 29 = .ok (.ireturn, 1) := by decide +kernel
theorem dX10_credit_30 : decode cX10_credit 30 = .ok (.aload_n 0, 1) := by decide +kernel
theorem dX10_credit_31 : decode cX10_credit 31 = .ok (.iload_n 1, 1) := by decide +kernel
theorem dX10_credit_32 : decode cX10_credit 32 = .ok (.invokevirtual 148, 3) := by decide +kernel
theorem dX10_credit_35 : decode cX10_credit 35 = .ok (.ifCond .ne 10, 3) := by decide +kernel
theorem dX10_credit_38 : decode cX10_credit 38 = .ok (.aload_n 0, 1) := by decide +kernel
theorem dX10_credit_39 : decode cX10_credit 39 = .ok (.bipush (-2), 2) := by decide +kernel
theorem dX10_credit_41 : decode cX10_credit 41 = .ok (.invokevirtual 138, 3) := by decide +kernel
theorem dX10_credit_44 : decode cX10_credit 44 = .ok (.ireturn, 1) := by decide +kernel
theorem dX10_credit_45 : decode cX10_credit 45 = .ok (.aload_n 0, 1) := by decide +kernel
theorem dX10_credit_46 : decode cX10_credit 46 = .ok (.getfield 151, 3) := by decide +kernel
theorem dX10_credit_49 : decode cX10_credit 49 = .ok (.sipush 200, 3) := by decide +kernel
theorem dX10_credit_52 : decode cX10_credit 52 = .ok (.if_icmp .ne 10, 3) := by decide +kernel
theorem dX10_credit_55 : decode cX10_credit 55 = .ok (.aload_n 0, 1) := by decide +kernel
theorem dX10_credit_56 : decode cX10_credit 56 = .ok (.bipush (-5), 2) := by decide +kernel
theorem dX10_credit_58 : decode cX10_credit 58 = .ok (.invokevirtual 138, 3) := by decide +kernel
theorem dX10_credit_61 : decode cX10_credit 61 = .ok (.ireturn, 1) := by decide +kernel
theorem dX10_credit_62 : decode cX10_credit 62 = .ok (.aload_n 0, 1) := by decide +kernel
theorem dX10_credit_63 : decode cX10_credit 63 = .ok (.getfield 19, 3) := by decide +kernel
theorem dX10_credit_66 : decode cX10_credit 66 = .ok (.aload_n 0, 1) := by decide +kernel
theorem dX10_credit_67 : decode cX10_credit 67 = .ok (.getfield 151, 3) := by decide +kernel
theorem dX10_credit_70 : decode cX10_credit 70 = .ok (.iload_n 1, 1) := by decide +kernel
theorem dX10_credit_71 : decode cX10_credit 71 = .ok (.iastore, 1) := by decide +kernel
theorem dX10_credit_72 : decode cX10_credit 72 = .ok (.aload_n 0, 1) := by decide +kernel
theorem dX10_credit_73 : decode cX10_credit 73 = .ok (.getfield 22, 3) := by decide +kernel
theorem dX10_credit_76 : decode cX10_credit 76 = .ok (.aload_n 0, 1) := by decide +kernel
theorem dX10_credit_77 : decode cX10_credit 77 = .ok (.getfield 151, 3) := by decide +kernel
theorem dX10_credit_80 : decode cX10_credit 80 = .ok (.iload_n 2, 1) := by decide +kernel
theorem dX10_credit_81 : decode cX10_credit 81 = .ok (.iastore, 1) := by decide +kernel
theorem dX10_credit_82 : decode cX10_credit 82 = .ok (.aload_n 0, 1) := by decide +kernel
theorem dX10_credit_83 : decode cX10_credit 83 = .ok (.getfield 25, 3) := by decide +kernel
theorem dX10_credit_86 : decode cX10_credit 86 = .ok (.aload_n 0, 1) := by decide +kernel
theorem dX10_credit_87 : decode cX10_credit 87 = .ok (.getfield 151, 3) := by decide +kernel
theorem dX10_credit_90 : decode cX10_credit 90 = .ok (.iload_n 3, 1) := by decide +kernel
theorem dX10_credit_91 : decode cX10_credit 91 = .ok (.iastore, 1) := by decide +kernel
theorem dX10_credit_92 : decode cX10_credit 92 = .ok (.aload_n 0, 1) := by decide +kernel
theorem dX10_credit_93 : decode cX10_credit 93 = .ok (.dup, 1) := by decide +kernel
theorem dX10_credit_94 : decode cX10_credit 94 = .ok (.getfield 151, 3) := by decide +kernel
theorem dX10_credit_97 : decode cX10_credit 97 = .ok (.iconst 1, 1) := by decide +kernel
theorem dX10_credit_98 : decode cX10_credit 98 = .ok (.iadd, 1) := by decide +kernel
theorem dX10_credit_99 : decode cX10_credit 99 = .ok (.putfield 151, 3) := by decide +kernel
theorem dX10_credit_102 : decode cX10_credit 102 = .ok (.aload_n 0, 1) := by decide +kernel
theorem dX10_credit_103 : decode cX10_credit 103 = .ok (.aload_n 0, 1) := by decide +kernel
theorem dX10_credit_104 : decode cX10_credit 104 = .ok (.getfield 151, 3) := by decide +kernel
theorem dX10_credit_107 : decode cX10_credit 107 = .ok (.invokevirtual 138, 3) := by decide +kernel
theorem dX10_credit_110 : decode cX10_credit 110 = .ok (.ireturn, 1) := by decide +kernel
theorem dX10_basket_0 : decode cX10_basket 0 = .ok (.aload_n 0, 1) := by decide +kernel
theorem dX10_basket_1 : decode cX10_basket 1 = .ok (.iconst 0, 1) := by decide +kernel
theorem dX10_basket_2 : decode cX10_basket 2 = .ok (.putfield 117, 3) := by decide +kernel
theorem dX10_basket_5 : decode cX10_basket 5 = .ok (.iload_n 2, 1) := by decide +kernel
theorem dX10_basket_6 : decode cX10_basket 6 = .ok (.i2l, 1) := by decide +kernel
theorem dX10_basket_7 : decode cX10_basket 7 = .ok (.lconst 1, 1) := by decide +kernel
theorem dX10_basket_8 : decode cX10_basket 8 = .ok (.ldc2_w 134, 3) := by decide +kernel
theorem dX10_basket_11 : decode cX10_basket 11 = .ok (.invokestatic 125, 3) := by decide +kernel
theorem dX10_basket_14 : decode cX10_basket 14 = .ok (.ifCond .eq 23, 3) := by decide +kernel
theorem dX10_basket_17 : decode cX10_basket 17 = .ok (.iload_n 3, 1) := by decide +kernel
theorem dX10_basket_18 : decode cX10_basket 18 = .ok (.i2l, 1) := by decide +kernel
theorem dX10_basket_19 : decode cX10_basket 19 = .ok (.lconst 0, 1) := by decide +kernel
theorem dX10_basket_20 : decode cX10_basket 20 = .ok (.ldc2_w 154, 3) := by decide +kernel
theorem dX10_basket_23 : decode cX10_basket 23 = .ok (.invokestatic 125, 3) := by decide +kernel
theorem dX10_basket_26 : decode cX10_basket 26 = .ok (.ifCond .eq 11, 3) := by decide +kernel
theorem dX10_basket_29 : decode cX10_basket 29 = .ok (.iload 4, 2) := by decide +kernel
theorem dX10_basket_31 : decode cX10_basket 31 = .ok (.invokestatic 144, 3) := by decide +kernel
theorem dX10_basket_34 : decode cX10_basket 34 = .ok (.ifCond .ne 9, 3) := by decide +kernel
theorem dX10_basket_37 : decode cX10_basket 37 = .ok (.aload_n 0, 1) := by decide +kernel
theorem dX10_basket_38 : decode cX10_basket 38 = .ok (.iconst (-1), 1) := by decide +kernel
theorem dX10_basket_39 : decode cX10_basket 39 = .ok (.invokevirtual 138, 3) := by decide +kernel
theorem dX10_basket_42 : decode cX10_basket 42 = .ok (.ireturn, 1) := by decide +kernel
theorem dX10_basket_43 : decode cX10_basket 43 = .ok (.aload_n 0, 1) := by decide +kernel
theorem dX10_basket_44 : decode cX10_basket 44 = .ok (.iload_n 1, 1) := by decide +kernel
theorem dX10_basket_45 : decode cX10_basket 45 = .ok (.invokevirtual 148, 3) := by decide +kernel
theorem dX10_basket_48 : decode cX10_basket 48 = .ok (.ifCond .ne 10, 3) := by decide +kernel
theorem dX10_basket_51 : decode cX10_basket 51 = .ok (.aload_n 0, 1) := by decide +kernel
theorem dX10_basket_52 : decode cX10_basket 52 = .ok (.bipush (-2), 2) := by decide +kernel
theorem dX10_basket_54 : decode cX10_basket 54 = .ok (.invokevirtual 138, 3) := by decide +kernel
theorem dX10_basket_57 : decode cX10_basket 57 = .ok (.ireturn, 1) := by decide +kernel
theorem dX10_basket_58 : decode cX10_basket 58 = .ok (.aload_n 0, 1) := by decide +kernel
theorem dX10_basket_59 : decode cX10_basket 59 = .ok (.getfield 156, 3) := by decide +kernel
theorem dX10_basket_62 : decode cX10_basket 62 = .ok (.sipush 300, 3) := by decide +kernel
theorem dX10_basket_65 : decode cX10_basket 65 = .ok (.if_icmp .ne 10, 3) := by decide +kernel
theorem dX10_basket_68 : decode cX10_basket 68 = .ok (.aload_n 0, 1) := by decide +kernel
theorem dX10_basket_69 : decode cX10_basket 69 = .ok (.bipush (-5), 2) := by decide +kernel
theorem dX10_basket_71 : decode cX10_basket 71 = .ok (.invokevirtual 138, 3) := by decide +kernel
theorem dX10_basket_74 : decode cX10_basket 74 = .ok (.ireturn, 1) := by decide +kernel
theorem dX10_basket_75 : decode cX10_basket 75 = .ok (.aload_n 0, 1) := by decide +kernel
theorem dX10_basket_76 : decode cX10_basket 76 = .ok (.getfield 28, 3) := by decide +kernel
theorem dX10_basket_79 : decode cX10_basket 79 = .ok (.aload_n 0, 1) := by decide +kernel
theorem dX10_basket_80 : decode cX10_basket 80 = .ok (.getfield 156, 3) := by decide +kernel
theorem dX10_basket_83 : decode cX10_basket 83 = .ok (.iload_n 1, 1) := by decide +kernel
theorem dX10_basket_84 : decode cX10_basket 84 = .ok (.iastore, 1) := by decide +kernel
theorem dX10_basket_85 : decode cX10_basket 85 = .ok (.aload_n 0, 1) := by decide +kernel
theorem dX10_basket_86 : decode cX10_basket 86 = .ok (.getfield 31, 3) := by decide +kernel
theorem dX10_basket_89 : decode cX10_basket 89 = .ok (.aload_n 0, 1) := by decide +kernel
theorem dX10_basket_90 : decode cX10_basket 90 = .ok (.getfield 156, 3) := by decide +kernel
theorem dX10_basket_93 : decode cX10_basket 93 = .ok (.iload_n 2, 1) := by decide +kernel
theorem dX10_basket_94 : decode cX10_basket 94 = .ok (.iastore, 1) := by decide +kernel
theorem dX10_basket_95 : decode cX10_basket 95 = .ok (.aload_n 0, 1) := by decide +kernel
theorem dX10_basket_96 : decode cX10_basket 96 = .ok (.getfield 34, 3) := by decide +kernel
theorem dX10_basket_99 : decode cX10_basket 99 = .ok (.aload_n 0, 1) := by decide +kernel
theorem dX10_basket_100 : decode cX10_basket 100 = .ok (.getfield 156, 3) := by decide +kernel
theorem dX10_basket_103 : decode cX10_basket 103 = .ok (.iload_n 3, 1) := by decide +kernel
theorem dX10_basket_104 : decode cX10_basket 104 = .ok (.iastore, 1) := by decide +kernel
theorem dX10_basket_105 : decode cX10_basket 105 = .ok (.aload_n 0, 1) := by decide +kernel
theorem dX10_basket_106 : decode cX10_basket 106 = .ok (.getfield 37, 3) := by decide +kernel
theorem dX10_basket_109 : decode cX10_basket 109 = .ok (.aload_n 0, 1) := by decide +kernel
theorem dX10_basket_110 : decode cX10_basket 110 = .ok (.getfield 156, 3) := by decide +kernel
theorem dX10_basket_113 : decode cX10_basket 113 = .ok (.iload 4, 2) := by decide +kernel
theorem dX10_basket_115 : decode cX10_basket 115 = .ok (.iastore, 1) := by decide +kernel
theorem dX10_basket_116 : decode cX10_basket 116 = .ok (.aload_n 0, 1) := by decide +kernel
theorem dX10_basket_117 : decode cX10_basket 117 = .ok (.dup, 1) := by decide +kernel
theorem dX10_basket_118 : decode cX10_basket 118 = .ok (.getfield 156, 3) := by decide +kernel
theorem dX10_basket_121 : decode cX10_basket 121 = .ok (.iconst 1, 1) := by decide +kernel
theorem dX10_basket_122 : decode cX10_basket 122 = .ok (.iadd, 1) := by decide +kernel
theorem dX10_basket_123 : decode cX10_basket 123 = .ok (.putfield 156, 3) := by decide +kernel
theorem dX10_basket_126 : decode cX10_basket 126 = .ok (.aload_n 0, 1) := by decide +kernel
theorem dX10_basket_127 : decode cX10_basket 127 = .ok (.aload_n 0, 1) := by decide +kernel
theorem dX10_basket_128 : decode cX10_basket 128 = .ok (.getfield 156, 3) := by decide +kernel
theorem dX10_basket_131 : decode cX10_basket 131 = .ok (.invokevirtual 138, 3) := by decide +kernel
theorem dX10_basket_134 : decode cX10_basket 134 = .ok (.ireturn, 1) := by decide +kernel
theorem dX10_four_0 : decode cX10_four 0 = .ok (.bipush 24, 2) := by decide +kernel
theorem dX10_four_2 : decode cX10_four 2 = .ok (.istore_n 2, 1) := by decide +kernel
theorem dX10_four_3 : decode cX10_four 3 = .ok (.iload_n 2, 1) := by decide +kernel
theorem dX10_four_4 : decode cX10_four 4 = .ok (.ifCond .lt 35, 3) := by decide +kernel
theorem dX10_four_7 : decode cX10_four 7 = .ok (.aload_n 0, 1) := by decide +kernel
theorem dX10_four_8 : decode cX10_four 8 = .ok (.getfield 62, 3) := by decide +kernel
theorem dX10_four_11 : decode cX10_four 11 = .ok (.aload_n 0, 1) := by decide +kernel
theorem dX10_four_12 : decode cX10_four 12 = .ok (.getfield 159, 3) := by decide +kernel
theorem dX10_four_15 : decode cX10_four 15 = .ok (.iload_n 1, 1) := by decide +kernel
theorem dX10_four_16 : decode cX10_four 16 = .ok (.iload_n 2, 1) := by decide +kernel
theorem dX10_four_17 : decode cX10_four 17 = .ok (.ishr, 1) := by decide +kernel
theorem dX10_four_18 : decode cX10_four 18 = .ok (.sipush 255, 3) := by decide +kernel
theorem dX10_four_21 : decode cX10_four 21 = .ok (.iand, 1) := by decide +kernel
theorem dX10_four_22 : decode cX10_four 22 = .ok (.iastore, 1) := by decide +kernel
theorem dX10_four_23 : decode cX10_four 23 = .ok (.aload_n 0, 1) := by decide +kernel
theorem dX10_four_24 : decode cX10_four 24 = .ok (.dup, 1) := by decide +kernel
theorem dX10_four_25 : decode cX10_four 25 = .ok (.getfield 159, 3) := by decide +kernel
theorem dX10_four_28 : decode cX10_four 28 = .ok (.iconst 1, 1) := by decide +kernel
theorem dX10_four_29 : decode cX10_four 29 = .ok (.iadd, 1) := by decide +kernel
theorem dX10_four_30 : decode cX10_four 30 = .ok (.putfield 159, 3) := by decide +kernel
theorem dX10_four_33 : decode cX10_four 33 = .ok (.iinc 2 (-8), 3) := by decide +kernel
theorem dX10_four_36 : decode cX10_four 36 = .ok (.goto (-33), 3) := by decide +kernel
theorem dX10_four_39 : decode cX10_four 39 = .ok (.return_, 1) := by decide +kernel
theorem dX10_feed_0 : decode cX10_feed 0 = .ok (.aload_n 0, 1) := by decide +kernel
theorem dX10_feed_1 : decode cX10_feed 1 = .ok (.iconst 0, 1) := by decide +kernel
theorem dX10_feed_2 : decode cX10_feed 2 = .ok (.putfield 117, 3) := by decide +kernel
theorem dX10_feed_5 : decode cX10_feed 5 = .ok (.aload_n 0, 1) := by decide +kernel
theorem dX10_feed_6 : decode cX10_feed 6 = .ok (.getfield 159, 3) := by decide +kernel
theorem dX10_feed_9 : decode cX10_feed 9 = .ok (.bipush 20, 2) := by decide +kernel
theorem dX10_feed_11 : decode cX10_feed 11 = .ok (.iadd, 1) := by decide +kernel
theorem dX10_feed_12 : decode cX10_feed 12 = .ok (.sipush 200, 3) := by decide +kernel
theorem dX10_feed_15 : decode cX10_feed 15 = .ok (.if_icmp .le 5, 3) := by decide +kernel
theorem dX10_feed_18 : decode cX10_feed 18 = .ok (.iconst (-1), 1) := by decide +kernel
theorem dX10_feed_19 : decode cX10_feed 19 = .ok (.ireturn, 1) := by decide +kernel
theorem dX10_feed_20 : decode cX10_feed 20 = .ok (.aload_n 0, 1) := by decide +kernel
theorem dX10_feed_21 : decode cX10_feed 21 = .ok (.iload_n 1, 1) := by decide +kernel
theorem dX10_feed_22 : decode cX10_feed 22 = .ok (.invokevirtual 162, 3) := by decide +kernel
theorem dX10_feed_25 : decode cX10_feed 25 = .ok (.aload_n 0, 1) := by decide +kernel
theorem dX10_feed_26 : decode cX10_feed 26 = .ok (.iload_n 2, 1) := by decide +kernel
theorem dX10_feed_27 : decode cX10_feed 27 = .ok (.invokevirtual 162, 3) := by decide +kernel
theorem dX10_feed_30 : decode cX10_feed 30 = .ok (.aload_n 0, 1) := by decide +kernel
theorem dX10_feed_31 : decode cX10_feed 31 = .ok (.iload_n 3, 1) := by decide +kernel
theorem dX10_feed_32 : decode cX10_feed 32 = .ok (.invokevirtual 162, 3) := by decide +kernel
theorem dX10_feed_35 : decode cX10_feed 35 = .ok (.aload_n 0, 1) := by decide +kernel
theorem dX10_feed_36 : decode cX10_feed 36 = .ok (.iload 4, 2) := by decide +kernel
theorem dX10_feed_38 : decode cX10_feed 38 = .ok (.invokevirtual 162, 3) := by decide +kernel
theorem dX10_feed_41 : decode cX10_feed 41 = .ok (.aload_n 0, 1) := by decide +kernel
theorem dX10_feed_42 : decode cX10_feed 42 = .ok (.iload 5, 2) := by decide +kernel
theorem dX10_feed_44 : decode cX10_feed 44 = .ok (.invokevirtual 162, 3) := by decide +kernel
theorem dX10_feed_47 : decode cX10_feed 47 = .ok (.aload_n 0, 1) := by decide +kernel
theorem dX10_feed_48 : decode cX10_feed 48 = .ok (.getfield 159, 3) := by decide +kernel
theorem dX10_feed_51 : decode cX10_feed 51 = .ok (.ireturn, 1) := by decide +kernel
theorem dX10_end_0 : decode cX10_end 0 = .ok (.aload_n 0, 1) := by decide +kernel
theorem dX10_end_1 : decode cX10_end 1 = .ok (.iconst 0, 1) := by decide +kernel
theorem dX10_end_2 : decode cX10_end 2 = .ok (.putfield 117, 3) := by decide +kernel
theorem dX10_end_5 : decode cX10_end 5 = .ok (.iload_n 1, 1) := by decide +kernel
theorem dX10_end_6 : decode cX10_end 6 = .ok (.ifCond .lt 11, 3) := by decide +kernel
theorem dX10_end_9 : decode cX10_end 9 = .ok (.iload_n 1, 1) := by decide +kernel
theorem dX10_end_10 : decode cX10_end 10 = .ok (.aload_n 0, 1) := by decide +kernel
theorem dX10_end_11 : decode cX10_end 11 = .ok (.getfield 159, 3) := by decide +kernel
theorem dX10_end_14 : decode cX10_end 14 = .ok (.if_icmp .le 5, 3) := by decide +kernel
theorem dX10_end_17 : decode cX10_end 17 = .ok (.iconst (-1), 1) := by decide +kernel
theorem dX10_end_18 : decode cX10_end 18 = .ok (.ireturn, 1) := by decide +kernel
theorem dX10_end_19 : decode cX10_end 19 = .ok (.aload_n 0, 1) := by decide +kernel
theorem dX10_end_20 : decode cX10_end 20 = .ok (.iload_n 1, 1) := by decide +kernel
theorem dX10_end_21 : decode cX10_end 21 = .ok (.putfield 159, 3) := by decide +kernel
theorem dX10_end_24 : decode cX10_end 24 = .ok (.iload_n 1, 1) := by decide +kernel
theorem dX10_end_25 : decode cX10_end 25 = .ok (.ireturn, 1) := by decide +kernel
theorem dX10_isSmall_0 : decode cX10_isSmall 0 = .ok (.iload_n 0, 1) := by decide +kernel
theorem dX10_isSmall_1 : decode cX10_isSmall 1 = .ok (.bipush 97, 2) := by decide +kernel
theorem dX10_isSmall_3 : decode cX10_isSmall 3 = .ok (.if_icmp .lt 13, 3) := by decide +kernel
theorem dX10_isSmall_6 : decode cX10_isSmall 6 = .ok (.iload_n 0, 1) := by decide +kernel
theorem dX10_isSmall_7 : decode cX10_isSmall 7 = .ok (.bipush 122, 2) := by decide +kernel
theorem dX10_isSmall_9 : decode cX10_isSmall 9 = .ok (.if_icmp .gt 7, 3) := by decide +kernel
theorem dX10_isSmall_12 : decode cX10_isSmall 12 = .ok (.iconst 1, 1) := by decide +kernel
theorem dX10_isSmall_13 : decode cX10_isSmall 13 = .ok (.goto 4, 3) := by decide +kernel
theorem dX10_isSmall_16 : decode cX10_isSmall 16 = .ok (.iconst 0, 1) := by decide +kernel
theorem dX10_isSmall_17 : decode cX10_isSmall 17 = .ok (.ireturn, 1) := by decide +kernel
theorem dX10_isDigit_0 : decode cX10_isDigit 0 = .ok (.iload_n 0, 1) := by decide +kernel
theorem dX10_isDigit_1 : decode cX10_isDigit 1 = .ok (.bipush 48, 2) := by decide +kernel
theorem dX10_isDigit_3 : decode cX10_isDigit 3 = .ok (.if_icmp .lt 13, 3) := by decide +kernel
theorem dX10_isDigit_6 : decode cX10_isDigit 6 = .ok (.iload_n 0, 1) := by decide +kernel
theorem dX10_isDigit_7 : decode cX10_isDigit 7 = .ok (.bipush 57, 2) := by decide +kernel
theorem dX10_isDigit_9 : decode cX10_isDigit 9 = .ok (.if_icmp .gt 7, 3) := by decide +kernel
theorem dX10_isDigit_12 : decode cX10_isDigit 12 = .ok (.iconst 1, 1) := by decide +kernel
theorem dX10_isDigit_13 : decode cX10_isDigit 13 = .ok (.goto 4, 3) := by decide +kernel
theorem dX10_isDigit_16 : decode cX10_isDigit 16 = .ok (.iconst 0, 1) := by decide +kernel
theorem dX10_isDigit_17 : decode cX10_isDigit 17 = .ok (.ireturn, 1) := by decide +kernel
theorem dX10_next_0 : decode cX10_next 0 = .ok (.aload_n 0, 1) := by decide +kernel
theorem dX10_next_1 : decode cX10_next 1 = .ok (.aload_n 0, 1) := by decide +kernel
theorem dX10_next_2 : decode cX10_next 2 = .ok (.getfield 166, 3) := by decide +kernel
theorem dX10_next_5 : decode cX10_next 5 = .ok (.putfield 169, 3) := by decide +kernel
theorem dX10_next_8 : decode cX10_next 8 = .ok (.aload_n 0, 1) := by decide +kernel
theorem dX10_next_9 : decode cX10_next 9 = .ok (.getfield 169, 3) := by decide +kernel
theorem dX10_next_12 : decode cX10_next 12 = .ok (.aload_n 0, 1) := by decide +kernel
theorem dX10_next_13 : decode cX10_next 13 = .ok (.getfield 159, 3) := by decide +kernel
theorem dX10_next_16 : decode cX10_next 16 = .ok (.if_icmp .ge 30, 3) := by decide +kernel
theorem dX10_next_19 : decode cX10_next 19 = .ok (.aload_n 0, 1) := by decide +kernel
theorem dX10_next_20 : decode cX10_next 20 = .ok (.getfield 62, 3) := by decide +kernel
theorem dX10_next_23 : decode cX10_next 23 = .ok (.aload_n 0, 1) := by decide +kernel
theorem dX10_next_24 : decode cX10_next 24 = .ok (.getfield 169, 3) := by decide +kernel
theorem dX10_next_27 : decode cX10_next 27 = .ok (.iaload, 1) := by decide +kernel
theorem dX10_next_28 : decode cX10_next 28 = .ok (.bipush 32, 2) := by decide +kernel
theorem dX10_next_30 : decode cX10_next 30 = .ok (.if_icmp .ne 16, 3) := by decide +kernel
theorem dX10_next_33 : decode cX10_next 33 = .ok (.aload_n 0, 1) := by decide +kernel
theorem dX10_next_34 : decode cX10_next 34 = .ok (.dup, 1) := by decide +kernel
theorem dX10_next_35 : decode cX10_next 35 = .ok (.getfield 169, 3) := by decide +kernel
theorem dX10_next_38 : decode cX10_next 38 = .ok (.iconst 1, 1) := by decide +kernel
theorem dX10_next_39 : decode cX10_next 39 = .ok (.iadd, 1) := by decide +kernel
theorem dX10_next_40 : decode cX10_next 40 = .ok (.putfield 169, 3) := by decide +kernel
theorem dX10_next_43 : decode cX10_next 43 = .ok (.goto (-35), 3) := by decide +kernel
theorem dX10_next_46 : decode cX10_next 46 = .ok (.aload_n 0, 1) := by decide +kernel
theorem dX10_next_47 : decode cX10_next 47 = .ok (.aload_n 0, 1) := by decide +kernel
theorem dX10_next_48 : decode cX10_next 48 = .ok (.getfield 169, 3) := by decide +kernel
theorem dX10_next_51 : decode cX10_next 51 = .ok (.putfield 166, 3) := by decide +kernel
theorem dX10_next_54 : decode cX10_next 54 = .ok (.aload_n 0, 1) := by decide +kernel
theorem dX10_next_55 : decode cX10_next 55 = .ok (.lconst 0, 1) := by decide +kernel
theorem dX10_next_56 : decode cX10_next 56 = .ok (.putfield 172, 3) := by decide +kernel
theorem dX10_next_59 : decode cX10_next 59 = .ok (.aload_n 0, 1) := by decide +kernel
theorem dX10_next_60 : decode cX10_next 60 = .ok (.aload_n 0, 1) := by decide +kernel
theorem dX10_next_61 : decode cX10_next 61 = .ok (.getfield 169, 3) := by decide +kernel
theorem dX10_next_64 : decode cX10_next 64 = .ok (.aload_n 0, 1) := by decide +kernel
theorem dX10_next_65 : decode cX10_next 65 = .ok (.getfield 159, 3) := by decide +kernel
theorem dX10_next_68 : decode cX10_next 68 = .ok (.if_icmp .ne 7, 3) := by decide +kernel
theorem dX10_next_71 : decode cX10_next 71 = .ok (.iconst 0, 1) := by decide +kernel
theorem dX10_next_72 : decode cX10_next 72 = .ok (.goto 42, 3) := by decide +kernel
theorem dX10_next_75 : decode cX10_next 75 = .ok (.aload_n 0, 1) := by decide +kernel
theorem dX10_next_76 : decode cX10_next 76 = .ok (.getfield 62, 3) := by decide +kernel
theorem dX10_next_79 : decode cX10_next 79 = .ok (.aload_n 0, 1) := by decide +kernel
theorem dX10_next_80 : decode cX10_next 80 = .ok (.getfield 169, 3) := by decide +kernel
theorem dX10_next_83 : decode cX10_next 83 = .ok (.iaload, 1) := by decide +kernel
theorem dX10_next_84 : decode cX10_next 84 = .ok (.invokestatic 176, 3) := by decide +kernel
theorem dX10_next_87 : decode cX10_next 87 = .ok (.ifCond .eq 7, 3) := by decide +kernel
theorem dX10_next_90 : decode cX10_next 90 = .ok (.iconst 1, 1) := by decide +kernel
theorem dX10_next_91 : decode cX10_next 91 = .ok (.goto 23, 3) := by decide +kernel
theorem dX10_next_94 : decode cX10_next 94 = .ok (.aload_n 0, 1) := by decide +kernel
theorem dX10_next_95 : decode cX10_next 95 = .ok (.getfield 62, 3) := by decide +kernel
theorem dX10_next_98 : decode cX10_next 98 = .ok (.aload_n 0, 1) := by decide +kernel
theorem dX10_next_99 : decode cX10_next 99 = .ok (.getfield 169, 3) := by decide +kernel
theorem dX10_next_102 : decode cX10_next 102 = .ok (.iaload, 1) := by decide +kernel
theorem dX10_next_103 : decode cX10_next 103 = .ok (.invokestatic 179, 3) := by decide +kernel
theorem dX10_next_106 : decode cX10_next 106 = .ok (.ifCond .eq 7, 3) := by decide +kernel
theorem dX10_next_109 : decode cX10_next 109 = .ok (.iconst 2, 1) := by decide +kernel
theorem dX10_next_110 : decode cX10_next 110 = .ok (.goto 4, 3) := by decide +kernel
theorem dX10_next_113 : decode cX10_next 113 = .ok (.iconst 3, 1) := by decide +kernel
theorem dX10_next_114 : decode cX10_next 114 = .ok (.putfield 182, 3) := by decide +kernel
theorem dX10_next_117 : decode cX10_next 117 = .ok (.aload_n 0, 1) := by decide +kernel
theorem dX10_next_118 : decode cX10_next 118 = .ok (.getfield 182, 3) := by decide +kernel
theorem dX10_next_121 : decode cX10_next 121 = .ok (.iconst 3, 1) := by decide +kernel
theorem dX10_next_122 : decode cX10_next 122 = .ok (.if_icmp .ne 27, 3) := by decide +kernel
theorem dX10_next_125 : decode cX10_next 125 = .ok (.aload_n 0, 1) := by decide +kernel
theorem dX10_next_126 : decode cX10_next 126 = .ok (.aload_n 0, 1) := by decide +kernel
theorem dX10_next_127 : decode cX10_next 127 = .ok (.getfield 62, 3) := by decide +kernel
theorem dX10_next_130 : decode cX10_next 130 = .ok (.aload_n 0, 1) := by decide +kernel
theorem dX10_next_131 : decode cX10_next 131 = .ok (.getfield 169, 3) := by decide +kernel
theorem dX10_next_134 : decode cX10_next 134 = .ok (.iaload, 1) := by decide +kernel
theorem dX10_next_135 : decode cX10_next 135 = .ok (.i2l, 1) := by decide +kernel
theorem dX10_next_136 : decode cX10_next 136 = .ok (.putfield 172, 3) := by decide +kernel
theorem dX10_next_139 : decode cX10_next 139 = .ok (.aload_n 0, 1) := by decide +kernel
theorem dX10_next_140 : decode cX10_next 140 = .ok (.dup, 1) := by decide +kernel
theorem dX10_next_141 : decode cX10_next 141 = .ok (.getfield 166, 3) := by decide +kernel
theorem dX10_next_144 : decode cX10_next 144 = .ok (.iconst 1, 1) := by decide +kernel
theorem dX10_next_145 : decode cX10_next 145 = .ok (.iadd, 1) := by decide +kernel
theorem dX10_next_146 : decode cX10_next 146 = .ok (.putfield 166, 3) := by decide +kernel
theorem dX10_next_149 : decode cX10_next 149 = .ok (.aload_n 0, 1) := by decide +kernel
theorem dX10_next_150 : decode cX10_next 150 = .ok (.getfield 182, 3) := by decide +kernel
theorem dX10_next_153 : decode cX10_next 153 = .ok (.iconst 1, 1) := by decide +kernel
theorem dX10_next_154 : decode cX10_next 154 = .ok (.if_icmp .ne 89, 3) := by decide +kernel
theorem dX10_next_157 : decode cX10_next 157 = .ok (.aload_n 0, 1) := by decide +kernel
theorem dX10_next_158 : decode cX10_next 158 = .ok (.getfield 166, 3) := by decide +kernel
theorem dX10_next_161 : decode cX10_next 161 = .ok (.aload_n 0, 1) := by decide +kernel
theorem dX10_next_162 : decode cX10_next 162 = .ok (.getfield 159, 3) := by decide +kernel
theorem dX10_next_165 : decode cX10_next 165 = .ok (.if_icmp .ge 78, 3) := by decide +kernel
theorem dX10_next_168 : decode cX10_next 168 = .ok (.aload_n 0, 1) := by decide +kernel
theorem dX10_next_169 : decode cX10_next 169 = .ok (.getfield 62, 3) := by decide +kernel
theorem dX10_next_172 : decode cX10_next 172 = .ok (.aload_n 0, 1) := by decide +kernel
theorem dX10_next_173 : decode cX10_next 173 = .ok (.getfield 166, 3) := by decide +kernel
theorem dX10_next_176 : decode cX10_next 176 = .ok (.iaload, 1) := by decide +kernel
theorem dX10_next_177 : decode cX10_next 177 = .ok (.invokestatic 176, 3) := by decide +kernel
theorem dX10_next_180 : decode cX10_next 180 = .ok (.ifCond .eq 63, 3) := by decide +kernel
theorem dX10_next_183 : decode cX10_next 183 = .ok (.aload_n 0, 1) := by decide +kernel
theorem dX10_next_184 : decode cX10_next 184 = .ok (.aload_n 0, 1) := by decide +kernel
theorem dX10_next_185 : decode cX10_next 185 = .ok (.getfield 166, 3) := by decide +kernel
theorem dX10_next_188 : decode cX10_next 188 = .ok (.aload_n 0, 1) := by decide +kernel
theorem dX10_next_189 : decode cX10_next 189 = .ok (.getfield 169, 3) := by decide +kernel
theorem dX10_next_192 : decode cX10_next 192 = .ok (.isub, 1) := by decide +kernel
theorem dX10_next_193 : decode cX10_next 193 = .ok (.bipush 6, 2) := by decide +kernel
theorem dX10_next_195 : decode cX10_next 195 = .ok (.if_icmp .ge 29, 3) := by decide +kernel
theorem dX10_next_198 : decode cX10_next 198 = .ok (.aload_n 0, 1) := by decide +kernel
theorem dX10_next_199 : decode cX10_next 199 = .ok (.getfield 172, 3) := by decide +kernel
theorem dX10_next_202 : decode cX10_next 202 = .ok (.ldc2_w 185, 3) := by decide +kernel
theorem dX10_next_205 : decode cX10_next 205 = .ok (.lmul, 1) := by decide +kernel
theorem dX10_next_206 : decode cX10_next 206 = .ok (.aload_n 0, 1) := by decide +kernel
theorem dX10_next_207 : decode cX10_next 207 = .ok (.getfield 62, 3) := by decide +kernel
theorem dX10_next_210 : decode cX10_next 210 = .ok (.aload_n 0, 1) := by decide +kernel
theorem dX10_next_211 : decode cX10_next 211 = .ok (.getfield 166, 3) := by decide +kernel
theorem dX10_next_214 : decode cX10_next 214 = .ok (.iaload, 1) := by decide +kernel
theorem dX10_next_215 : decode cX10_next 215 = .ok (.i2l, 1) := by decide +kernel
theorem dX10_next_216 : decode cX10_next 216 = .ok (.ladd, 1) := by decide +kernel
theorem dX10_next_217 : decode cX10_next 217 = .ok (.ldc2_w 187, 3) := by decide +kernel
theorem dX10_next_220 : decode cX10_next 220 = .ok (.lsub, 1) := by decide +kernel
theorem dX10_next_221 : decode cX10_next 221 = .ok (.goto 6, 3) := by decide +kernel
theorem dX10_next_224 : decode cX10_next 224 = .ok (.ldc2_w 189, 3) := by decide +kernel
theorem dX10_next_227 : decode cX10_next 227 = .ok (.putfield 172, 3) := by decide +kernel
theorem dX10_next_230 : decode cX10_next 230 = .ok (.aload_n 0, 1) := by decide +kernel
theorem dX10_next_231 : decode cX10_next 231 = .ok (.dup, 1) := by decide +kernel
theorem dX10_next_232 : decode cX10_next 232 = .ok (.getfield 166, 3) := by decide +kernel
theorem dX10_next_235 : decode cX10_next 235 = .ok (.iconst 1, 1) := by decide +kernel
theorem dX10_next_236 : decode cX10_next 236 = .ok (.iadd, 1) := by decide +kernel
theorem dX10_next_237 : decode cX10_next 237 = .ok (.putfield 166, 3) := by decide +kernel
theorem dX10_next_240 : decode cX10_next 240 = .ok (.goto (-91), 3) := by decide +kernel
theorem dX10_next_243 : decode cX10_next 243 = .ok (.aload_n 0, 1) := by decide +kernel
theorem dX10_next_244 : decode cX10_next 244 = .ok (.getfield 182, 3) := by decide +kernel
theorem dX10_next_247 : decode cX10_next 247 = .ok (.iconst 2, 1) := by decide +kernel
theorem dX10_next_248 : decode cX10_next 248 = .ok (.if_icmp .ne 87, 3) := by decide +kernel
theorem dX10_next_251 : decode cX10_next 251 = .ok (.aload_n 0, 1) := by decide +kernel
theorem dX10_next_252 : decode cX10_next 252 = .ok (.getfield 166, 3) := by decide +kernel
theorem dX10_next_255 : decode cX10_next 255 = .ok (.aload_n 0, 1) := by decide +kernel
theorem dX10_next_256 : decode cX10_next 256 = .ok (.getfield 159, 3) := by decide +kernel
theorem dX10_next_259 : decode cX10_next 259 = .ok (.if_icmp .ge 76, 3) := by decide +kernel
theorem dX10_next_262 : decode cX10_next 262 = .ok (.aload_n 0, 1) := by decide +kernel
theorem dX10_next_263 : decode cX10_next 263 = .ok (.getfield 62, 3) := by decide +kernel
theorem dX10_next_266 : decode cX10_next 266 = .ok (.aload_n 0, 1) := by decide +kernel
theorem dX10_next_267 : decode cX10_next 267 = .ok (.getfield 166, 3) := by decide +kernel
theorem dX10_next_270 : decode cX10_next 270 = .ok (.iaload, 1) := by decide +kernel
theorem dX10_next_271 : decode cX10_next 271 = .ok (.invokestatic 179, 3) := by decide +kernel
theorem dX10_next_274 : decode cX10_next 274 = .ok (.ifCond .eq 61, 3) := by decide +kernel
theorem dX10_next_277 : decode cX10_next 277 = .ok (.aload_n 0, 1) := by decide +kernel
theorem dX10_next_278 : decode cX10_next 278 = .ok (.aload_n 0, 1) := by decide +kernel
theorem dX10_next_279 : decode cX10_next 279 = .ok (.getfield 172, 3) := by decide +kernel
theorem dX10_next_282 : decode cX10_next 282 = .ok (.ldc2_w 191, 3) := by decide +kernel
theorem dX10_next_285 : decode cX10_next 285 = .ok (.lcmp, 1) := by decide +kernel
theorem dX10_next_286 : decode cX10_next 286 = .ok (.ifCond .le 10, 3) := by decide +kernel
theorem dX10_next_289 : decode cX10_next 289 = .ok (.aload_n 0, 1) := by decide +kernel
theorem dX10_next_290 : decode cX10_next 290 = .ok (.getfield 172, 3) := by decide +kernel
theorem dX10_next_293 : decode cX10_next 293 = .ok (.goto 26, 3) := by decide +kernel
theorem dX10_next_296 : decode cX10_next 296 = .ok (.aload_n 0, 1) := by decide +kernel
theorem dX10_next_297 : decode cX10_next 297 = .ok (.getfield 172, 3) := by decide +kernel
theorem dX10_next_300 : decode cX10_next 300 = .ok (.ldc2_w 193, 3) := by decide +kernel
theorem dX10_next_303 : decode cX10_next 303 = .ok (.lmul, 1) := by decide +kernel
theorem dX10_next_304 : decode cX10_next 304 = .ok (.aload_n 0, 1) := by decide +kernel
theorem dX10_next_305 : decode cX10_next 305 = .ok (.getfield 62, 3) := by decide +kernel
theorem dX10_next_308 : decode cX10_next 308 = .ok (.aload_n 0, 1) := by decide +kernel
theorem dX10_next_309 : decode cX10_next 309 = .ok (.getfield 166, 3) := by decide +kernel
theorem dX10_next_312 : decode cX10_next 312 = .ok (.iaload, 1) := by decide +kernel
theorem dX10_next_313 : decode cX10_next 313 = .ok (.i2l, 1) := by decide +kernel
theorem dX10_next_314 : decode cX10_next 314 = .ok (.ladd, 1) := by decide +kernel
theorem dX10_next_315 : decode cX10_next 315 = .ok (.ldc2_w 195, 3) := by decide +kernel
theorem dX10_next_318 : decode cX10_next 318 = .ok (.lsub, 1) := by decide +kernel
theorem dX10_next_319 : decode cX10_next 319 = .ok (.putfield 172, 3) := by decide +kernel
theorem dX10_next_322 : decode cX10_next 322 = .ok (.aload_n 0, 1) := by decide +kernel
theorem dX10_next_323 : decode cX10_next 323 = .ok (.dup, 1) := by decide +kernel
theorem dX10_next_324 : decode cX10_next 324 = .ok (.getfield 166, 3) := by decide +kernel
theorem dX10_next_327 : decode cX10_next 327 = .ok (.iconst 1, 1) := by decide +kernel
theorem dX10_next_328 : decode cX10_next 328 = .ok (.iadd, 1) := by decide +kernel
theorem dX10_next_329 : decode cX10_next 329 = .ok (.putfield 166, 3) := by decide +kernel
theorem dX10_next_332 : decode cX10_next 332 = .ok (.goto (-89), 3) := by decide +kernel
theorem dX10_next_335 : decode cX10_next 335 = .ok (.return_, 1) := by decide +kernel
theorem dX10_isWord_0 : decode cX10_isWord 0 = .ok (.iload_n 1, 1) := by decide +kernel
theorem dX10_isWord_1 : decode cX10_isWord 1 = .ok (.i2l, 1) := by decide +kernel
theorem dX10_isWord_2 : decode cX10_isWord 2 = .ok (.ldc2_w 187, 3) := by decide +kernel
theorem dX10_isWord_5 : decode cX10_isWord 5 = .ok (.lsub, 1) := by decide +kernel
theorem dX10_isWord_6 : decode cX10_isWord 6 = .ok (.ldc2_w 185, 3) := by decide +kernel
theorem dX10_isWord_9 : decode cX10_isWord 9 = .ok (.lmul, 1) := by decide +kernel
theorem dX10_isWord_10 : decode cX10_isWord 10 = .ok (.iload_n 2, 1) := by decide +kernel
theorem dX10_isWord_11 : decode cX10_isWord 11 = .ok (.i2l, 1) := by decide +kernel
theorem dX10_isWord_12 : decode cX10_isWord 12 = .ok (.ladd, 1) := by decide +kernel
theorem dX10_isWord_13 : decode cX10_isWord 13 = .ok (.ldc2_w 187, 3) := by decide +kernel
theorem dX10_isWord_16 : decode cX10_isWord 16 = .ok (.lsub, 1) := by decide +kernel
theorem dX10_isWord_17 : decode cX10_isWord 17 = .ok (.lstore 6, 2) := by decide +kernel
theorem dX10_isWord_19 : decode cX10_isWord 19 = .ok (.iload_n 3, 1) := by decide +kernel
theorem dX10_isWord_20 : decode cX10_isWord 20 = .ok (.ifCond .ne 8, 3) := by decide +kernel
theorem dX10_isWord_23 : decode cX10_isWord 23 = .ok (.lload 6, 2) := by decide +kernel
theorem dX10_isWord_25 : decode cX10_isWord 25 = .ok (.goto 16, 3) := by decide +kernel
theorem dX10_isWord_28 : decode cX10_isWord 28 = .ok (.lload 6, 2) := by decide +kernel
theorem dX10_isWord_30 : decode cX10_isWord 30 = .ok (.ldc2_w 185, 3) := by decide +kernel
theorem dX10_isWord_33 : decode cX10_isWord 33 = .ok (.lmul, 1) := by decide +kernel
theorem dX10_isWord_34 : decode cX10_isWord 34 = .ok (.iload_n 3, 1) := by decide +kernel
theorem dX10_isWord_35 : decode cX10_isWord 35 = .ok (.i2l, 1) := by decide +kernel
theorem dX10_isWord_36 : decode cX10_isWord 36 = .ok (.ladd, 1) := by decide +kernel
theorem dX10_isWord_37 : decode cX10_isWord 37 = .ok (.ldc2_w 187, 3) := by decide +kernel
theorem dX10_isWord_40 : decode cX10_isWord 40 = .ok (.lsub, 1) := by decide +kernel
theorem dX10_isWord_41 : decode cX10_isWord 41 = .ok (.lstore 6, 2) := by decide +kernel
theorem dX10_isWord_43 : decode cX10_isWord 43 = .ok (.iload 4, 2) := by decide +kernel
theorem dX10_isWord_45 : decode cX10_isWord 45 = .ok (.ifCond .ne 8, 3) := by decide +kernel
theorem dX10_isWord_48 : decode cX10_isWord 48 = .ok (.lload 6, 2) := by decide +kernel
theorem dX10_isWord_50 : decode cX10_isWord 50 = .ok (.goto 17, 3) := by decide +kernel
theorem dX10_isWord_53 : decode cX10_isWord 53 = .ok (.lload 6, 2) := by decide +kernel
theorem dX10_isWord_55 : decode cX10_isWord 55 = .ok (.ldc2_w 185, 3) := by decide +kernel
theorem dX10_isWord_58 : decode cX10_isWord 58 = .ok (.lmul, 1) := by decide +kernel
theorem dX10_isWord_59 : decode cX10_isWord 59 = .ok (.iload 4, 2) := by decide +kernel
theorem dX10_isWord_61 : decode cX10_isWord 61 = .ok (.i2l, 1) := by decide +kernel
theorem dX10_isWord_62 : decode cX10_isWord 62 = .ok (.ladd, 1) := by decide +kernel
theorem dX10_isWord_63 : decode cX10_isWord 63 = .ok (.ldc2_w 187, 3) := by decide +kernel
theorem dX10_isWord_66 : decode cX10_isWord 66 = .ok (.lsub, 1) := by decide +kernel
theorem dX10_isWord_67 : decode cX10_isWord 67 = .ok (.lstore 6, 2) := by decide +kernel
theorem dX10_isWord_69 : decode cX10_isWord 69 = .ok (.iload 5, 2) := by decide +kernel
theorem dX10_isWord_71 : decode cX10_isWord 71 = .ok (.ifCond .ne 8, 3) := by decide +kernel
theorem dX10_isWord_74 : decode cX10_isWord 74 = .ok (.lload 6, 2) := by decide +kernel
theorem dX10_isWord_76 : decode cX10_isWord 76 = .ok (.goto 17, 3) := by decide +kernel
theorem dX10_isWord_79 : decode cX10_isWord 79 = .ok (.lload 6, 2) := by decide +kernel
theorem dX10_isWord_81 : decode cX10_isWord 81 = .ok (.ldc2_w 185, 3) := by decide +kernel
theorem dX10_isWord_84 : decode cX10_isWord 84 = .ok (.lmul, 1) := by decide +kernel
theorem dX10_isWord_85 : decode cX10_isWord 85 = .ok (.iload 5, 2) := by decide +kernel
theorem dX10_isWord_87 : decode cX10_isWord 87 = .ok (.i2l, 1) := by decide +kernel
theorem dX10_isWord_88 : decode cX10_isWord 88 = .ok (.ladd, 1) := by decide +kernel
theorem dX10_isWord_89 : decode cX10_isWord 89 = .ok (.ldc2_w 187, 3) := by decide +kernel
theorem dX10_isWord_92 : decode cX10_isWord 92 = .ok (.lsub, 1) := by decide +kernel
theorem dX10_isWord_93 : decode cX10_isWord 93 = .ok (.lstore 6, 2) := by decide +kernel
theorem dX10_isWord_95 : decode cX10_isWord 95 = .ok (.aload_n 0, 1) := by decide +kernel
theorem dX10_isWord_96 : decode cX10_isWord 96 = .ok (.getfield 182, 3) := by decide +kernel
theorem dX10_isWord_99 : decode cX10_isWord 99 = .ok (.iconst 1, 1) := by decide +kernel
theorem dX10_isWord_100 : decode cX10_isWord 100 = .ok (.if_icmp .ne 17, 3) := by decide +kernel
theorem dX10_isWord_103 : decode cX10_isWord 103 = .ok (.aload_n 0, 1) := by decide +kernel
theorem dX10_isWord_104 : decode cX10_isWord 104 = .ok (.getfield 172, 3) := by decide +kernel
theorem dX10_isWord_107 : decode cX10_isWord 107 = .ok (.lload 6, 2) := by decide +kernel
theorem dX10_isWord_109 : decode cX10_isWord 109 = .ok (.lcmp, 1) := by decide +kernel
theorem dX10_isWord_110 : decode cX10_isWord 110 = .ok (.ifCond .ne 7, 3) := by decide +kernel
theorem dX10_isWord_113 : decode cX10_isWord 113 = .ok (.iconst 1, 1) := by decide +kernel
theorem dX10_isWord_114 : decode cX10_isWord 114 = .ok (.goto 4, 3) := by decide +kernel
theorem dX10_isWord_117 : decode cX10_isWord 117 = .ok (.iconst 0, 1) := by decide +kernel
theorem dX10_isWord_118 : decode cX10_isWord 118 = .ok (.ireturn, 1) := by decide +kernel
theorem dX10_must_0 : decode cX10_must 0 = .ok (.aload_n 0, 1) := by decide +kernel
theorem dX10_must_1 : decode cX10_must 1 = .ok (.getfield 197, 3) := by decide +kernel
theorem dX10_must_4 : decode cX10_must 4 = .ok (.ifCond .ne 20, 3) := by decide +kernel
theorem dX10_must_7 : decode cX10_must 7 = .ok (.iload_n 1, 1) := by decide +kernel
theorem dX10_must_8 : decode cX10_must 8 = .ok (.ifCond .ne 16, 3) := by decide +kernel
theorem dX10_must_11 : decode cX10_must 11 = .ok (.aload_n 0, 1) := by decide +kernel
theorem dX10_must_12 : decode cX10_must 12 = .ok (.iconst 1, 1) := by decide +kernel
theorem dX10_must_13 : decode cX10_must 13 = .ok (.putfield 197, 3) := by decide +kernel
theorem dX10_must_16 : decode cX10_must 16 = .ok (.aload_n 0, 1) := by decide +kernel
theorem dX10_must_17 : decode cX10_must 17 = .ok (.aload_n 0, 1) := by decide +kernel
theorem dX10_must_18 : decode cX10_must 18 = .ok (.getfield 169, 3) := by decide +kernel
theorem dX10_must_21 : decode cX10_must 21 = .ok (.putfield 65, 3) := by decide +kernel
theorem dX10_must_24 : decode cX10_must 24 = .ok (.aload_n 0, 1) := by decide +kernel
theorem dX10_must_25 : decode cX10_must 25 = .ok (.getfield 197, 3) := by decide +kernel
theorem dX10_must_28 : decode cX10_must 28 = .ok (.ifCond .ne 7, 3) := by decide +kernel
theorem dX10_must_31 : decode cX10_must 31 = .ok (.aload_n 0, 1) := by decide +kernel
theorem dX10_must_32 : decode cX10_must 32 = .ok (.invokevirtual 201, 3) := by decide +kernel
theorem dX10_must_35 : decode cX10_must 35 = .ok (.return_, 1) := by decide +kernel
theorem dX10_number_0 : decode cX10_number 0 = .ok (.aload_n 0, 1) := by decide +kernel
theorem dX10_number_1 : decode cX10_number 1 = .ok (.getfield 172, 3) := by decide +kernel
theorem dX10_number_4 : decode cX10_number 4 = .ok (.l2i, 1) := by decide +kernel
theorem dX10_number_5 : decode cX10_number 5 = .ok (.istore 5, 2) := by decide +kernel
theorem dX10_number_7 : decode cX10_number 7 = .ok (.aload_n 0, 1) := by decide +kernel
theorem dX10_number_8 : decode cX10_number 8 = .ok (.aload_n 0, 1) := by decide +kernel
theorem dX10_number_9 : decode cX10_number 9 = .ok (.getfield 182, 3) := by decide +kernel
theorem dX10_number_12 : decode cX10_number 12 = .ok (.iconst 2, 1) := by decide +kernel
theorem dX10_number_13 : decode cX10_number 13 = .ok (.if_icmp .ne 19, 3) := by decide +kernel
theorem dX10_number_16 : decode cX10_number 16 = .ok (.aload_n 0, 1) := by decide +kernel
theorem dX10_number_17 : decode cX10_number 17 = .ok (.getfield 172, 3) := by decide +kernel
theorem dX10_number_20 : decode cX10_number 20 = .ok (.lload_n 1, 1) := by decide +kernel
theorem dX10_number_21 : decode cX10_number 21 = .ok (.lload_n 3, 1) := by decide +kernel
theorem dX10_number_22 : decode cX10_number 22 = .ok (.invokestatic 125, 3) := by decide +kernel
theorem dX10_number_25 : decode cX10_number 25 = .ok (.ifCond .eq 7, 3) := by decide +kernel
theorem dX10_number_28 : decode cX10_number 28 = .ok (.iconst 1, 1) := by decide +kernel
theorem dX10_number_29 : decode cX10_number 29 = .ok (.goto 4, 3) := by decide +kernel
theorem dX10_number_32 : decode cX10_number 32 = .ok (.iconst 0, 1) := by decide +kernel
theorem dX10_number_33 : decode cX10_number 33 = .ok (.invokevirtual 204, 3) := by decide +kernel
theorem dX10_number_36 : decode cX10_number 36 = .ok (.iload 5, 2) := by decide +kernel
theorem dX10_number_38 : decode cX10_number 38 = .ok (.ireturn, 1) := by decide +kernel
theorem dX10_partAt_0 : decode cX10_partAt 0 = .ok (.aload_n 0, 1) := by decide +kernel
theorem dX10_partAt_1 : decode cX10_partAt 1 = .ok (.bipush 111, 2) := by decide +kernel
theorem dX10_partAt_3 : decode cX10_partAt 3 = .ok (.bipush 118, 2) := by decide +kernel
theorem dX10_partAt_5 : decode cX10_partAt 5 = .ok (.bipush 101, 2) := by decide +kernel
theorem dX10_partAt_7 : decode cX10_partAt 7 = .ok (.bipush 114, 2) := by decide +kernel
theorem dX10_partAt_9 : decode cX10_partAt 9 = .ok (.iconst 0, 1) := by decide +kernel
theorem dX10_partAt_10 : decode cX10_partAt 10 = .ok (.invokevirtual 208, 3) := by decide +kernel
theorem dX10_partAt_13 : decode cX10_partAt 13 = .ok (.ifCond .eq 7, 3) := by decide +kernel
theorem dX10_partAt_16 : decode cX10_partAt 16 = .ok (.iconst 0, 1) := by decide +kernel
theorem dX10_partAt_17 : decode cX10_partAt 17 = .ok (.goto 64, 3) := by decide +kernel
theorem dX10_partAt_20 : decode cX10_partAt 20 = .ok (.aload_n 0, 1) := by decide +kernel
theorem dX10_partAt_21 : decode cX10_partAt 21 = .ok (.bipush 100, 2) := by decide +kernel
theorem dX10_partAt_23 : decode cX10_partAt 23 = .ok (.bipush 101, 2) := by decide +kernel
theorem dX10_partAt_25 : decode cX10_partAt 25 = .ok (.bipush 98, 2) := by decide +kernel
theorem dX10_partAt_27 : decode cX10_partAt 27 = .ok (.bipush 116, 2) := by decide +kernel
theorem dX10_partAt_29 : decode cX10_partAt 29 = .ok (.iconst 0, 1) := by decide +kernel
theorem dX10_partAt_30 : decode cX10_partAt 30 = .ok (.invokevirtual 208, 3) := by decide +kernel
theorem dX10_partAt_33 : decode cX10_partAt 33 = .ok (.ifCond .eq 7, 3) := by decide +kernel
theorem dX10_partAt_36 : decode cX10_partAt 36 = .ok (.iconst 1, 1) := by decide +kernel
theorem dX10_partAt_37 : decode cX10_partAt 37 = .ok (.goto 44, 3) := by decide +kernel
theorem dX10_partAt_40 : decode cX10_partAt 40 = .ok (.aload_n 0, 1) := by decide +kernel
theorem dX10_partAt_41 : decode cX10_partAt 41 = .ok (.bipush 115, 2) := by decide +kernel
theorem dX10_partAt_43 : decode cX10_partAt 43 = .ok (.bipush 116, 2) := by decide +kernel
theorem dX10_partAt_45 : decode cX10_partAt 45 = .ok (.bipush 97, 2) := by decide +kernel
theorem dX10_partAt_47 : decode cX10_partAt 47 = .ok (.bipush 110, 2) := by decide +kernel
theorem dX10_partAt_49 : decode cX10_partAt 49 = .ok (.bipush 100, 2) := by decide +kernel
theorem dX10_partAt_51 : decode cX10_partAt 51 = .ok (.invokevirtual 208, 3) := by decide +kernel
theorem dX10_partAt_54 : decode cX10_partAt 54 = .ok (.ifCond .eq 7, 3) := by decide +kernel
theorem dX10_partAt_57 : decode cX10_partAt 57 = .ok (.iconst 2, 1) := by decide +kernel
theorem dX10_partAt_58 : decode cX10_partAt 58 = .ok (.goto 23, 3) := by decide +kernel
theorem dX10_partAt_61 : decode cX10_partAt 61 = .ok (.aload_n 0, 1) := by decide +kernel
theorem dX10_partAt_62 : decode cX10_partAt 62 = .ok (.bipush 100, 2) := by decide +kernel
theorem dX10_partAt_64 : decode cX10_partAt 64 = .ok (.bipush 117, 2) := by decide +kernel
theorem dX10_partAt_66 : decode cX10_partAt 66 = .ok (.bipush 101, 2) := by decide +kernel
theorem dX10_partAt_68 : decode cX10_partAt 68 = .ok (.iconst 0, 1) := by decide +kernel
theorem dX10_partAt_69 : decode cX10_partAt 69 = .ok (.iconst 0, 1) := by decide +kernel
theorem dX10_partAt_70 : decode cX10_partAt 70 = .ok (.invokevirtual 208, 3) := by decide +kernel
theorem dX10_partAt_73 : decode cX10_partAt 73 = .ok (.ifCond .eq 7, 3) := by decide +kernel
theorem dX10_partAt_76 : decode cX10_partAt 76 = .ok (.iconst 3, 1) := by decide +kernel
theorem dX10_partAt_77 : decode cX10_partAt 77 = .ok (.goto 4, 3) := by decide +kernel
theorem dX10_partAt_80 : decode cX10_partAt 80 = .ok (.iconst (-1), 1) := by decide +kernel
theorem dX10_partAt_81 : decode cX10_partAt 81 = .ok (.ireturn, 1) := by decide +kernel
theorem dX10_readClause_0 : decode cX10_readClause 0 = .ok (.aload_n 0, 1) := by decide +kernel
theorem dX10_readClause_1 : decode cX10_readClause 1 = .ok (.bipush 112, 2) := by decide +kernel
theorem dX10_readClause_3 : decode cX10_readClause 3 = .ok (.bipush 114, 2) := by decide +kernel
theorem dX10_readClause_5 : decode cX10_readClause 5 = .ok (.bipush 105, 2) := by decide +kernel
theorem dX10_readClause_7 : decode cX10_readClause 7 = .ok (.bipush 99, 2) := by decide +kernel
theorem dX10_readClause_9 : decode cX10_readClause 9 = .ok (.bipush 101, 2) := by decide +kernel
theorem dX10_readClause_11 : decode cX10_readClause 11 = .ok (.invokevirtual 208, 3) := by decide +kernel
theorem dX10_readClause_14 : decode cX10_readClause 14 = .ok (.istore_n 1, 1) := by decide +kernel
theorem dX10_readClause_15 : decode cX10_readClause 15 = .ok (.aload_n 0, 1) := by decide +kernel
theorem dX10_readClause_16 : decode cX10_readClause 16 = .ok (.bipush 113, 2) := by decide +kernel
theorem dX10_readClause_18 : decode cX10_readClause 18 = .ok (.bipush 117, 2) := by decide +kernel
theorem dX10_readClause_20 : decode cX10_readClause 20 = .ok (.bipush 111, 2) := by decide +kernel
theorem dX10_readClause_22 : decode cX10_readClause 22 = .ok (.bipush 116, 2) := by decide +kernel
theorem dX10_readClause_24 : decode cX10_readClause 24 = .ok (.bipush 97, 2) := by decide +kernel
theorem dX10_readClause_26 : decode cX10_readClause 26 = .ok (.invokevirtual 208, 3) := by decide +kernel
theorem dX10_readClause_29 : decode cX10_readClause 29 = .ok (.istore_n 2, 1) := by decide +kernel
theorem dX10_readClause_30 : decode cX10_readClause 30 = .ok (.aload_n 0, 1) := by decide +kernel
theorem dX10_readClause_31 : decode cX10_readClause 31 = .ok (.invokevirtual 212, 3) := by decide +kernel
theorem dX10_readClause_34 : decode cX10_readClause 34 = .ok (.istore_n 3, 1) := by decide +kernel
theorem dX10_readClause_35 : decode cX10_readClause 35 = .ok (.aload_n 0, 1) := by decide +kernel
theorem dX10_readClause_36 : decode cX10_readClause 36 = .ok (.iload_n 1, 1) := by decide +kernel
theorem dX10_readClause_37 : decode cX10_readClause 37 = .ok (.ifCond .ne 11, 3) := by decide +kernel
theorem dX10_readClause_40 : decode cX10_readClause 40 = .ok (.iload_n 2, 1) := by decide +kernel
theorem dX10_readClause_41 : decode cX10_readClause 41 = .ok (.ifCond .ne 7, 3) := by decide +kernel
theorem dX10_readClause_44 : decode cX10_readClause 44 = .ok (.iload_n 3, 1) := by decide +kernel
theorem dX10_readClause_45 : decode cX10_readClause 45 = .ok (.ifCond .lt 16, 3) := by decide +kernel
theorem dX10_readClause_48 : decode cX10_readClause 48 = .ok (.aload_n 0, 1) := by decide +kernel
theorem dX10_readClause_49 : decode cX10_readClause 49 = .ok (.getfield 216, 3) := by decide +kernel
theorem dX10_readClause_52 : decode cX10_readClause 52 = .ok (.bipush 20, 2) := by decide +kernel
theorem dX10_readClause_54 : decode cX10_readClause 54 = .ok (.if_icmp .ge 7, 3) := by decide +kernel
theorem dX10_readClause_57 : decode cX10_readClause 57 = .ok (.iconst 1, 1) := by decide +kernel
theorem dX10_readClause_58 : decode cX10_readClause 58 = .ok (.goto 4, 3) := by decide +kernel
theorem dX10_readClause_61 : decode cX10_readClause 61 = .ok (.iconst 0, 1) := by decide +kernel
theorem dX10_readClause_62 : decode cX10_readClause 62 = .ok (.invokevirtual 204, 3) := by decide +kernel
theorem dX10_readClause_65 : decode cX10_readClause 65 = .ok (.iload_n 1, 1) := by decide +kernel
theorem dX10_readClause_66 : decode cX10_readClause 66 = .ok (.ifCond .eq 14, 3) := by decide +kernel
theorem dX10_readClause_69 : decode cX10_readClause 69 = .ok (.aload_n 0, 1) := by decide +kernel
theorem dX10_readClause_70 : decode cX10_readClause 70 = .ok (.lconst 0, 1) := by decide +kernel
theorem dX10_readClause_71 : decode cX10_readClause 71 = .ok (.ldc2_w 154, 3) := by decide +kernel
theorem dX10_readClause_74 : decode cX10_readClause 74 = .ok (.invokevirtual 219, 3) := by decide +kernel
theorem dX10_readClause_77 : decode cX10_readClause 77 = .ok (.goto 4, 3) := by decide +kernel
theorem dX10_readClause_80 : decode cX10_readClause 80 = .ok (.iconst 0, 1) := by decide +kernel
theorem dX10_readClause_81 : decode cX10_readClause 81 = .ok (.istore 4, 2) := by decide +kernel
theorem dX10_readClause_83 : decode cX10_readClause 83 = .ok (.aload_n 0, 1) := by decide +kernel
theorem dX10_readClause_84 : decode cX10_readClause 84 = .ok (.lconst 0, 1) := by decide +kernel
theorem dX10_readClause_85 : decode cX10_readClause 85 = .ok (.ldc2_w 191, 3) := by decide +kernel
theorem dX10_readClause_88 : decode cX10_readClause 88 = .ok (.invokevirtual 219, 3) := by decide +kernel
theorem dX10_readClause_91 : decode cX10_readClause 91 = .ok (.istore 5, 2) := by decide +kernel
theorem dX10_readClause_93 : decode cX10_readClause 93 = .ok (.iconst 0, 1) := by decide +kernel
theorem dX10_readClause_94 : decode cX10_readClause 94 = .ok (.istore 6, 2) := by decide +kernel
theorem dX10_readClause_96 : decode cX10_readClause 96 = .ok (.iload_n 3, 1) := by decide +kernel
theorem dX10_readClause_97 : decode cX10_readClause 97 = .ok (.ifCond .lt 40, 3) := by decide +kernel
theorem dX10_readClause_100 : decode cX10_readClause 100 = .ok (.aload_n 0, 1) := by decide +kernel
theorem dX10_readClause_101 : decode cX10_readClause 101 = .ok (.aload_n 0, 1) := by decide +kernel
theorem dX10_readClause_102 : decode cX10_readClause 102 = .ok (.bipush 111, 2) := by decide +kernel
theorem dX10_readClause_104 : decode cX10_readClause 104 = .ok (.bipush 102, 2) := by decide +kernel
theorem dX10_readClause_106 : decode cX10_readClause 106 = .ok (.iconst 0, 1) := by decide +kernel
theorem dX10_readClause_107 : decode cX10_readClause 107 = .ok (.iconst 0, 1) := by decide +kernel
theorem dX10_readClause_108 : decode cX10_readClause 108 = .ok (.iconst 0, 1) := by decide +kernel
theorem dX10_readClause_109 : decode cX10_readClause 109 = .ok (.invokevirtual 208, 3) := by decide +kernel
theorem dX10_readClause_112 : decode cX10_readClause 112 = .ok (.invokevirtual 204, 3) := by decide +kernel
theorem dX10_readClause_115 : decode cX10_readClause 115 = .ok (.aload_n 0, 1) := by decide +kernel
theorem dX10_readClause_116 : decode cX10_readClause 116 = .ok (.iload 5, 2) := by decide +kernel
theorem dX10_readClause_118 : decode cX10_readClause 118 = .ok (.iconst 1, 1) := by decide +kernel
theorem dX10_readClause_119 : decode cX10_readClause 119 = .ok (.if_icmp .ge 7, 3) := by decide +kernel
theorem dX10_readClause_122 : decode cX10_readClause 122 = .ok (.lconst 1, 1) := by decide +kernel
theorem dX10_readClause_123 : decode cX10_readClause 123 = .ok (.goto 6, 3) := by decide +kernel
theorem dX10_readClause_126 : decode cX10_readClause 126 = .ok (.iload 5, 2) := by decide +kernel
theorem dX10_readClause_128 : decode cX10_readClause 128 = .ok (.i2l, 1) := by decide +kernel
theorem dX10_readClause_129 : decode cX10_readClause 129 = .ok (.ldc2_w 191, 3) := by decide +kernel
theorem dX10_readClause_132 : decode cX10_readClause 132 = .ok (.invokevirtual 219, 3) := by decide +kernel
theorem dX10_readClause_135 : decode cX10_readClause 135 = .ok (.istore 6, 2) := by decide +kernel
theorem dX10_readClause_137 : decode cX10_readClause 137 = .ok (.aload_n 0, 1) := by decide +kernel
theorem dX10_readClause_138 : decode cX10_readClause 138 = .ok (.getfield 197, 3) := by decide +kernel
theorem dX10_readClause_141 : decode cX10_readClause 141 = .ok (.ifCond .eq 4, 3) := by decide +kernel
theorem dX10_readClause_144 : decode cX10_readClause 144 = .ok (.return_, 1) := by decide +kernel
theorem dX10_readClause_145 : decode cX10_readClause 145 = .ok (.iload_n 1, 1) := by decide +kernel
theorem dX10_readClause_146 : decode cX10_readClause 146 = .ok (.ifCond .eq 15, 3) := by decide +kernel
theorem dX10_readClause_149 : decode cX10_readClause 149 = .ok (.aload_n 0, 1) := by decide +kernel
theorem dX10_readClause_150 : decode cX10_readClause 150 = .ok (.getfield 53, 3) := by decide +kernel
theorem dX10_readClause_153 : decode cX10_readClause 153 = .ok (.iload 4, 2) := by decide +kernel
theorem dX10_readClause_155 : decode cX10_readClause 155 = .ok (.iload 5, 2) := by decide +kernel
theorem dX10_readClause_157 : decode cX10_readClause 157 = .ok (.iastore, 1) := by decide +kernel
theorem dX10_readClause_158 : decode cX10_readClause 158 = .ok (.goto 32, 3) := by decide +kernel
theorem dX10_readClause_161 : decode cX10_readClause 161 = .ok (.iload_n 2, 1) := by decide +kernel
theorem dX10_readClause_162 : decode cX10_readClause 162 = .ok (.ifCond .eq 12, 3) := by decide +kernel
theorem dX10_readClause_165 : decode cX10_readClause 165 = .ok (.aload_n 0, 1) := by decide +kernel
theorem dX10_readClause_166 : decode cX10_readClause 166 = .ok (.iload 5, 2) := by decide +kernel
theorem dX10_readClause_168 : decode cX10_readClause 168 = .ok (.putfield 223, 3) := by decide +kernel
theorem dX10_readClause_171 : decode cX10_readClause 171 = .ok (.goto 19, 3) := by decide +kernel
theorem dX10_readClause_174 : decode cX10_readClause 174 = .ok (.aload_n 0, 1) := by decide +kernel
theorem dX10_readClause_175 : decode cX10_readClause 175 = .ok (.getfield 56, 3) := by decide +kernel
theorem dX10_readClause_178 : decode cX10_readClause 178 = .ok (.iload_n 3, 1) := by decide +kernel
theorem dX10_readClause_179 : decode cX10_readClause 179 = .ok (.iload 5, 2) := by decide +kernel
theorem dX10_readClause_181 : decode cX10_readClause 181 = .ok (.iastore, 1) := by decide +kernel
theorem dX10_readClause_182 : decode cX10_readClause 182 = .ok (.aload_n 0, 1) := by decide +kernel
theorem dX10_readClause_183 : decode cX10_readClause 183 = .ok (.getfield 59, 3) := by decide +kernel
theorem dX10_readClause_186 : decode cX10_readClause 186 = .ok (.iload_n 3, 1) := by decide +kernel
theorem dX10_readClause_187 : decode cX10_readClause 187 = .ok (.iload 6, 2) := by decide +kernel
theorem dX10_readClause_189 : decode cX10_readClause 189 = .ok (.iastore, 1) := by decide +kernel
theorem dX10_readClause_190 : decode cX10_readClause 190 = .ok (.aload_n 0, 1) := by decide +kernel
theorem dX10_readClause_191 : decode cX10_readClause 191 = .ok (.dup, 1) := by decide +kernel
theorem dX10_readClause_192 : decode cX10_readClause 192 = .ok (.getfield 216, 3) := by decide +kernel
theorem dX10_readClause_195 : decode cX10_readClause 195 = .ok (.iconst 1, 1) := by decide +kernel
theorem dX10_readClause_196 : decode cX10_readClause 196 = .ok (.iadd, 1) := by decide +kernel
theorem dX10_readClause_197 : decode cX10_readClause 197 = .ok (.putfield 216, 3) := by decide +kernel
theorem dX10_readClause_200 : decode cX10_readClause 200 = .ok (.return_, 1) := by decide +kernel
theorem dX10_contract_0 : decode cX10_contract 0 = .ok (.aload_n 0, 1) := by decide +kernel
theorem dX10_contract_1 : decode cX10_contract 1 = .ok (.iconst 0, 1) := by decide +kernel
theorem dX10_contract_2 : decode cX10_contract 2 = .ok (.putfield 117, 3) := by decide +kernel
theorem dX10_contract_5 : decode cX10_contract 5 = .ok (.aload_n 0, 1) := by decide +kernel
theorem dX10_contract_6 : decode cX10_contract 6 = .ok (.iconst 0, 1) := by decide +kernel
theorem dX10_contract_7 : decode cX10_contract 7 = .ok (.putfield 166, 3) := by decide +kernel
theorem dX10_contract_10 : decode cX10_contract 10 = .ok (.aload_n 0, 1) := by decide +kernel
theorem dX10_contract_11 : decode cX10_contract 11 = .ok (.iconst 0, 1) := by decide +kernel
theorem dX10_contract_12 : decode cX10_contract 12 = .ok (.putfield 197, 3) := by decide +kernel
theorem dX10_contract_15 : decode cX10_contract 15 = .ok (.aload_n 0, 1) := by decide +kernel
theorem dX10_contract_16 : decode cX10_contract 16 = .ok (.iconst (-1), 1) := by decide +kernel
theorem dX10_contract_17 : decode cX10_contract 17 = .ok (.putfield 65, 3) := by decide +kernel
theorem dX10_contract_20 : decode cX10_contract 20 = .ok (.aload_n 0, 1) := by decide +kernel
theorem dX10_contract_21 : decode cX10_contract 21 = .ok (.iconst 0, 1) := by decide +kernel
theorem dX10_contract_22 : decode cX10_contract 22 = .ok (.putfield 216, 3) := by decide +kernel
theorem dX10_contract_25 : decode cX10_contract 25 = .ok (.aload_n 0, 1) := by decide +kernel
theorem dX10_contract_26 : decode cX10_contract 26 = .ok (.iconst (-1), 1) := by decide +kernel
theorem dX10_contract_27 : decode cX10_contract 27 = .ok (.putfield 223, 3) := by decide +kernel
theorem dX10_contract_30 : decode cX10_contract 30 = .ok (.iconst 0, 1) := by decide +kernel
theorem dX10_contract_31 : decode cX10_contract 31 = .ok (.istore_n 1, 1) := by decide +kernel
theorem dX10_contract_32 : decode cX10_contract 32 = .ok (.iload_n 1, 1) := by decide +kernel
theorem dX10_contract_33 : decode cX10_contract 33 = .ok (.iconst 5, 1) := by decide +kernel
theorem dX10_contract_34 : decode cX10_contract 34 = .ok (.if_icmp .ge 16, 3) := by decide +kernel
theorem dX10_contract_37 : decode cX10_contract 37 = .ok (.aload_n 0, 1) := by decide +kernel
theorem dX10_contract_38 : decode cX10_contract 38 = .ok (.getfield 53, 3) := by decide +kernel
theorem dX10_contract_41 : decode cX10_contract 41 = .ok (.iload_n 1, 1) := by decide +kernel
theorem dX10_contract_42 : decode cX10_contract 42 = .ok (.iconst 0, 1) := by decide +kernel
theorem dX10_contract_43 : decode cX10_contract 43 = .ok (.iastore, 1) := by decide +kernel
theorem dX10_contract_44 : decode cX10_contract 44 = .ok (.iinc 1 1, 3) := by decide +kernel
theorem dX10_contract_47 : decode cX10_contract 47 = .ok (.goto (-15), 3) := by decide +kernel
theorem dX10_contract_50 : decode cX10_contract 50 = .ok (.iconst 0, 1) := by decide +kernel
theorem dX10_contract_51 : decode cX10_contract 51 = .ok (.istore_n 1, 1) := by decide +kernel
theorem dX10_contract_52 : decode cX10_contract 52 = .ok (.iload_n 1, 1) := by decide +kernel
theorem dX10_contract_53 : decode cX10_contract 53 = .ok (.iconst 4, 1) := by decide +kernel
theorem dX10_contract_54 : decode cX10_contract 54 = .ok (.if_icmp .ge 32, 3) := by decide +kernel
theorem dX10_contract_57 : decode cX10_contract 57 = .ok (.aload_n 0, 1) := by decide +kernel
theorem dX10_contract_58 : decode cX10_contract 58 = .ok (.getfield 56, 3) := by decide +kernel
theorem dX10_contract_61 : decode cX10_contract 61 = .ok (.iload_n 1, 1) := by decide +kernel
theorem dX10_contract_62 : decode cX10_contract 62 = .ok (.iload_n 1, 1) := by decide +kernel
theorem dX10_contract_63 : decode cX10_contract 63 = .ok (.iconst 2, 1) := by decide +kernel
theorem dX10_contract_64 : decode cX10_contract 64 = .ok (.if_icmp .ge 7, 3) := by decide +kernel
theorem dX10_contract_67 : decode cX10_contract 67 = .ok (.iconst 1, 1) := by decide +kernel
theorem dX10_contract_68 : decode cX10_contract 68 = .ok (.goto 4, 3) := by decide +kernel
theorem dX10_contract_71 : decode cX10_contract 71 = .ok (.iconst 0, 1) := by decide +kernel
theorem dX10_contract_72 : decode cX10_contract 72 = .ok (.iastore, 1) := by decide +kernel
theorem dX10_contract_73 : decode cX10_contract 73 = .ok (.aload_n 0, 1) := by decide +kernel
theorem dX10_contract_74 : decode cX10_contract 74 = .ok (.getfield 59, 3) := by decide +kernel
theorem dX10_contract_77 : decode cX10_contract 77 = .ok (.iload_n 1, 1) := by decide +kernel
theorem dX10_contract_78 : decode cX10_contract 78 = .ok (.iconst 1, 1) := by decide +kernel
theorem dX10_contract_79 : decode cX10_contract 79 = .ok (.iastore, 1) := by decide +kernel
theorem dX10_contract_80 : decode cX10_contract 80 = .ok (.iinc 1 1, 3) := by decide +kernel
theorem dX10_contract_83 : decode cX10_contract 83 = .ok (.goto (-31), 3) := by decide +kernel
theorem dX10_contract_86 : decode cX10_contract 86 = .ok (.aload_n 0, 1) := by decide +kernel
theorem dX10_contract_87 : decode cX10_contract 87 = .ok (.invokevirtual 201, 3) := by decide +kernel
theorem dX10_contract_90 : decode cX10_contract 90 = .ok (.aload_n 0, 1) := by decide +kernel
theorem dX10_contract_91 : decode cX10_contract 91 = .ok (.getfield 182, 3) := by decide +kernel
theorem dX10_contract_94 : decode cX10_contract 94 = .ok (.ifCond .eq 63, 3) := by decide +kernel
theorem dX10_contract_97 : decode cX10_contract 97 = .ok (.aload_n 0, 1) := by decide +kernel
theorem dX10_contract_98 : decode cX10_contract 98 = .ok (.invokevirtual 226, 3) := by decide +kernel
theorem dX10_contract_101 : decode cX10_contract 101 = .ok (.aload_n 0, 1) := by decide +kernel
theorem dX10_contract_102 : decode cX10_contract 102 = .ok (.getfield 197, 3) := by decide +kernel
theorem dX10_contract_105 : decode cX10_contract 105 = .ok (.ifCond .ne 33, 3) := by decide +kernel
theorem dX10_contract_108 : decode cX10_contract 108 = .ok (.aload_n 0, 1) := by decide +kernel
theorem dX10_contract_109 : decode cX10_contract 109 = .ok (.getfield 182, 3) := by decide +kernel
theorem dX10_contract_112 : decode cX10_contract 112 = .ok (.iconst 3, 1) := by decide +kernel
theorem dX10_contract_113 : decode cX10_contract 113 = .ok (.if_icmp .ne 25, 3) := by decide +kernel
theorem dX10_contract_116 : decode cX10_contract 116 = .ok (.aload_n 0, 1) := by decide +kernel
theorem dX10_contract_117 : decode cX10_contract 117 = .ok (.getfield 172, 3) := by decide +kernel
theorem dX10_contract_120 : decode cX10_contract 120 = .ok (.ldc2_w 229, 3) := by decide +kernel
theorem dX10_contract_123 : decode cX10_contract 123 = .ok (.lcmp, 1) := by decide +kernel
theorem dX10_contract_124 : decode cX10_contract 124 = .ok (.ifCond .ne 14, 3) := by decide +kernel
theorem dX10_contract_127 : decode cX10_contract 127 = .ok (.aload_n 0, 1) := by decide +kernel
theorem dX10_contract_128 : decode cX10_contract 128 = .ok (.invokevirtual 201, 3) := by decide +kernel
theorem dX10_contract_131 : decode cX10_contract 131 = .ok (.aload_n 0, 1) := by decide +kernel
theorem dX10_contract_132 : decode cX10_contract 132 = .ok (.invokevirtual 226, 3) := by decide +kernel
theorem dX10_contract_135 : decode cX10_contract 135 = .ok (.goto (-34), 3) := by decide +kernel
theorem dX10_contract_138 : decode cX10_contract 138 = .ok (.aload_n 0, 1) := by decide +kernel
theorem dX10_contract_139 : decode cX10_contract 139 = .ok (.getfield 197, 3) := by decide +kernel
theorem dX10_contract_142 : decode cX10_contract 142 = .ok (.ifCond .ne 15, 3) := by decide +kernel
theorem dX10_contract_145 : decode cX10_contract 145 = .ok (.aload_n 0, 1) := by decide +kernel
theorem dX10_contract_146 : decode cX10_contract 146 = .ok (.getfield 182, 3) := by decide +kernel
theorem dX10_contract_149 : decode cX10_contract 149 = .ok (.ifCond .eq 8, 3) := by decide +kernel
theorem dX10_contract_152 : decode cX10_contract 152 = .ok (.aload_n 0, 1) := by decide +kernel
theorem dX10_contract_153 : decode cX10_contract 153 = .ok (.iconst 0, 1) := by decide +kernel
theorem dX10_contract_154 : decode cX10_contract 154 = .ok (.invokevirtual 204, 3) := by decide +kernel
theorem dX10_contract_157 : decode cX10_contract 157 = .ok (.aload_n 0, 1) := by decide +kernel
theorem dX10_contract_158 : decode cX10_contract 158 = .ok (.iconst 0, 1) := by decide +kernel
theorem dX10_contract_159 : decode cX10_contract 159 = .ok (.putfield 159, 3) := by decide +kernel
theorem dX10_contract_162 : decode cX10_contract 162 = .ok (.aload_n 0, 1) := by decide +kernel
theorem dX10_contract_163 : decode cX10_contract 163 = .ok (.getfield 197, 3) := by decide +kernel
theorem dX10_contract_166 : decode cX10_contract 166 = .ok (.ifCond .eq 10, 3) := by decide +kernel
theorem dX10_contract_169 : decode cX10_contract 169 = .ok (.aload_n 0, 1) := by decide +kernel
theorem dX10_contract_170 : decode cX10_contract 170 = .ok (.bipush (-6), 2) := by decide +kernel
theorem dX10_contract_172 : decode cX10_contract 172 = .ok (.invokevirtual 138, 3) := by decide +kernel
theorem dX10_contract_175 : decode cX10_contract 175 = .ok (.ireturn, 1) := by decide +kernel
theorem dX10_contract_176 : decode cX10_contract 176 = .ok (.aload_n 0, 1) := by decide +kernel
theorem dX10_contract_177 : decode cX10_contract 177 = .ok (.aload_n 0, 1) := by decide +kernel
theorem dX10_contract_178 : decode cX10_contract 178 = .ok (.getfield 216, 3) := by decide +kernel
theorem dX10_contract_181 : decode cX10_contract 181 = .ok (.putfield 231, 3) := by decide +kernel
theorem dX10_contract_184 : decode cX10_contract 184 = .ok (.aload_n 0, 1) := by decide +kernel
theorem dX10_contract_185 : decode cX10_contract 185 = .ok (.aload_n 0, 1) := by decide +kernel
theorem dX10_contract_186 : decode cX10_contract 186 = .ok (.getfield 223, 3) := by decide +kernel
theorem dX10_contract_189 : decode cX10_contract 189 = .ok (.putfield 43, 3) := by decide +kernel
theorem dX10_contract_192 : decode cX10_contract 192 = .ok (.iconst 0, 1) := by decide +kernel
theorem dX10_contract_193 : decode cX10_contract 193 = .ok (.istore_n 1, 1) := by decide +kernel
theorem dX10_contract_194 : decode cX10_contract 194 = .ok (.iload_n 1, 1) := by decide +kernel
theorem dX10_contract_195 : decode cX10_contract 195 = .ok (.iconst 5, 1) := by decide +kernel
theorem dX10_contract_196 : decode cX10_contract 196 = .ok (.if_icmp .ge 21, 3) := by decide +kernel
theorem dX10_contract_199 : decode cX10_contract 199 = .ok (.aload_n 0, 1) := by decide +kernel
theorem dX10_contract_200 : decode cX10_contract 200 = .ok (.getfield 40, 3) := by decide +kernel
theorem dX10_contract_203 : decode cX10_contract 203 = .ok (.iload_n 1, 1) := by decide +kernel
theorem dX10_contract_204 : decode cX10_contract 204 = .ok (.aload_n 0, 1) := by decide +kernel
theorem dX10_contract_205 : decode cX10_contract 205 = .ok (.getfield 53, 3) := by decide +kernel
theorem dX10_contract_208 : decode cX10_contract 208 = .ok (.iload_n 1, 1) := by decide +kernel
theorem dX10_contract_209 : decode cX10_contract 209 = .ok (.iaload, 1) := by decide +kernel
theorem dX10_contract_210 : decode cX10_contract 210 = .ok (.iastore, 1) := by decide +kernel
theorem dX10_contract_211 : decode cX10_contract 211 = .ok (.iinc 1 1, 3) := by decide +kernel
theorem dX10_contract_214 : decode cX10_contract 214 = .ok (.goto (-20), 3) := by decide +kernel
theorem dX10_contract_217 : decode cX10_contract 217 = .ok (.iconst 0, 1) := by decide +kernel
theorem dX10_contract_218 : decode cX10_contract 218 = .ok (.istore_n 1, 1) := by decide +kernel
theorem dX10_contract_219 : decode cX10_contract 219 = .ok (.iload_n 1, 1) := by decide +kernel
theorem dX10_contract_220 : decode cX10_contract 220 = .ok (.iconst 4, 1) := by decide +kernel
theorem dX10_contract_221 : decode cX10_contract 221 = .ok (.if_icmp .ge 33, 3) := by decide +kernel
theorem dX10_contract_224 : decode cX10_contract 224 = .ok (.aload_n 0, 1) := by decide +kernel
theorem dX10_contract_225 : decode cX10_contract 225 = .ok (.getfield 47, 3) := by decide +kernel
theorem dX10_contract_228 : decode cX10_contract 228 = .ok (.iload_n 1, 1) := by decide +kernel
theorem dX10_contract_229 : decode cX10_contract 229 = .ok (.aload_n 0, 1) := by decide +kernel
theorem dX10_contract_230 : decode cX10_contract 230 = .ok (.getfield 56, 3) := by decide +kernel
theorem dX10_contract_233 : decode cX10_contract 233 = .ok (.iload_n 1, 1) := by decide +kernel
theorem dX10_contract_234 : decode cX10_contract 234 = .ok (.iaload, 1) := by decide +kernel
theorem dX10_contract_235 : decode cX10_contract 235 = .ok (.iastore, 1) := by decide +kernel
theorem dX10_contract_236 : decode cX10_contract 236 = .ok (.aload_n 0, 1) := by decide +kernel
theorem dX10_contract_237 : decode cX10_contract 237 = .ok (.getfield 50, 3) := by decide +kernel
theorem dX10_contract_240 : decode cX10_contract 240 = .ok (.iload_n 1, 1) := by decide +kernel
theorem dX10_contract_241 : decode cX10_contract 241 = .ok (.aload_n 0, 1) := by decide +kernel
theorem dX10_contract_242 : decode cX10_contract 242 = .ok (.getfield 59, 3) := by decide +kernel
theorem dX10_contract_245 : decode cX10_contract 245 = .ok (.iload_n 1, 1) := by decide +kernel
theorem dX10_contract_246 : decode cX10_contract 246 = .ok (.iaload, 1) := by decide +kernel
theorem dX10_contract_247 : decode cX10_contract 247 = .ok (.iastore, 1) := by decide +kernel
theorem dX10_contract_248 : decode cX10_contract 248 = .ok (.iinc 1 1, 3) := by decide +kernel
theorem dX10_contract_251 : decode cX10_contract 251 = .ok (.goto (-32), 3) := by decide +kernel
theorem dX10_contract_254 : decode cX10_contract 254 = .ok (.aload_n 0, 1) := by decide +kernel
theorem dX10_contract_255 : decode cX10_contract 255 = .ok (.aload_n 0, 1) := by decide +kernel
theorem dX10_contract_256 : decode cX10_contract 256 = .ok (.getfield 231, 3) := by decide +kernel
theorem dX10_contract_259 : decode cX10_contract 259 = .ok (.invokevirtual 138, 3) := by decide +kernel
theorem dX10_contract_262 : decode cX10_contract 262 = .ok (.ireturn, 1) := by decide +kernel
theorem dX10_fault_0 : decode cX10_fault 0 = .ok (.aload_n 0, 1) := by decide +kernel
theorem dX10_fault_1 : decode cX10_fault 1 = .ok (.iconst 0, 1) := by decide +kernel
theorem dX10_fault_2 : decode cX10_fault 2 = .ok (.putfield 117, 3) := by decide +kernel
theorem dX10_fault_5 : decode cX10_fault 5 = .ok (.aload_n 0, 1) := by decide +kernel
theorem dX10_fault_6 : decode cX10_fault 6 = .ok (.getfield 65, 3) := by decide +kernel
theorem dX10_fault_9 : decode cX10_fault 9 = .ok (.ireturn, 1) := by decide +kernel
theorem dX10_partOf_0 : decode cX10_partOf 0 = .ok (.lload_n 1, 1) := by decide +kernel
theorem dX10_partOf_1 : decode cX10_partOf 1 = .ok (.aload_n 0, 1) := by decide +kernel
theorem dX10_partOf_2 : decode cX10_partOf 2 = .ok (.getfield 47, 3) := by decide +kernel
theorem dX10_partOf_5 : decode cX10_partOf 5 = .ok (.iload_n 3, 1) := by decide +kernel
theorem dX10_partOf_6 : decode cX10_partOf 6 = .ok (.iaload, 1) := by decide +kernel
theorem dX10_partOf_7 : decode cX10_partOf 7 = .ok (.i2l, 1) := by decide +kernel
theorem dX10_partOf_8 : decode cX10_partOf 8 = .ok (.lmul, 1) := by decide +kernel
theorem dX10_partOf_9 : decode cX10_partOf 9 = .ok (.aload_n 0, 1) := by decide +kernel
theorem dX10_partOf_10 : decode cX10_partOf 10 = .ok (.getfield 50, 3) := by decide +kernel
theorem dX10_partOf_13 : decode cX10_partOf 13 = .ok (.iload_n 3, 1) := by decide +kernel
theorem dX10_partOf_14 : decode cX10_partOf 14 = .ok (.iaload, 1) := by decide +kernel
theorem dX10_partOf_15 : decode cX10_partOf 15 = .ok (.i2l, 1) := by decide +kernel
theorem dX10_partOf_16 : decode cX10_partOf 16 = .ok (.ldiv, 1) := by decide +kernel
theorem dX10_partOf_17 : decode cX10_partOf 17 = .ok (.lreturn, 1) := by decide +kernel
theorem dX10_reckon_0 : decode cX10_reckon 0 = .ok (.iconst 0, 1) := by decide +kernel
theorem dX10_reckon_1 : decode cX10_reckon 1 = .ok (.istore_n 2, 1) := by decide +kernel
theorem dX10_reckon_2 : decode cX10_reckon 2 = .ok (.iload_n 2, 1) := by decide +kernel
theorem dX10_reckon_3 : decode cX10_reckon 3 = .ok (.aload_n 0, 1) := by decide +kernel
theorem dX10_reckon_4 : decode cX10_reckon 4 = .ok (.getfield 129, 3) := by decide +kernel
theorem dX10_reckon_7 : decode cX10_reckon 7 = .ok (.if_icmp .ge 70, 3) := by decide +kernel
theorem dX10_reckon_10 : decode cX10_reckon 10 = .ok (.aload_n 0, 1) := by decide +kernel
theorem dX10_reckon_11 : decode cX10_reckon 11 = .ok (.getfield 68, 3) := by decide +kernel
theorem dX10_reckon_14 : decode cX10_reckon 14 = .ok (.iload_n 2, 1) := by decide +kernel
theorem dX10_reckon_15 : decode cX10_reckon 15 = .ok (.lconst 0, 1) := by decide +kernel
theorem dX10_reckon_16 : decode cX10_reckon 16 = .ok (.lastore, 1) := by decide +kernel
theorem dX10_reckon_17 : decode cX10_reckon 17 = .ok (.aload_n 0, 1) := by decide +kernel
theorem dX10_reckon_18 : decode cX10_reckon 18 = .ok (.getfield 72, 3) := by decide +kernel
theorem dX10_reckon_21 : decode cX10_reckon 21 = .ok (.iload_n 2, 1) := by decide +kernel
theorem dX10_reckon_22 : decode cX10_reckon 22 = .ok (.lconst 0, 1) := by decide +kernel
theorem dX10_reckon_23 : decode cX10_reckon 23 = .ok (.lastore, 1) := by decide +kernel
theorem dX10_reckon_24 : decode cX10_reckon 24 = .ok (.aload_n 0, 1) := by decide +kernel
theorem dX10_reckon_25 : decode cX10_reckon 25 = .ok (.getfield 75, 3) := by decide +kernel
theorem dX10_reckon_28 : decode cX10_reckon 28 = .ok (.iload_n 2, 1) := by decide +kernel
theorem dX10_reckon_29 : decode cX10_reckon 29 = .ok (.lconst 0, 1) := by decide +kernel
theorem dX10_reckon_30 : decode cX10_reckon 30 = .ok (.lastore, 1) := by decide +kernel
theorem dX10_reckon_31 : decode cX10_reckon 31 = .ok (.aload_n 0, 1) := by decide +kernel
theorem dX10_reckon_32 : decode cX10_reckon 32 = .ok (.getfield 81, 3) := by decide +kernel
theorem dX10_reckon_35 : decode cX10_reckon 35 = .ok (.iload_n 2, 1) := by decide +kernel
theorem dX10_reckon_36 : decode cX10_reckon 36 = .ok (.lconst 0, 1) := by decide +kernel
theorem dX10_reckon_37 : decode cX10_reckon 37 = .ok (.lastore, 1) := by decide +kernel
theorem dX10_reckon_38 : decode cX10_reckon 38 = .ok (.aload_n 0, 1) := by decide +kernel
theorem dX10_reckon_39 : decode cX10_reckon 39 = .ok (.getfield 84, 3) := by decide +kernel
theorem dX10_reckon_42 : decode cX10_reckon 42 = .ok (.iload_n 2, 1) := by decide +kernel
theorem dX10_reckon_43 : decode cX10_reckon 43 = .ok (.aload_n 0, 1) := by decide +kernel
theorem dX10_reckon_44 : decode cX10_reckon 44 = .ok (.getfield 43, 3) := by decide +kernel
theorem dX10_reckon_47 : decode cX10_reckon 47 = .ok (.iconst (-1), 1) := by decide +kernel
theorem dX10_reckon_48 : decode cX10_reckon 48 = .ok (.if_icmp .ne 9, 3) := by decide +kernel
theorem dX10_reckon_51 : decode cX10_reckon 51 = .ok (.ldc2_w 234, 3) := by decide +kernel
theorem dX10_reckon_54 : decode cX10_reckon 54 = .ok (.goto 16, 3) := by decide +kernel
theorem dX10_reckon_57 : decode cX10_reckon 57 = .ok (.aload_n 0, 1) := by decide +kernel
theorem dX10_reckon_58 : decode cX10_reckon 58 = .ok (.getfield 43, 3) := by decide +kernel
theorem dX10_reckon_61 : decode cX10_reckon 61 = .ok (.i2l, 1) := by decide +kernel
theorem dX10_reckon_62 : decode cX10_reckon 62 = .ok (.aload_n 0, 1) := by decide +kernel
theorem dX10_reckon_63 : decode cX10_reckon 63 = .ok (.getfield 16, 3) := by decide +kernel
theorem dX10_reckon_66 : decode cX10_reckon 66 = .ok (.iload_n 2, 1) := by decide +kernel
theorem dX10_reckon_67 : decode cX10_reckon 67 = .ok (.iaload, 1) := by decide +kernel
theorem dX10_reckon_68 : decode cX10_reckon 68 = .ok (.i2l, 1) := by decide +kernel
theorem dX10_reckon_69 : decode cX10_reckon 69 = .ok (.lmul, 1) := by decide +kernel
theorem dX10_reckon_70 : decode cX10_reckon 70 = .ok (.lastore, 1) := by decide +kernel
theorem dX10_reckon_71 : decode cX10_reckon 71 = .ok (.iinc 2 1, 3) := by decide +kernel
theorem dX10_reckon_74 : decode cX10_reckon 74 = .ok (.goto (-72), 3) := by decide +kernel
theorem dX10_reckon_77 : decode cX10_reckon 77 = .ok (.iconst 0, 1) := by decide +kernel
theorem dX10_reckon_78 : decode cX10_reckon 78 = .ok (.istore_n 2, 1) := by decide +kernel
theorem dX10_reckon_79 : decode cX10_reckon 79 = .ok (.iload_n 2, 1) := by decide +kernel
theorem dX10_reckon_80 : decode cX10_reckon 80 = .ok (.aload_n 0, 1) := by decide +kernel
theorem dX10_reckon_81 : decode cX10_reckon 81 = .ok (.getfield 151, 3) := by decide +kernel
theorem dX10_reckon_84 : decode cX10_reckon 84 = .ok (.if_icmp .ge 44, 3) := by decide +kernel
theorem dX10_reckon_87 : decode cX10_reckon 87 = .ok (.aload_n 0, 1) := by decide +kernel
theorem dX10_reckon_88 : decode cX10_reckon 88 = .ok (.getfield 72, 3) := by decide +kernel
theorem dX10_reckon_91 : decode cX10_reckon 91 = .ok (.aload_n 0, 1) := by decide +kernel
theorem dX10_reckon_92 : decode cX10_reckon 92 = .ok (.getfield 19, 3) := by decide +kernel
theorem dX10_reckon_95 : decode cX10_reckon 95 = .ok (.iload_n 2, 1) := by decide +kernel
theorem dX10_reckon_96 : decode cX10_reckon 96 = .ok (.iaload, 1) := by decide +kernel
theorem dX10_reckon_97 : decode cX10_reckon 97 = .ok (.dup2, 1) := by decide +kernel
theorem dX10_reckon_98 : decode cX10_reckon 98 = .ok (.laload, 1) := by decide +kernel
theorem dX10_reckon_99 : decode cX10_reckon 99 = .ok (.aload_n 0, 1) := by decide +kernel
theorem dX10_reckon_100 : decode cX10_reckon 100 = .ok (.getfield 25, 3) := by decide +kernel
theorem dX10_reckon_103 : decode cX10_reckon 103 = .ok (.iload_n 2, 1) := by decide +kernel
theorem dX10_reckon_104 : decode cX10_reckon 104 = .ok (.iaload, 1) := by decide +kernel
theorem dX10_reckon_105 : decode cX10_reckon 105 = .ok (.iload_n 1, 1) := by decide +kernel
theorem dX10_reckon_106 : decode cX10_reckon 106 = .ok (.if_icmp .gt 13, 3) := by decide +kernel
theorem dX10_reckon_109 : decode cX10_reckon 109 = .ok (.aload_n 0, 1) := by decide +kernel
theorem dX10_reckon_110 : decode cX10_reckon 110 = .ok (.getfield 22, 3) := by decide +kernel
theorem dX10_reckon_113 : decode cX10_reckon 113 = .ok (.iload_n 2, 1) := by decide +kernel
theorem dX10_reckon_114 : decode cX10_reckon 114 = .ok (.iaload, 1) := by decide +kernel
theorem dX10_reckon_115 : decode cX10_reckon 115 = .ok (.i2l, 1) := by decide +kernel
theorem dX10_reckon_116 : decode cX10_reckon 116 = .ok (.goto 4, 3) := by decide +kernel
theorem dX10_reckon_119 : decode cX10_reckon 119 = .ok (.lconst 0, 1) := by decide +kernel
theorem dX10_reckon_120 : decode cX10_reckon 120 = .ok (.ladd, 1) := by decide +kernel
theorem dX10_reckon_121 : decode cX10_reckon 121 = .ok (.lastore, 1) := by decide +kernel
theorem dX10_reckon_122 : decode cX10_reckon 122 = .ok (.iinc 2 1, 3) := by decide +kernel
theorem dX10_reckon_125 : decode cX10_reckon 125 = .ok (.goto (-46), 3) := by decide +kernel
theorem dX10_reckon_128 : decode cX10_reckon 128 = .ok (.iconst 0, 1) := by decide +kernel
theorem dX10_reckon_129 : decode cX10_reckon 129 = .ok (.istore_n 2, 1) := by decide +kernel
theorem dX10_reckon_130 : decode cX10_reckon 130 = .ok (.iload_n 2, 1) := by decide +kernel
theorem dX10_reckon_131 : decode cX10_reckon 131 = .ok (.aload_n 0, 1) := by decide +kernel
theorem dX10_reckon_132 : decode cX10_reckon 132 = .ok (.getfield 156, 3) := by decide +kernel
theorem dX10_reckon_135 : decode cX10_reckon 135 = .ok (.if_icmp .ge 147, 3) := by decide +kernel
theorem dX10_reckon_138 : decode cX10_reckon 138 = .ok (.aload_n 0, 1) := by decide +kernel
theorem dX10_reckon_139 : decode cX10_reckon 139 = .ok (.getfield 37, 3) := by decide +kernel
theorem dX10_reckon_142 : decode cX10_reckon 142 = .ok (.iload_n 2, 1) := by decide +kernel
theorem dX10_reckon_143 : decode cX10_reckon 143 = .ok (.iaload, 1) := by decide +kernel
theorem dX10_reckon_144 : decode cX10_reckon 144 = .ok (.iload_n 1, 1) := by decide +kernel
theorem dX10_reckon_145 : decode cX10_reckon 145 = .ok (.if_icmp .le 6, 3) := by decide +kernel
theorem dX10_reckon_148 : decode cX10_reckon 148 = .ok (.goto 128, 3) := by decide +kernel
theorem dX10_reckon_151 : decode cX10_reckon 151 = .ok (.aload_n 0, 1) := by decide +kernel
theorem dX10_reckon_152 : decode cX10_reckon 152 = .ok (.getfield 28, 3) := by decide +kernel
theorem dX10_reckon_155 : decode cX10_reckon 155 = .ok (.iload_n 2, 1) := by decide +kernel
theorem dX10_reckon_156 : decode cX10_reckon 156 = .ok (.iaload, 1) := by decide +kernel
theorem dX10_reckon_157 : decode cX10_reckon 157 = .ok (.istore_n 3, 1) := by decide +kernel
theorem dX10_reckon_158 : decode cX10_reckon 158 = .ok (.aload_n 0, 1) := by decide +kernel
theorem dX10_reckon_159 : decode cX10_reckon 159 = .ok (.getfield 31, 3) := by decide +kernel
theorem dX10_reckon_162 : decode cX10_reckon 162 = .ok (.iload_n 2, 1) := by decide +kernel
theorem dX10_reckon_163 : decode cX10_reckon 163 = .ok (.iaload, 1) := by decide +kernel
theorem dX10_reckon_164 : decode cX10_reckon 164 = .ok (.i2l, 1) := by decide +kernel
theorem dX10_reckon_165 : decode cX10_reckon 165 = .ok (.aload_n 0, 1) := by decide +kernel
theorem dX10_reckon_166 : decode cX10_reckon 166 = .ok (.getfield 84, 3) := by decide +kernel
theorem dX10_reckon_169 : decode cX10_reckon 169 = .ok (.iload_n 3, 1) := by decide +kernel
theorem dX10_reckon_170 : decode cX10_reckon 170 = .ok (.laload, 1) := by decide +kernel
theorem dX10_reckon_171 : decode cX10_reckon 171 = .ok (.lcmp, 1) := by decide +kernel
theorem dX10_reckon_172 : decode cX10_reckon 172 = .ok (.ifCond .ge 13, 3) := by decide +kernel
theorem dX10_reckon_175 : decode cX10_reckon 175 = .ok (.aload_n 0, 1) := by decide +kernel
theorem dX10_reckon_176 : decode cX10_reckon 176 = .ok (.getfield 31, 3) := by decide +kernel
theorem dX10_reckon_179 : decode cX10_reckon 179 = .ok (.iload_n 2, 1) := by decide +kernel
theorem dX10_reckon_180 : decode cX10_reckon 180 = .ok (.iaload, 1) := by decide +kernel
theorem dX10_reckon_181 : decode cX10_reckon 181 = .ok (.i2l, 1) := by decide +kernel
theorem dX10_reckon_182 : decode cX10_reckon 182 = .ok (.goto 9, 3) := by decide +kernel
theorem dX10_reckon_185 : decode cX10_reckon 185 = .ok (.aload_n 0, 1) := by decide +kernel
theorem dX10_reckon_186 : decode cX10_reckon 186 = .ok (.getfield 84, 3) := by decide +kernel
theorem dX10_reckon_189 : decode cX10_reckon 189 = .ok (.iload_n 3, 1) := by decide +kernel
theorem dX10_reckon_190 : decode cX10_reckon 190 = .ok (.laload, 1) := by decide +kernel
theorem dX10_reckon_191 : decode cX10_reckon 191 = .ok (.lstore 4, 2) := by decide +kernel
theorem dX10_reckon_193 : decode cX10_reckon 193 = .ok (.aload_n 0, 1) := by decide +kernel
theorem dX10_reckon_194 : decode cX10_reckon 194 = .ok (.getfield 84, 3) := by decide +kernel
theorem dX10_reckon_197 : decode cX10_reckon 197 = .ok (.iload_n 3, 1) := by decide +kernel
theorem dX10_reckon_198 : decode cX10_reckon 198 = .ok (.dup2, 1) := by decide +kernel
theorem dX10_reckon_199 : decode cX10_reckon 199 = .ok (.laload, 1) := by decide +kernel
theorem dX10_reckon_200 : decode cX10_reckon 200 = .ok (.lload 4, 2) := by decide +kernel
theorem dX10_reckon_202 : decode cX10_reckon 202 = .ok (.lsub, 1) := by decide +kernel
theorem dX10_reckon_203 : decode cX10_reckon 203 = .ok (.lastore, 1) := by decide +kernel
theorem dX10_reckon_204 : decode cX10_reckon 204 = .ok (.aload_n 0, 1) := by decide +kernel
theorem dX10_reckon_205 : decode cX10_reckon 205 = .ok (.getfield 68, 3) := by decide +kernel
theorem dX10_reckon_208 : decode cX10_reckon 208 = .ok (.iload_n 3, 1) := by decide +kernel
theorem dX10_reckon_209 : decode cX10_reckon 209 = .ok (.dup2, 1) := by decide +kernel
theorem dX10_reckon_210 : decode cX10_reckon 210 = .ok (.laload, 1) := by decide +kernel
theorem dX10_reckon_211 : decode cX10_reckon 211 = .ok (.aload_n 0, 1) := by decide +kernel
theorem dX10_reckon_212 : decode cX10_reckon 212 = .ok (.getfield 31, 3) := by decide +kernel
theorem dX10_reckon_215 : decode cX10_reckon 215 = .ok (.iload_n 2, 1) := by decide +kernel
theorem dX10_reckon_216 : decode cX10_reckon 216 = .ok (.iaload, 1) := by decide +kernel
theorem dX10_reckon_217 : decode cX10_reckon 217 = .ok (.i2l, 1) := by decide +kernel
theorem dX10_reckon_218 : decode cX10_reckon 218 = .ok (.ladd, 1) := by decide +kernel
theorem dX10_reckon_219 : decode cX10_reckon 219 = .ok (.lastore, 1) := by decide +kernel
theorem dX10_reckon_220 : decode cX10_reckon 220 = .ok (.aload_n 0, 1) := by decide +kernel
theorem dX10_reckon_221 : decode cX10_reckon 221 = .ok (.getfield 75, 3) := by decide +kernel
theorem dX10_reckon_224 : decode cX10_reckon 224 = .ok (.iload_n 3, 1) := by decide +kernel
theorem dX10_reckon_225 : decode cX10_reckon 225 = .ok (.dup2, 1) := by decide +kernel
theorem dX10_reckon_226 : decode cX10_reckon 226 = .ok (.laload, 1) := by decide +kernel
theorem dX10_reckon_227 : decode cX10_reckon 227 = .ok (.lload 4, 2) := by decide +kernel
theorem dX10_reckon_229 : decode cX10_reckon 229 = .ok (.aload_n 0, 1) := by decide +kernel
theorem dX10_reckon_230 : decode cX10_reckon 230 = .ok (.getfield 40, 3) := by decide +kernel
theorem dX10_reckon_233 : decode cX10_reckon 233 = .ok (.aload_n 0, 1) := by decide +kernel
theorem dX10_reckon_234 : decode cX10_reckon 234 = .ok (.getfield 34, 3) := by decide +kernel
theorem dX10_reckon_237 : decode cX10_reckon 237 = .ok (.iload_n 2, 1) := by decide +kernel
theorem dX10_reckon_238 : decode cX10_reckon 238 = .ok (.iaload, 1) := by decide +kernel
theorem dX10_reckon_239 : decode cX10_reckon 239 = .ok (.iaload, 1) := by decide +kernel
theorem dX10_reckon_240 : decode cX10_reckon 240 = .ok (.i2l, 1) := by decide +kernel
theorem dX10_reckon_241 : decode cX10_reckon 241 = .ok (.lmul, 1) := by decide +kernel
theorem dX10_reckon_242 : decode cX10_reckon 242 = .ok (.ladd, 1) := by decide +kernel
theorem dX10_reckon_243 : decode cX10_reckon 243 = .ok (.lastore, 1) := by decide +kernel
theorem dX10_reckon_244 : decode cX10_reckon 244 = .ok (.aload_n 0, 1) := by decide +kernel
theorem dX10_reckon_245 : decode cX10_reckon 245 = .ok (.getfield 81, 3) := by decide +kernel
theorem dX10_reckon_248 : decode cX10_reckon 248 = .ok (.iload_n 3, 1) := by decide +kernel
theorem dX10_reckon_249 : decode cX10_reckon 249 = .ok (.dup2, 1) := by decide +kernel
theorem dX10_reckon_250 : decode cX10_reckon 250 = .ok (.laload, 1) := by decide +kernel
theorem dX10_reckon_251 : decode cX10_reckon 251 = .ok (.aload_n 0, 1) := by decide +kernel
theorem dX10_reckon_252 : decode cX10_reckon 252 = .ok (.getfield 31, 3) := by decide +kernel
theorem dX10_reckon_255 : decode cX10_reckon 255 = .ok (.iload_n 2, 1) := by decide +kernel
theorem dX10_reckon_256 : decode cX10_reckon 256 = .ok (.iaload, 1) := by decide +kernel
theorem dX10_reckon_257 : decode cX10_reckon 257 = .ok (.i2l, 1) := by decide +kernel
theorem dX10_reckon_258 : decode cX10_reckon 258 = .ok (.lload 4, 2) := by decide +kernel
theorem dX10_reckon_260 : decode cX10_reckon 260 = .ok (.lsub, 1) := by decide +kernel
theorem dX10_reckon_261 : decode cX10_reckon 261 = .ok (.aload_n 0, 1) := by decide +kernel
theorem dX10_reckon_262 : decode cX10_reckon 262 = .ok (.getfield 40, 3) := by decide +kernel
theorem dX10_reckon_265 : decode cX10_reckon 265 = .ok (.aload_n 0, 1) := by decide +kernel
theorem dX10_reckon_266 : decode cX10_reckon 266 = .ok (.getfield 34, 3) := by decide +kernel
theorem dX10_reckon_269 : decode cX10_reckon 269 = .ok (.iload_n 2, 1) := by decide +kernel
theorem dX10_reckon_270 : decode cX10_reckon 270 = .ok (.iaload, 1) := by decide +kernel
theorem dX10_reckon_271 : decode cX10_reckon 271 = .ok (.iaload, 1) := by decide +kernel
theorem dX10_reckon_272 : decode cX10_reckon 272 = .ok (.i2l, 1) := by decide +kernel
theorem dX10_reckon_273 : decode cX10_reckon 273 = .ok (.lmul, 1) := by decide +kernel
theorem dX10_reckon_274 : decode cX10_reckon 274 = .ok (.ladd, 1) := by decide +kernel
theorem dX10_reckon_275 : decode cX10_reckon 275 = .ok (.lastore, 1) := by decide +kernel
theorem dX10_reckon_276 : decode cX10_reckon 276 = .ok (.iinc 2 1, 3) := by decide +kernel
theorem dX10_reckon_279 : decode cX10_reckon 279 = .ok (.goto (-149), 3) := by decide +kernel
theorem dX10_reckon_282 : decode cX10_reckon 282 = .ok (.iconst 0, 1) := by decide +kernel
theorem dX10_reckon_283 : decode cX10_reckon 283 = .ok (.istore_n 2, 1) := by decide +kernel
theorem dX10_reckon_284 : decode cX10_reckon 284 = .ok (.iload_n 2, 1) := by decide +kernel
theorem dX10_reckon_285 : decode cX10_reckon 285 = .ok (.aload_n 0, 1) := by decide +kernel
theorem dX10_reckon_286 : decode cX10_reckon 286 = .ok (.getfield 129, 3) := by decide +kernel
theorem dX10_reckon_289 : decode cX10_reckon 289 = .ok (.if_icmp .ge 118, 3) := by decide +kernel
theorem dX10_reckon_292 : decode cX10_reckon 292 = .ok (.aload_n 0, 1) := by decide +kernel
theorem dX10_reckon_293 : decode cX10_reckon 293 = .ok (.getfield 75, 3) := by decide +kernel
theorem dX10_reckon_296 : decode cX10_reckon 296 = .ok (.iload_n 2, 1) := by decide +kernel
theorem dX10_reckon_297 : decode cX10_reckon 297 = .ok (.dup2, 1) := by decide +kernel
theorem dX10_reckon_298 : decode cX10_reckon 298 = .ok (.laload, 1) := by decide +kernel
theorem dX10_reckon_299 : decode cX10_reckon 299 = .ok (.aload_n 0, 1) := by decide +kernel
theorem dX10_reckon_300 : decode cX10_reckon 300 = .ok (.aload_n 0, 1) := by decide +kernel
theorem dX10_reckon_301 : decode cX10_reckon 301 = .ok (.getfield 81, 3) := by decide +kernel
theorem dX10_reckon_304 : decode cX10_reckon 304 = .ok (.iload_n 2, 1) := by decide +kernel
theorem dX10_reckon_305 : decode cX10_reckon 305 = .ok (.laload, 1) := by decide +kernel
theorem dX10_reckon_306 : decode cX10_reckon 306 = .ok (.iconst 0, 1) := by decide +kernel
theorem dX10_reckon_307 : decode cX10_reckon 307 = .ok (.invokevirtual 236, 3) := by decide +kernel
theorem dX10_reckon_310 : decode cX10_reckon 310 = .ok (.ladd, 1) := by decide +kernel
theorem dX10_reckon_311 : decode cX10_reckon 311 = .ok (.lastore, 1) := by decide +kernel
theorem dX10_reckon_312 : decode cX10_reckon 312 = .ok (.aload_n 0, 1) := by decide +kernel
theorem dX10_reckon_313 : decode cX10_reckon 313 = .ok (.aload_n 0, 1) := by decide +kernel
theorem dX10_reckon_314 : decode cX10_reckon 314 = .ok (.getfield 75, 3) := by decide +kernel
theorem dX10_reckon_317 : decode cX10_reckon 317 = .ok (.iload_n 2, 1) := by decide +kernel
theorem dX10_reckon_318 : decode cX10_reckon 318 = .ok (.laload, 1) := by decide +kernel
theorem dX10_reckon_319 : decode cX10_reckon 319 = .ok (.iconst 1, 1) := by decide +kernel
theorem dX10_reckon_320 : decode cX10_reckon 320 = .ok (.invokevirtual 236, 3) := by decide +kernel
theorem dX10_reckon_323 : decode cX10_reckon 323 = .ok (.lstore_n 3, 1) := by decide +kernel
theorem dX10_reckon_324 : decode cX10_reckon 324 = .ok (.aload_n 0, 1) := by decide +kernel
theorem dX10_reckon_325 : decode cX10_reckon 325 = .ok (.getfield 78, 3) := by decide +kernel
theorem dX10_reckon_328 : decode cX10_reckon 328 = .ok (.iload_n 2, 1) := by decide +kernel
theorem dX10_reckon_329 : decode cX10_reckon 329 = .ok (.lload_n 3, 1) := by decide +kernel
theorem dX10_reckon_330 : decode cX10_reckon 330 = .ok (.aload_n 0, 1) := by decide +kernel
theorem dX10_reckon_331 : decode cX10_reckon 331 = .ok (.getfield 72, 3) := by decide +kernel
theorem dX10_reckon_334 : decode cX10_reckon 334 = .ok (.iload_n 2, 1) := by decide +kernel
theorem dX10_reckon_335 : decode cX10_reckon 335 = .ok (.laload, 1) := by decide +kernel
theorem dX10_reckon_336 : decode cX10_reckon 336 = .ok (.lcmp, 1) := by decide +kernel
theorem dX10_reckon_337 : decode cX10_reckon 337 = .ok (.ifCond .ge 7, 3) := by decide +kernel
theorem dX10_reckon_340 : decode cX10_reckon 340 = .ok (.lload_n 3, 1) := by decide +kernel
theorem dX10_reckon_341 : decode cX10_reckon 341 = .ok (.goto 9, 3) := by decide +kernel
theorem dX10_reckon_344 : decode cX10_reckon 344 = .ok (.aload_n 0, 1) := by decide +kernel
theorem dX10_reckon_345 : decode cX10_reckon 345 = .ok (.getfield 72, 3) := by decide +kernel
theorem dX10_reckon_348 : decode cX10_reckon 348 = .ok (.iload_n 2, 1) := by decide +kernel
theorem dX10_reckon_349 : decode cX10_reckon 349 = .ok (.laload, 1) := by decide +kernel
theorem dX10_reckon_350 : decode cX10_reckon 350 = .ok (.lastore, 1) := by decide +kernel
theorem dX10_reckon_351 : decode cX10_reckon 351 = .ok (.aload_n 0, 1) := by decide +kernel
theorem dX10_reckon_352 : decode cX10_reckon 352 = .ok (.getfield 87, 3) := by decide +kernel
theorem dX10_reckon_355 : decode cX10_reckon 355 = .ok (.iload_n 2, 1) := by decide +kernel
theorem dX10_reckon_356 : decode cX10_reckon 356 = .ok (.aload_n 0, 1) := by decide +kernel
theorem dX10_reckon_357 : decode cX10_reckon 357 = .ok (.aload_n 0, 1) := by decide +kernel
theorem dX10_reckon_358 : decode cX10_reckon 358 = .ok (.getfield 75, 3) := by decide +kernel
theorem dX10_reckon_361 : decode cX10_reckon 361 = .ok (.iload_n 2, 1) := by decide +kernel
theorem dX10_reckon_362 : decode cX10_reckon 362 = .ok (.laload, 1) := by decide +kernel
theorem dX10_reckon_363 : decode cX10_reckon 363 = .ok (.aload_n 0, 1) := by decide +kernel
theorem dX10_reckon_364 : decode cX10_reckon 364 = .ok (.getfield 78, 3) := by decide +kernel
theorem dX10_reckon_367 : decode cX10_reckon 367 = .ok (.iload_n 2, 1) := by decide +kernel
theorem dX10_reckon_368 : decode cX10_reckon 368 = .ok (.laload, 1) := by decide +kernel
theorem dX10_reckon_369 : decode cX10_reckon 369 = .ok (.lsub, 1) := by decide +kernel
theorem dX10_reckon_370 : decode cX10_reckon 370 = .ok (.iconst 2, 1) := by decide +kernel
theorem dX10_reckon_371 : decode cX10_reckon 371 = .ok (.invokevirtual 236, 3) := by decide +kernel
theorem dX10_reckon_374 : decode cX10_reckon 374 = .ok (.lastore, 1) := by decide +kernel
theorem dX10_reckon_375 : decode cX10_reckon 375 = .ok (.aload_n 0, 1) := by decide +kernel
theorem dX10_reckon_376 : decode cX10_reckon 376 = .ok (.getfield 90, 3) := by decide +kernel
theorem dX10_reckon_379 : decode cX10_reckon 379 = .ok (.iload_n 2, 1) := by decide +kernel
theorem dX10_reckon_380 : decode cX10_reckon 380 = .ok (.lconst 0, 1) := by decide +kernel
theorem dX10_reckon_381 : decode cX10_reckon 381 = .ok (.lastore, 1) := by decide +kernel
theorem dX10_reckon_382 : decode cX10_reckon 382 = .ok (.aload_n 0, 1) := by decide +kernel
theorem dX10_reckon_383 : decode cX10_reckon 383 = .ok (.getfield 93, 3) := by decide +kernel
theorem dX10_reckon_386 : decode cX10_reckon 386 = .ok (.iload_n 2, 1) := by decide +kernel
theorem dX10_reckon_387 : decode cX10_reckon 387 = .ok (.aload_n 0, 1) := by decide +kernel
theorem dX10_reckon_388 : decode cX10_reckon 388 = .ok (.getfield 72, 3) := by decide +kernel
theorem dX10_reckon_391 : decode cX10_reckon 391 = .ok (.iload_n 2, 1) := by decide +kernel
theorem dX10_reckon_392 : decode cX10_reckon 392 = .ok (.laload, 1) := by decide +kernel
theorem dX10_reckon_393 : decode cX10_reckon 393 = .ok (.aload_n 0, 1) := by decide +kernel
theorem dX10_reckon_394 : decode cX10_reckon 394 = .ok (.getfield 78, 3) := by decide +kernel
theorem dX10_reckon_397 : decode cX10_reckon 397 = .ok (.iload_n 2, 1) := by decide +kernel
theorem dX10_reckon_398 : decode cX10_reckon 398 = .ok (.laload, 1) := by decide +kernel
theorem dX10_reckon_399 : decode cX10_reckon 399 = .ok (.lsub, 1) := by decide +kernel
theorem dX10_reckon_400 : decode cX10_reckon 400 = .ok (.lastore, 1) := by decide +kernel
theorem dX10_reckon_401 : decode cX10_reckon 401 = .ok (.iinc 2 1, 3) := by decide +kernel
theorem dX10_reckon_404 : decode cX10_reckon 404 = .ok (.goto (-120), 3) := by decide +kernel
theorem dX10_reckon_407 : decode cX10_reckon 407 = .ok (.iconst 0, 1) := by decide +kernel
theorem dX10_reckon_408 : decode cX10_reckon 408 = .ok (.istore_n 2, 1) := by decide +kernel
theorem dX10_reckon_409 : decode cX10_reckon 409 = .ok (.iload_n 2, 1) := by decide +kernel
theorem dX10_reckon_410 : decode cX10_reckon 410 = .ok (.bipush 10, 2) := by decide +kernel
theorem dX10_reckon_412 : decode cX10_reckon 412 = .ok (.if_icmp .ge 14, 3) := by decide +kernel
theorem dX10_reckon_415 : decode cX10_reckon 415 = .ok (.aload_n 0, 1) := by decide +kernel
theorem dX10_reckon_416 : decode cX10_reckon 416 = .ok (.iload_n 2, 1) := by decide +kernel
theorem dX10_reckon_417 : decode cX10_reckon 417 = .ok (.invokevirtual 240, 3) := by decide +kernel
theorem dX10_reckon_420 : decode cX10_reckon 420 = .ok (.iinc 2 1, 3) := by decide +kernel
theorem dX10_reckon_423 : decode cX10_reckon 423 = .ok (.goto (-14), 3) := by decide +kernel
theorem dX10_reckon_426 : decode cX10_reckon 426 = .ok (.return_, 1) := by decide +kernel
theorem dX10_givenAt_0 : decode cX10_givenAt 0 = .ok (.lconst 0, 1) := by decide +kernel
theorem dX10_givenAt_1 : decode cX10_givenAt 1 = .ok (.lstore 4, 2) := by decide +kernel
theorem dX10_givenAt_3 : decode cX10_givenAt 3 = .ok (.iconst 0, 1) := by decide +kernel
theorem dX10_givenAt_4 : decode cX10_givenAt 4 = .ok (.istore 6, 2) := by decide +kernel
theorem dX10_givenAt_6 : decode cX10_givenAt 6 = .ok (.iload 6, 2) := by decide +kernel
theorem dX10_givenAt_8 : decode cX10_givenAt 8 = .ok (.aload_n 0, 1) := by decide +kernel
theorem dX10_givenAt_9 : decode cX10_givenAt 9 = .ok (.getfield 129, 3) := by decide +kernel
theorem dX10_givenAt_12 : decode cX10_givenAt 12 = .ok (.if_icmp .ge 52, 3) := by decide +kernel
theorem dX10_givenAt_15 : decode cX10_givenAt 15 = .ok (.lload 4, 2) := by decide +kernel
theorem dX10_givenAt_17 : decode cX10_givenAt 17 = .ok (.aload_n 0, 1) := by decide +kernel
theorem dX10_givenAt_18 : decode cX10_givenAt 18 = .ok (.getfield 7, 3) := by decide +kernel
theorem dX10_givenAt_21 : decode cX10_givenAt 21 = .ok (.iload 6, 2) := by decide +kernel
theorem dX10_givenAt_23 : decode cX10_givenAt 23 = .ok (.iaload, 1) := by decide +kernel
theorem dX10_givenAt_24 : decode cX10_givenAt 24 = .ok (.iload_n 1, 1) := by decide +kernel
theorem dX10_givenAt_25 : decode cX10_givenAt 25 = .ok (.if_icmp .eq 7, 3) := by decide +kernel
theorem dX10_givenAt_28 : decode cX10_givenAt 28 = .ok (.lconst 0, 1) := by decide +kernel
theorem dX10_givenAt_29 : decode cX10_givenAt 29 = .ok (.goto 26, 3) := by decide +kernel
