theorem dX0_add_0 : decode cX0_add 0 = .ok (.aload_n 0, 1) := by decide +kernel
theorem dX0_add_1 : decode cX0_add 1 = .ok (.getfield 24, 3) := by decide +kernel
theorem dX0_add_4 : decode cX0_add 4 = .ok (.sipush 300, 3) := by decide +kernel
theorem dX0_add_7 : decode cX0_add 7 = .ok (.if_icmp .lt 4, 3) := by decide +kernel
theorem dX0_add_10 : decode cX0_add 10 = .ok (.return_, 1) := by decide +kernel
theorem dX0_add_11 : decode cX0_add 11 = .ok (.aload_n 0, 1) := by decide +kernel
theorem dX0_add_12 : decode cX0_add 12 = .ok (.getfield 9, 3) := by decide +kernel
theorem dX0_add_15 : decode cX0_add 15 = .ok (.aload_n 0, 1) := by decide +kernel
theorem dX0_add_16 : decode cX0_add 16 = .ok (.getfield 24, 3) := by decide +kernel
theorem dX0_add_19 : decode cX0_add 19 = .ok (.iload_n 1, 1) := by decide +kernel
theorem dX0_add_20 : decode cX0_add 20 = .ok (.iastore, 1) := by decide +kernel
theorem dX0_add_21 : decode cX0_add 21 = .ok (.aload_n 0, 1) := by decide +kernel
theorem dX0_add_22 : decode cX0_add 22 = .ok (.getfield 15, 3) := by decide +kernel
theorem dX0_add_25 : decode cX0_add 25 = .ok (.aload_n 0, 1) := by decide +kernel
theorem dX0_add_26 : decode cX0_add 26 = .ok (.getfield 24, 3) := by decide +kernel
theorem dX0_add_29 : decode cX0_add 29 = .ok (.iload_n 2, 1) := by decide +kernel
theorem dX0_add_30 : decode cX0_add 30 = .ok (.iastore, 1) := by decide +kernel
theorem dX0_add_31 : decode cX0_add 31 = .ok (.aload_n 0, 1) := by decide +kernel
theorem dX0_add_32 : decode cX0_add 32 = .ok (.getfield 18, 3) := by decide +kernel
theorem dX0_add_35 : decode cX0_add 35 = .ok (.aload_n 0, 1) := by decide +kernel
theorem dX0_add_36 : decode cX0_add 36 = .ok (.getfield 24, 3) := by decide +kernel
theorem dX0_add_39 : decode cX0_add 39 = .ok (.iload_n 3, 1) := by decide +kernel
theorem dX0_add_40 : decode cX0_add 40 = .ok (.iastore, 1) := by decide +kernel
theorem dX0_add_41 : decode cX0_add 41 = .ok (.aload_n 0, 1) := by decide +kernel
theorem dX0_add_42 : decode cX0_add 42 = .ok (.getfield 21, 3) := by decide +kernel
theorem dX0_add_45 : decode cX0_add 45 = .ok (.aload_n 0, 1) := by decide +kernel
theorem dX0_add_46 : decode cX0_add 46 = .ok (.getfield 24, 3) := by decide +kernel
theorem dX0_add_49 : decode cX0_add 49 = .ok (.iload 4, 2) := by decide +kernel
theorem dX0_add_51 : decode cX0_add 51 = .ok (.iastore, 1) := by decide +kernel
theorem dX0_add_52 : decode cX0_add 52 = .ok (.aload_n 0, 1) := by decide +kernel
theorem dX0_add_53 : decode cX0_add 53 = .ok (.dup, 1) := by decide +kernel
theorem dX0_add_54 : decode cX0_add 54 = .ok (.getfield 24, 3) := by decide +kernel
theorem dX0_add_57 : decode cX0_add 57 = .ok (.iconst 1, 1) := by decide +kernel
theorem dX0_add_58 : decode cX0_add 58 = .ok (.iadd, 1) := by decide +kernel
theorem dX0_add_59 : decode cX0_add 59 = .ok (.putfield 24, 3) := by decide +kernel
theorem dX0_add_62 : decode cX0_add 62 = .ok (.aload_n 0, 1) := by decide +kernel
theorem dX0_add_63 : decode cX0_add 63 = .ok (.dup, 1) := by decide +kernel
theorem dX0_add_64 : decode cX0_add 64 = .ok (.getfield 28, 3) := by decide +kernel
theorem dX0_add_67 : decode cX0_add 67 = .ok (.iload_n 2, 1) := by decide +kernel
theorem dX0_add_68 : decode cX0_add 68 = .ok (.iadd, 1) := by decide +kernel
theorem dX0_add_69 : decode cX0_add 69 = .ok (.putfield 28, 3) := by decide +kernel
theorem dX0_add_72 : decode cX0_add 72 = .ok (.return_, 1) := by decide +kernel
theorem dX0_ownerOf_0 : decode cX0_ownerOf 0 = .ok (.iload_n 1, 1) := by decide +kernel
theorem dX0_ownerOf_1 : decode cX0_ownerOf 1 = .ok (.istore_n 3, 1) := by decide +kernel
theorem dX0_ownerOf_2 : decode cX0_ownerOf 2 = .ok (.iconst 0, 1) := by decide +kernel
theorem dX0_ownerOf_3 : decode cX0_ownerOf 3 = .ok (.istore 4, 2) := by decide +kernel
theorem dX0_ownerOf_5 : decode cX0_ownerOf 5 = .ok (.iload 4, 2) := by decide +kernel
theorem dX0_ownerOf_7 : decode cX0_ownerOf 7 = .ok (.aload_n 0, 1) := by decide +kernel
theorem dX0_ownerOf_8 : decode cX0_ownerOf 8 = .ok (.getfield 24, 3) := by decide +kernel
theorem dX0_ownerOf_11 : decode cX0_ownerOf 11 = .ok (.if_icmp .ge 52, 3) := by decide +kernel
theorem dX0_ownerOf_14 : decode cX0_ownerOf 14 = .ok (.aload_n 0, 1) := by decide +kernel
theorem dX0_ownerOf_15 : decode cX0_ownerOf 15 = .ok (.getfield 21, 3) := by decide +kernel
theorem dX0_ownerOf_18 : decode cX0_ownerOf 18 = .ok (.iload 4, 2) := by decide +kernel
theorem dX0_ownerOf_20 : decode cX0_ownerOf 20 = .ok (.iaload, 1) := by decide +kernel
theorem dX0_ownerOf_21 : decode cX0_ownerOf 21 = .ok (.iload_n 2, 1) := by decide +kernel
theorem dX0_ownerOf_22 : decode cX0_ownerOf 22 = .ok (.if_icmp .le 6, 3) := by decide +kernel
theorem dX0_ownerOf_25 : decode cX0_ownerOf 25 = .ok (.goto 32, 3) := by decide +kernel
theorem dX0_ownerOf_28 : decode cX0_ownerOf 28 = .ok (.iload_n 3, 1) := by decide +kernel
theorem dX0_ownerOf_29 : decode cX0_ownerOf 29 = .ok (.aload_n 0, 1) := by decide +kernel
theorem dX0_ownerOf_30 : decode cX0_ownerOf 30 = .ok (.getfield 15, 3) := by decide +kernel
theorem dX0_ownerOf_33 : decode cX0_ownerOf 33 = .ok (.iload 4, 2) := by decide +kernel
theorem dX0_ownerOf_35 : decode cX0_ownerOf 35 = .ok (.iaload, 1) := by decide +kernel
theorem dX0_ownerOf_36 : decode cX0_ownerOf 36 = .ok (.if_icmp .ge 11, 3) := by decide +kernel
theorem dX0_ownerOf_39 : decode cX0_ownerOf 39 = .ok (.aload_n 0, 1) := by decide +kernel
theorem dX0_ownerOf_40 : decode cX0_ownerOf 40 = .ok (.getfield 9, 3) := by decide +kernel
theorem dX0_ownerOf_43 : decode cX0_ownerOf 43 = .ok (.iload 4, 2) := by decide +kernel
theorem dX0_ownerOf_45 : decode cX0_ownerOf 45 = .ok (.iaload, 1) := by decide +kernel
theorem dX0_ownerOf_46 : decode cX0_ownerOf 46 = .ok (.ireturn, 1) := by decide +kernel
theorem dX0_ownerOf_47 : decode cX0_ownerOf 47 = .ok (.iload_n 3, 1) := by decide +kernel
theorem dX0_ownerOf_48 : decode cX0_ownerOf 48 = .ok (.aload_n 0, 1) := by decide +kernel
theorem dX0_ownerOf_49 : decode cX0_ownerOf 49 = .ok (.getfield 15, 3) := by decide +kernel
theorem dX0_ownerOf_52 : decode cX0_ownerOf 52 = .ok (.iload 4, 2) := by decide +kernel
theorem dX0_ownerOf_54 : decode cX0_ownerOf 54 = .ok (.iaload, 1) := by decide +kernel
theorem dX0_ownerOf_55 : decode cX0_ownerOf 55 = .ok (.isub, 1) := by decide +kernel
theorem dX0_ownerOf_56 : decode cX0_ownerOf 56 = .ok (.istore_n 3, 1) := by decide +kernel
theorem dX0_ownerOf_57 : decode cX0_ownerOf 57 = .ok (.iinc 4 1, 3) := by decide +kernel
theorem dX0_ownerOf_60 : decode cX0_ownerOf 60 = .ok (.goto (-55), 3) := by decide +kernel
theorem dX0_ownerOf_63 : decode cX0_ownerOf 63 = .ok (.iconst (-1), 1) := by decide +kernel
theorem dX0_ownerOf_64 : decode cX0_ownerOf 64 = .ok (.ireturn, 1) := by decide +kernel
theorem dX1_draw_0 : decode cX1_draw 0 = .ok (.aload_n 0, 1) := by decide +kernel
theorem dX1_draw_1 : decode cX1_draw 1 = .ok (.getfield 9, 3) := by decide +kernel
theorem dX1_draw_4 : decode cX1_draw 4 = .ok (.lconst 0, 1) := by decide +kernel
theorem dX1_draw_5 : decode cX1_draw 5 = .ok (.invokestatic 36, 3) := by decide +kernel
theorem dX1_draw_8 : decode cX1_draw 8 = .ok (.aload_n 0, 1) := by decide +kernel
theorem dX1_draw_9 : decode cX1_draw 9 = .ok (.getfield 15, 3) := by decide +kernel
theorem dX1_draw_12 : decode cX1_draw 12 = .ok (.lconst 0, 1) := by decide +kernel
theorem dX1_draw_13 : decode cX1_draw 13 = .ok (.invokestatic 36, 3) := by decide +kernel
theorem dX1_draw_16 : decode cX1_draw 16 = .ok (.aload_n 0, 1) := by decide +kernel
theorem dX1_draw_17 : decode cX1_draw 17 = .ok (.getfield 18, 3) := by decide +kernel
theorem dX1_draw_20 : decode cX1_draw 20 = .ok (.lconst 0, 1) := by decide +kernel
theorem dX1_draw_21 : decode cX1_draw 21 = .ok (.invokestatic 36, 3) := by decide +kernel
theorem dX1_draw_24 : decode cX1_draw 24 = .ok (.aload_n 0, 1) := by decide +kernel
theorem dX1_draw_25 : decode cX1_draw 25 = .ok (.getfield 21, 3) := by decide +kernel
theorem dX1_draw_28 : decode cX1_draw 28 = .ok (.lconst 0, 1) := by decide +kernel
theorem dX1_draw_29 : decode cX1_draw 29 = .ok (.invokestatic 36, 3) := by decide +kernel
theorem dX1_draw_32 : decode cX1_draw 32 = .ok (.aload_n 0, 1) := by decide +kernel
theorem dX1_draw_33 : decode cX1_draw 33 = .ok (.aload_n 2, 1) := by decide +kernel
theorem dX1_draw_34 : decode cX1_draw 34 = .ok (.iload 5, 2) := by decide +kernel
theorem dX1_draw_36 : decode cX1_draw 36 = .ok (.invokevirtual 42, 3) := by decide +kernel
theorem dX1_draw_39 : decode cX1_draw 39 = .ok (.aload_n 0, 1) := by decide +kernel
theorem dX1_draw_40 : decode cX1_draw 40 = .ok (.aload_n 1, 1) := by decide +kernel
theorem dX1_draw_41 : decode cX1_draw 41 = .ok (.aload_n 3, 1) := by decide +kernel
theorem dX1_draw_42 : decode cX1_draw 42 = .ok (.aload 4, 2) := by decide +kernel
theorem dX1_draw_44 : decode cX1_draw 44 = .ok (.iload 5, 2) := by decide +kernel
theorem dX1_draw_46 : decode cX1_draw 46 = .ok (.invokevirtual 46, 3) := by decide +kernel
theorem dX1_draw_49 : decode cX1_draw 49 = .ok (.iconst 0, 1) := by decide +kernel
theorem dX1_draw_50 : decode cX1_draw 50 = .ok (.istore 6, 2) := by decide +kernel
theorem dX1_draw_52 : decode cX1_draw 52 = .ok (.iload 6, 2) := by decide +kernel
theorem dX1_draw_54 : decode cX1_draw 54 = .ok (.aload_n 1, 1) := by decide +kernel
theorem dX1_draw_55 : decode cX1_draw 55 = .ok (.getfield 50, 3) := by decide +kernel
theorem dX1_draw_58 : decode cX1_draw 58 = .ok (.if_icmp .ge 62, 3) := by decide +kernel
theorem dX1_draw_61 : decode cX1_draw 61 = .ok (.aload_n 0, 1) := by decide +kernel
theorem dX1_draw_62 : decode cX1_draw 62 = .ok (.getfield 18, 3) := by decide +kernel
theorem dX1_draw_65 : decode cX1_draw 65 = .ok (.iload 6, 2) := by decide +kernel
theorem dX1_draw_67 : decode cX1_draw 67 = .ok (.dup2, 1) := by decide +kernel
theorem dX1_draw_68 : decode cX1_draw 68 = .ok (.laload, 1) := by decide +kernel
theorem dX1_draw_69 : decode cX1_draw 69 = .ok (.aload 4, 2) := by decide +kernel
theorem dX1_draw_71 : decode cX1_draw 71 = .ok (.iconst 0, 1) := by decide +kernel
theorem dX1_draw_72 : decode cX1_draw 72 = .ok (.aload_n 0, 1) := by decide +kernel
theorem dX1_draw_73 : decode cX1_draw 73 = .ok (.getfield 21, 3) := by decide +kernel
theorem dX1_draw_76 : decode cX1_draw 76 = .ok (.iload 6, 2) := by decide +kernel
theorem dX1_draw_78 : decode cX1_draw 78 = .ok (.laload, 1) := by decide +kernel
theorem dX1_draw_79 : decode cX1_draw 79 = .ok (.invokevirtual 58, 3) := by decide +kernel
theorem dX1_draw_82 : decode cX1_draw 82 = .ok (.ladd, 1) := by decide +kernel
theorem dX1_draw_83 : decode cX1_draw 83 = .ok (.lastore, 1) := by decide +kernel
theorem dX1_draw_84 : decode cX1_draw 84 = .ok (.aload_n 0, 1) := by decide +kernel
theorem dX1_draw_85 : decode cX1_draw 85 = .ok (.getfield 24, 3) := by decide +kernel
theorem dX1_draw_88 : decode cX1_draw 88 = .ok (.iload 6, 2) := by decide +kernel
theorem dX1_draw_90 : decode cX1_draw 90 = .ok (.aload 4, 2) := by decide +kernel
theorem dX1_draw_92 : decode cX1_draw 92 = .ok (.iconst 1, 1) := by decide +kernel
theorem dX1_draw_93 : decode cX1_draw 93 = .ok (.aload_n 0, 1) := by decide +kernel
theorem dX1_draw_94 : decode cX1_draw 94 = .ok (.getfield 18, 3) := by decide +kernel
theorem dX1_draw_97 : decode cX1_draw 97 = .ok (.iload 6, 2) := by decide +kernel
theorem dX1_draw_99 : decode cX1_draw 99 = .ok (.laload, 1) := by decide +kernel
theorem dX1_draw_100 : decode cX1_draw 100 = .ok (.invokevirtual 58, 3) := by decide +kernel
theorem dX1_draw_103 : decode cX1_draw 103 = .ok (.aload_n 0, 1) := by decide +kernel
theorem dX1_draw_104 : decode cX1_draw 104 = .ok (.getfield 15, 3) := by decide +kernel
theorem dX1_draw_107 : decode cX1_draw 107 = .ok (.iload 6, 2) := by decide +kernel
theorem dX1_draw_109 : decode cX1_draw 109 = .ok (.laload, 1) := by decide +kernel
theorem dX1_draw_110 : decode cX1_draw 110 = .ok (.invokestatic 62, 3) := by decide +kernel
theorem dX1_draw_113 : decode cX1_draw 113 = .ok (.lastore, 1) := by decide +kernel
theorem dX1_draw_114 : decode cX1_draw 114 = .ok (.iinc 6 1, 3) := by decide +kernel
theorem dX1_draw_117 : decode cX1_draw 117 = .ok (.goto (-65), 3) := by decide +kernel
theorem dX1_draw_120 : decode cX1_draw 120 = .ok (.return_, 1) := by decide +kernel
theorem dX1_addCredits_0 : decode cX1_addCredits 0 = .ok (.iconst 0, 1) := by decide +kernel
theorem dX1_addCredits_1 : decode cX1_addCredits 1 = .ok (.istore_n 3, 1) := by decide +kernel
theorem dX1_addCredits_2 : decode cX1_addCredits 2 = .ok (.iload_n 3, 1) := by decide +kernel
theorem dX1_addCredits_3 : decode cX1_addCredits 3 = .ok (.aload_n 1, 1) := by decide +kernel
theorem dX1_addCredits_4 : decode cX1_addCredits 4 = .ok (.getfield 68, 3) := by decide +kernel
theorem dX1_addCredits_7 : decode cX1_addCredits 7 = .ok (.if_icmp .ge 40, 3) := by decide +kernel
theorem dX1_addCredits_10 : decode cX1_addCredits 10 = .ok (.aload_n 1, 1) := by decide +kernel
theorem dX1_addCredits_11 : decode cX1_addCredits 11 = .ok (.getfield 71, 3) := by decide +kernel
theorem dX1_addCredits_14 : decode cX1_addCredits 14 = .ok (.iload_n 3, 1) := by decide +kernel
theorem dX1_addCredits_15 : decode cX1_addCredits 15 = .ok (.iaload, 1) := by decide +kernel
theorem dX1_addCredits_16 : decode cX1_addCredits 16 = .ok (.iload_n 2, 1) := by decide +kernel
theorem dX1_addCredits_17 : decode cX1_addCredits 17 = .ok (.if_icmp .gt 24, 3) := by decide +kernel
theorem dX1_addCredits_20 : decode cX1_addCredits 20 = .ok (.aload_n 0, 1) := by decide +kernel
theorem dX1_addCredits_21 : decode cX1_addCredits 21 = .ok (.getfield 15, 3) := by decide +kernel
theorem dX1_addCredits_24 : decode cX1_addCredits 24 = .ok (.aload_n 1, 1) := by decide +kernel
theorem dX1_addCredits_25 : decode cX1_addCredits 25 = .ok (.getfield 75, 3) := by decide +kernel
theorem dX1_addCredits_28 : decode cX1_addCredits 28 = .ok (.iload_n 3, 1) := by decide +kernel
theorem dX1_addCredits_29 : decode cX1_addCredits 29 = .ok (.iaload, 1) := by decide +kernel
theorem dX1_addCredits_30 : decode cX1_addCredits 30 = .ok (.dup2, 1) := by decide +kernel
theorem dX1_addCredits_31 : decode cX1_addCredits 31 = .ok (.laload, 1) := by decide +kernel
theorem dX1_addCredits_32 : decode cX1_addCredits 32 = .ok (.aload_n 1, 1) := by decide +kernel
theorem dX1_addCredits_33 : decode cX1_addCredits 33 = .ok (.getfield 78, 3) := by decide +kernel
theorem dX1_addCredits_36 : decode cX1_addCredits 36 = .ok (.iload_n 3, 1) := by decide +kernel
theorem dX1_addCredits_37 : decode cX1_addCredits 37 = .ok (.iaload, 1) := by decide +kernel
theorem dX1_addCredits_38 : decode cX1_addCredits 38 = .ok (.i2l, 1) := by decide +kernel
theorem dX1_addCredits_39 : decode cX1_addCredits 39 = .ok (.ladd, 1) := by decide +kernel
theorem dX1_addCredits_40 : decode cX1_addCredits 40 = .ok (.lastore, 1) := by decide +kernel
theorem dX1_addCredits_41 : decode cX1_addCredits 41 = .ok (.iinc 3 1, 3) := by decide +kernel
theorem dX1_addCredits_44 : decode cX1_addCredits 44 = .ok (.goto (-42), 3) := by decide +kernel
theorem dX1_addCredits_47 : decode cX1_addCredits 47 = .ok (.return_, 1) := by decide +kernel
theorem dX1_addBaskets_0 : decode cX1_addBaskets 0 = .ok (.iconst 0, 1) := by decide +kernel
theorem dX1_addBaskets_1 : decode cX1_addBaskets 1 = .ok (.istore 5, 2) := by decide +kernel
theorem dX1_addBaskets_3 : decode cX1_addBaskets 3 = .ok (.iload 5, 2) := by decide +kernel
theorem dX1_addBaskets_5 : decode cX1_addBaskets 5 = .ok (.aload_n 2, 1) := by decide +kernel
theorem dX1_addBaskets_6 : decode cX1_addBaskets 6 = .ok (.getfield 81, 3) := by decide +kernel
theorem dX1_addBaskets_9 : decode cX1_addBaskets 9 = .ok (.if_icmp .ge 152, 3) := by decide +kernel
theorem dX1_addBaskets_12 : decode cX1_addBaskets 12 = .ok (.aload_n 2, 1) := by decide +kernel
theorem dX1_addBaskets_13 : decode cX1_addBaskets 13 = .ok (.getfield 84, 3) := by decide +kernel
theorem dX1_addBaskets_16 : decode cX1_addBaskets 16 = .ok (.iload 5, 2) := by decide +kernel
theorem dX1_addBaskets_18 : decode cX1_addBaskets 18 = .ok (.iaload, 1) := by decide +kernel
theorem dX1_addBaskets_19 : decode cX1_addBaskets 19 = .ok (.iload 4, 2) := by decide +kernel
theorem dX1_addBaskets_21 : decode cX1_addBaskets 21 = .ok (.if_icmp .le 6, 3) := by decide +kernel
theorem dX1_addBaskets_24 : decode cX1_addBaskets 24 = .ok (.goto 131, 3) := by decide +kernel
theorem dX1_addBaskets_27 : decode cX1_addBaskets 27 = .ok (.aload_n 2, 1) := by decide +kernel
theorem dX1_addBaskets_28 : decode cX1_addBaskets 28 = .ok (.getfield 85, 3) := by decide +kernel
theorem dX1_addBaskets_31 : decode cX1_addBaskets 31 = .ok (.iload 5, 2) := by decide +kernel
theorem dX1_addBaskets_33 : decode cX1_addBaskets 33 = .ok (.iaload, 1) := by decide +kernel
theorem dX1_addBaskets_34 : decode cX1_addBaskets 34 = .ok (.istore 6, 2) := by decide +kernel
theorem dX1_addBaskets_36 : decode cX1_addBaskets 36 = .ok (.aload_n 2, 1) := by decide +kernel
theorem dX1_addBaskets_37 : decode cX1_addBaskets 37 = .ok (.getfield 86, 3) := by decide +kernel
theorem dX1_addBaskets_40 : decode cX1_addBaskets 40 = .ok (.iload 5, 2) := by decide +kernel
theorem dX1_addBaskets_42 : decode cX1_addBaskets 42 = .ok (.iaload, 1) := by decide +kernel
theorem dX1_addBaskets_43 : decode cX1_addBaskets 43 = .ok (.i2l, 1) := by decide +kernel
theorem dX1_addBaskets_44 : decode cX1_addBaskets 44 = .ok (.lstore 7, 2) := by decide +kernel
theorem dX1_addBaskets_46 : decode cX1_addBaskets 46 = .ok (.lload 7, 2) := by decide +kernel
theorem dX1_addBaskets_48 : decode cX1_addBaskets 48 = .ok (.lstore 9, 2) := by decide +kernel
theorem dX1_addBaskets_50 : decode cX1_addBaskets 50 = .ok (.aload_n 3, 1) := by decide +kernel
theorem dX1_addBaskets_51 : decode cX1_addBaskets 51 = .ok (.getfield 88, 3) := by decide +kernel
theorem dX1_addBaskets_54 : decode cX1_addBaskets 54 = .ok (.iconst (-1), 1) := by decide +kernel
theorem dX1_addBaskets_55 : decode cX1_addBaskets 55 = .ok (.if_icmp .eq 40, 3) := by decide +kernel
theorem dX1_addBaskets_58 : decode cX1_addBaskets 58 = .ok (.aload_n 3, 1) := by decide +kernel
theorem dX1_addBaskets_59 : decode cX1_addBaskets 59 = .ok (.getfield 88, 3) := by decide +kernel
theorem dX1_addBaskets_62 : decode cX1_addBaskets 62 = .ok (.i2l, 1) := by decide +kernel
theorem dX1_addBaskets_63 : decode cX1_addBaskets 63 = .ok (.aload_n 1, 1) := by decide +kernel
theorem dX1_addBaskets_64 : decode cX1_addBaskets 64 = .ok (.getfield 91, 3) := by decide +kernel
theorem dX1_addBaskets_67 : decode cX1_addBaskets 67 = .ok (.iload 6, 2) := by decide +kernel
theorem dX1_addBaskets_69 : decode cX1_addBaskets 69 = .ok (.iaload, 1) := by decide +kernel
theorem dX1_addBaskets_70 : decode cX1_addBaskets 70 = .ok (.i2l, 1) := by decide +kernel
theorem dX1_addBaskets_71 : decode cX1_addBaskets 71 = .ok (.lmul, 1) := by decide +kernel
theorem dX1_addBaskets_72 : decode cX1_addBaskets 72 = .ok (.aload_n 0, 1) := by decide +kernel
theorem dX1_addBaskets_73 : decode cX1_addBaskets 73 = .ok (.getfield 9, 3) := by decide +kernel
theorem dX1_addBaskets_76 : decode cX1_addBaskets 76 = .ok (.iload 6, 2) := by decide +kernel
theorem dX1_addBaskets_78 : decode cX1_addBaskets 78 = .ok (.laload, 1) := by decide +kernel
theorem dX1_addBaskets_79 : decode cX1_addBaskets 79 = .ok (.lsub, 1) := by decide +kernel
theorem dX1_addBaskets_80 : decode cX1_addBaskets 80 = .ok (.lstore 11, 2) := by decide +kernel
theorem dX1_addBaskets_82 : decode cX1_addBaskets 82 = .ok (.lconst 0, 1) := by decide +kernel
theorem dX1_addBaskets_83 : decode cX1_addBaskets 83 = .ok (.lload 7, 2) := by decide +kernel
theorem dX1_addBaskets_85 : decode cX1_addBaskets 85 = .ok (.lload 11, 2) := by decide +kernel
theorem dX1_addBaskets_87 : decode cX1_addBaskets 87 = .ok (.invokestatic 62, 3) := by decide +kernel
theorem dX1_addBaskets_90 : decode cX1_addBaskets 90 = .ok (.invokestatic 94, 3) := by decide +kernel
theorem dX1_addBaskets_93 : decode cX1_addBaskets 93 = .ok (.lstore 9, 2) := by decide +kernel
theorem dX1_addBaskets_95 : decode cX1_addBaskets 95 = .ok (.aload_n 3, 1) := by decide +kernel
theorem dX1_addBaskets_96 : decode cX1_addBaskets 96 = .ok (.getfield 97, 3) := by decide +kernel
theorem dX1_addBaskets_99 : decode cX1_addBaskets 99 = .ok (.aload_n 2, 1) := by decide +kernel
theorem dX1_addBaskets_100 : decode cX1_addBaskets 100 = .ok (.getfield 100, 3) := by decide +kernel
theorem dX1_addBaskets_103 : decode cX1_addBaskets 103 = .ok (.iload 5, 2) := by decide +kernel
theorem dX1_addBaskets_105 : decode cX1_addBaskets 105 = .ok (.iaload, 1) := by decide +kernel
theorem dX1_addBaskets_106 : decode cX1_addBaskets 106 = .ok (.iaload, 1) := by decide +kernel
theorem dX1_addBaskets_107 : decode cX1_addBaskets 107 = .ok (.i2l, 1) := by decide +kernel
theorem dX1_addBaskets_108 : decode cX1_addBaskets 108 = .ok (.lstore 11, 2) := by decide +kernel
theorem dX1_addBaskets_110 : decode cX1_addBaskets 110 = .ok (.aload_n 0, 1) := by decide +kernel
theorem dX1_addBaskets_111 : decode cX1_addBaskets 111 = .ok (.getfield 18, 3) := by decide +kernel
theorem dX1_addBaskets_114 : decode cX1_addBaskets 114 = .ok (.iload 6, 2) := by decide +kernel
theorem dX1_addBaskets_116 : decode cX1_addBaskets 116 = .ok (.dup2, 1) := by decide +kernel
theorem dX1_addBaskets_117 : decode cX1_addBaskets 117 = .ok (.laload, 1) := by decide +kernel
theorem dX1_addBaskets_118 : decode cX1_addBaskets 118 = .ok (.lload 9, 2) := by decide +kernel
theorem dX1_addBaskets_120 : decode cX1_addBaskets 120 = .ok (.lload 11, 2) := by decide +kernel
theorem dX1_addBaskets_122 : decode cX1_addBaskets 122 = .ok (.lmul, 1) := by decide +kernel
theorem dX1_addBaskets_123 : decode cX1_addBaskets 123 = .ok (.ladd, 1) := by decide +kernel
theorem dX1_addBaskets_124 : decode cX1_addBaskets 124 = .ok (.lastore, 1) := by decide +kernel
theorem dX1_addBaskets_125 : decode cX1_addBaskets 125 = .ok (.aload_n 0, 1) := by decide +kernel
theorem dX1_addBaskets_126 : decode cX1_addBaskets 126 = .ok (.getfield 21, 3) := by decide +kernel
theorem dX1_addBaskets_129 : decode cX1_addBaskets 129 = .ok (.iload 6, 2) := by decide +kernel
theorem dX1_addBaskets_131 : decode cX1_addBaskets 131 = .ok (.dup2, 1) := by decide +kernel
theorem dX1_addBaskets_132 : decode cX1_addBaskets 132 = .ok (.laload, 1) := by decide +kernel
theorem dX1_addBaskets_133 : decode cX1_addBaskets 133 = .ok (.lload 7, 2) := by decide +kernel
theorem dX1_addBaskets_135 : decode cX1_addBaskets 135 = .ok (.lload 9, 2) := by decide +kernel
theorem dX1_addBaskets_137 : decode cX1_addBaskets 137 = .ok (.lsub, 1) := by decide +kernel
theorem dX1_addBaskets_138 : decode cX1_addBaskets 138 = .ok (.lload 11, 2) := by decide +kernel
theorem dX1_addBaskets_140 : decode cX1_addBaskets 140 = .ok (.lmul, 1) := by decide +kernel
theorem dX1_addBaskets_141 : decode cX1_addBaskets 141 = .ok (.ladd, 1) := by decide +kernel
theorem dX1_addBaskets_142 : decode cX1_addBaskets 142 = .ok (.lastore, 1) := by decide +kernel
theorem dX1_addBaskets_143 : decode cX1_addBaskets 143 = .ok (.aload_n 0, 1) := by decide +kernel
theorem dX1_addBaskets_144 : decode cX1_addBaskets 144 = .ok (.getfield 9, 3) := by decide +kernel
theorem dX1_addBaskets_147 : decode cX1_addBaskets 147 = .ok (.iload 6, 2) := by decide +kernel
theorem dX1_addBaskets_149 : decode cX1_addBaskets 149 = .ok (.dup2, 1) := by decide +kernel
theorem dX1_addBaskets_150 : decode cX1_addBaskets 150 = .ok (.laload, 1) := by decide +kernel
theorem dX1_addBaskets_151 : decode cX1_addBaskets 151 = .ok (.lload 7, 2) := by decide +kernel
theorem dX1_addBaskets_153 : decode cX1_addBaskets 153 = .ok (.ladd, 1) := by decide +kernel
theorem dX1_addBaskets_154 : decode cX1_addBaskets 154 = .ok (.lastore, 1) := by decide +kernel
theorem dX1_addBaskets_155 : decode cX1_addBaskets 155 = .ok (.iinc 5 1, 3) := by decide +kernel
theorem dX1_addBaskets_158 : decode cX1_addBaskets 158 = .ok (.goto (-155), 3) := by decide +kernel
theorem dX1_addBaskets_161 : decode cX1_addBaskets 161 = .ok (.return_, 1) := by decide +kernel
theorem dX1_pay_0 : decode cX1_pay 0 = .ok (.aload_n 0, 1) := by decide +kernel
theorem dX1_pay_1 : decode cX1_pay 1 = .ok (.getfield 18, 3) := by decide +kernel
theorem dX1_pay_4 : decode cX1_pay 4 = .ok (.iload_n 1, 1) := by decide +kernel
theorem dX1_pay_5 : decode cX1_pay 5 = .ok (.laload, 1) := by decide +kernel
theorem dX1_pay_6 : decode cX1_pay 6 = .ok (.aload_n 0, 1) := by decide +kernel
theorem dX1_pay_7 : decode cX1_pay 7 = .ok (.getfield 24, 3) := by decide +kernel
theorem dX1_pay_10 : decode cX1_pay 10 = .ok (.iload_n 1, 1) := by decide +kernel
theorem dX1_pay_11 : decode cX1_pay 11 = .ok (.laload, 1) := by decide +kernel
theorem dX1_pay_12 : decode cX1_pay 12 = .ok (.lsub, 1) := by decide +kernel
theorem dX1_pay_13 : decode cX1_pay 13 = .ok (.lreturn, 1) := by decide +kernel
theorem dX1_debt_0 : decode cX1_debt 0 = .ok (.aload_n 0, 1) := by decide +kernel
theorem dX1_debt_1 : decode cX1_debt 1 = .ok (.getfield 15, 3) := by decide +kernel
theorem dX1_debt_4 : decode cX1_debt 4 = .ok (.iload_n 1, 1) := by decide +kernel
theorem dX1_debt_5 : decode cX1_debt 5 = .ok (.laload, 1) := by decide +kernel
theorem dX1_debt_6 : decode cX1_debt 6 = .ok (.aload_n 0, 1) := by decide +kernel
theorem dX1_debt_7 : decode cX1_debt 7 = .ok (.getfield 24, 3) := by decide +kernel
theorem dX1_debt_10 : decode cX1_debt 10 = .ok (.iload_n 1, 1) := by decide +kernel
theorem dX1_debt_11 : decode cX1_debt 11 = .ok (.laload, 1) := by decide +kernel
theorem dX1_debt_12 : decode cX1_debt 12 = .ok (.lsub, 1) := by decide +kernel
theorem dX1_debt_13 : decode cX1_debt 13 = .ok (.lreturn, 1) := by decide +kernel
theorem dX1_stand_0 : decode cX1_stand 0 = .ok (.aload_n 0, 1) := by decide +kernel
theorem dX1_stand_1 : decode cX1_stand 1 = .ok (.getfield 27, 3) := by decide +kernel
theorem dX1_stand_4 : decode cX1_stand 4 = .ok (.lconst 0, 1) := by decide +kernel
theorem dX1_stand_5 : decode cX1_stand 5 = .ok (.invokestatic 36, 3) := by decide +kernel
theorem dX1_stand_8 : decode cX1_stand 8 = .ok (.aload_n 0, 1) := by decide +kernel
theorem dX1_stand_9 : decode cX1_stand 9 = .ok (.lconst 0, 1) := by decide +kernel
theorem dX1_stand_10 : decode cX1_stand 10 = .ok (.putfield 103, 3) := by decide +kernel
theorem dX1_stand_13 : decode cX1_stand 13 = .ok (.aload_n 0, 1) := by decide +kernel
theorem dX1_stand_14 : decode cX1_stand 14 = .ok (.lconst 0, 1) := by decide +kernel
theorem dX1_stand_15 : decode cX1_stand 15 = .ok (.putfield 107, 3) := by decide +kernel
theorem dX1_stand_18 : decode cX1_stand 18 = .ok (.iconst 0, 1) := by decide +kernel
theorem dX1_stand_19 : decode cX1_stand 19 = .ok (.istore 4, 2) := by decide +kernel
theorem dX1_stand_21 : decode cX1_stand 21 = .ok (.iload 4, 2) := by decide +kernel
theorem dX1_stand_23 : decode cX1_stand 23 = .ok (.aload_n 1, 1) := by decide +kernel
theorem dX1_stand_24 : decode cX1_stand 24 = .ok (.getfield 50, 3) := by decide +kernel
theorem dX1_stand_27 : decode cX1_stand 27 = .ok (.if_icmp .ge 69, 3) := by decide +kernel
theorem dX1_stand_30 : decode cX1_stand 30 = .ok (.aload_n 1, 1) := by decide +kernel
theorem dX1_stand_31 : decode cX1_stand 31 = .ok (.getfield 110, 3) := by decide +kernel
theorem dX1_stand_34 : decode cX1_stand 34 = .ok (.iload 4, 2) := by decide +kernel
theorem dX1_stand_36 : decode cX1_stand 36 = .ok (.iaload, 1) := by decide +kernel
theorem dX1_stand_37 : decode cX1_stand 37 = .ok (.iload_n 3, 1) := by decide +kernel
theorem dX1_stand_38 : decode cX1_stand 38 = .ok (.if_icmp .ne 52, 3) := by decide +kernel
theorem dX1_stand_41 : decode cX1_stand 41 = .ok (.aload_n 0, 1) := by decide +kernel
theorem dX1_stand_42 : decode cX1_stand 42 = .ok (.getfield 27, 3) := by decide +kernel
theorem dX1_stand_45 : decode cX1_stand 45 = .ok (.iload 4, 2) := by decide +kernel
theorem dX1_stand_47 : decode cX1_stand 47 = .ok (.aload_n 2, 1) := by decide +kernel
theorem dX1_stand_48 : decode cX1_stand 48 = .ok (.iconst 2, 1) := by decide +kernel
theorem dX1_stand_49 : decode cX1_stand 49 = .ok (.aload_n 0, 1) := by decide +kernel
theorem dX1_stand_50 : decode cX1_stand 50 = .ok (.iload 4, 2) := by decide +kernel
theorem dX1_stand_52 : decode cX1_stand 52 = .ok (.invokevirtual 113, 3) := by decide +kernel
theorem dX1_stand_55 : decode cX1_stand 55 = .ok (.invokevirtual 58, 3) := by decide +kernel
theorem dX1_stand_58 : decode cX1_stand 58 = .ok (.lastore, 1) := by decide +kernel
theorem dX1_stand_59 : decode cX1_stand 59 = .ok (.aload_n 0, 1) := by decide +kernel
theorem dX1_stand_60 : decode cX1_stand 60 = .ok (.dup, 1) := by decide +kernel
theorem dX1_stand_61 : decode cX1_stand 61 = .ok (.getfield 107, 3) := by decide +kernel
theorem dX1_stand_64 : decode cX1_stand 64 = .ok (.aload_n 0, 1) := by decide +kernel
theorem dX1_stand_65 : decode cX1_stand 65 = .ok (.getfield 27, 3) := by decide +kernel
theorem dX1_stand_68 : decode cX1_stand 68 = .ok (.iload 4, 2) := by decide +kernel
theorem dX1_stand_70 : decode cX1_stand 70 = .ok (.laload, 1) := by decide +kernel
theorem dX1_stand_71 : decode cX1_stand 71 = .ok (.ladd, 1) := by decide +kernel
theorem dX1_stand_72 : decode cX1_stand 72 = .ok (.putfield 107, 3) := by decide +kernel
theorem dX1_stand_75 : decode cX1_stand 75 = .ok (.aload_n 0, 1) := by decide +kernel
theorem dX1_stand_76 : decode cX1_stand 76 = .ok (.dup, 1) := by decide +kernel
theorem dX1_stand_77 : decode cX1_stand 77 = .ok (.getfield 103, 3) := by decide +kernel
theorem dX1_stand_80 : decode cX1_stand 80 = .ok (.aload_n 0, 1) := by decide +kernel
theorem dX1_stand_81 : decode cX1_stand 81 = .ok (.iload 4, 2) := by decide +kernel
theorem dX1_stand_83 : decode cX1_stand 83 = .ok (.invokevirtual 117, 3) := by decide +kernel
theorem dX1_stand_86 : decode cX1_stand 86 = .ok (.ladd, 1) := by decide +kernel
theorem dX1_stand_87 : decode cX1_stand 87 = .ok (.putfield 103, 3) := by decide +kernel
theorem dX1_stand_90 : decode cX1_stand 90 = .ok (.iinc 4 1, 3) := by decide +kernel
theorem dX1_stand_93 : decode cX1_stand 93 = .ok (.goto (-72), 3) := by decide +kernel
theorem dX1_stand_96 : decode cX1_stand 96 = .ok (.aload_n 0, 1) := by decide +kernel
theorem dX1_stand_97 : decode cX1_stand 97 = .ok (.aload_n 1, 1) := by decide +kernel
theorem dX1_stand_98 : decode cX1_stand 98 = .ok (.getfield 50, 3) := by decide +kernel
theorem dX1_stand_101 : decode cX1_stand 101 = .ok (.invokevirtual 120, 3) := by decide +kernel
theorem dX1_stand_104 : decode cX1_stand 104 = .ok (.aload_n 0, 1) := by decide +kernel
theorem dX1_stand_105 : decode cX1_stand 105 = .ok (.aload_n 1, 1) := by decide +kernel
theorem dX1_stand_106 : decode cX1_stand 106 = .ok (.iload_n 3, 1) := by decide +kernel
theorem dX1_stand_107 : decode cX1_stand 107 = .ok (.invokevirtual 124, 3) := by decide +kernel
theorem dX1_stand_110 : decode cX1_stand 110 = .ok (.return_, 1) := by decide +kernel
theorem dX1_giveEvenly_0 : decode cX1_giveEvenly 0 = .ok (.aload_n 0, 1) := by decide +kernel
theorem dX1_giveEvenly_1 : decode cX1_giveEvenly 1 = .ok (.getfield 107, 3) := by decide +kernel
theorem dX1_giveEvenly_4 : decode cX1_giveEvenly 4 = .ok (.aload_n 0, 1) := by decide +kernel
theorem dX1_giveEvenly_5 : decode cX1_giveEvenly 5 = .ok (.getfield 103, 3) := by decide +kernel
theorem dX1_giveEvenly_8 : decode cX1_giveEvenly 8 = .ok (.lcmp, 1) := by decide +kernel
theorem dX1_giveEvenly_9 : decode cX1_giveEvenly 9 = .ok (.ifCond .gt 26, 3) := by decide +kernel
theorem dX1_giveEvenly_12 : decode cX1_giveEvenly 12 = .ok (.aload_n 0, 1) := by decide +kernel
theorem dX1_giveEvenly_13 : decode cX1_giveEvenly 13 = .ok (.getfield 27, 3) := by decide +kernel
theorem dX1_giveEvenly_16 : decode cX1_giveEvenly 16 = .ok (.iconst 0, 1) := by decide +kernel
theorem dX1_giveEvenly_17 : decode cX1_giveEvenly 17 = .ok (.aload_n 0, 1) := by decide +kernel
theorem dX1_giveEvenly_18 : decode cX1_giveEvenly 18 = .ok (.getfield 30, 3) := by decide +kernel
theorem dX1_giveEvenly_21 : decode cX1_giveEvenly 21 = .ok (.iconst 0, 1) := by decide +kernel
theorem dX1_giveEvenly_22 : decode cX1_giveEvenly 22 = .ok (.iload_n 1, 1) := by decide +kernel
theorem dX1_giveEvenly_23 : decode cX1_giveEvenly 23 = .ok (.invokestatic 128, 3) := by decide +kernel
theorem dX1_giveEvenly_26 : decode cX1_giveEvenly 26 = .ok (.aload_n 0, 1) := by decide +kernel
theorem dX1_giveEvenly_27 : decode cX1_giveEvenly 27 = .ok (.aload_n 0, 1) := by decide +kernel
theorem dX1_giveEvenly_28 : decode cX1_giveEvenly 28 = .ok (.getfield 107, 3) := by decide +kernel
theorem dX1_giveEvenly_31 : decode cX1_giveEvenly 31 = .ok (.putfield 134, 3) := by decide +kernel
theorem dX1_giveEvenly_34 : decode cX1_giveEvenly 34 = .ok (.return_, 1) := by decide +kernel
theorem dX1_giveEvenly_35 : decode cX1_giveEvenly 35 = .ok (.aload_n 0, 1) := by decide +kernel
theorem dX1_giveEvenly_36 : decode cX1_giveEvenly 36 = .ok (.iload_n 1, 1) := by decide +kernel
theorem dX1_giveEvenly_37 : decode cX1_giveEvenly 37 = .ok (.invokevirtual 137, 3) := by decide +kernel
theorem dX1_giveEvenly_40 : decode cX1_giveEvenly 40 = .ok (.lstore_n 2, 1) := by decide +kernel
theorem dX1_giveEvenly_41 : decode cX1_giveEvenly 41 = .ok (.aload_n 0, 1) := by decide +kernel
theorem dX1_giveEvenly_42 : decode cX1_giveEvenly 42 = .ok (.getfield 103, 3) := by decide +kernel
theorem dX1_giveEvenly_45 : decode cX1_giveEvenly 45 = .ok (.aload_n 0, 1) := by decide +kernel
theorem dX1_giveEvenly_46 : decode cX1_giveEvenly 46 = .ok (.lload_n 2, 1) := by decide +kernel
theorem dX1_giveEvenly_47 : decode cX1_giveEvenly 47 = .ok (.iload_n 1, 1) := by decide +kernel
theorem dX1_giveEvenly_48 : decode cX1_giveEvenly 48 = .ok (.invokevirtual 140, 3) := by decide +kernel
theorem dX1_giveEvenly_51 : decode cX1_giveEvenly 51 = .ok (.lsub, 1) := by decide +kernel
theorem dX1_giveEvenly_52 : decode cX1_giveEvenly 52 = .ok (.lstore 4, 2) := by decide +kernel
theorem dX1_giveEvenly_54 : decode cX1_giveEvenly 54 = .ok (.iconst 0, 1) := by decide +kernel
theorem dX1_giveEvenly_55 : decode cX1_giveEvenly 55 = .ok (.istore 6, 2) := by decide +kernel
theorem dX1_giveEvenly_57 : decode cX1_giveEvenly 57 = .ok (.iload 6, 2) := by decide +kernel
theorem dX1_giveEvenly_59 : decode cX1_giveEvenly 59 = .ok (.iload_n 1, 1) := by decide +kernel
theorem dX1_giveEvenly_60 : decode cX1_giveEvenly 60 = .ok (.if_icmp .ge 63, 3) := by decide +kernel
theorem dX1_giveEvenly_63 : decode cX1_giveEvenly 63 = .ok (.aload_n 0, 1) := by decide +kernel
theorem dX1_giveEvenly_64 : decode cX1_giveEvenly 64 = .ok (.getfield 30, 3) := by decide +kernel
theorem dX1_giveEvenly_67 : decode cX1_giveEvenly 67 = .ok (.iload 6, 2) := by decide +kernel
theorem dX1_giveEvenly_69 : decode cX1_giveEvenly 69 = .ok (.lload_n 2, 1) := by decide +kernel
theorem dX1_giveEvenly_70 : decode cX1_giveEvenly 70 = .ok (.aload_n 0, 1) := by decide +kernel
theorem dX1_giveEvenly_71 : decode cX1_giveEvenly 71 = .ok (.getfield 27, 3) := by decide +kernel
theorem dX1_giveEvenly_74 : decode cX1_giveEvenly 74 = .ok (.iload 6, 2) := by decide +kernel
theorem dX1_giveEvenly_76 : decode cX1_giveEvenly 76 = .ok (.laload, 1) := by decide +kernel
theorem dX1_giveEvenly_77 : decode cX1_giveEvenly 77 = .ok (.invokestatic 62, 3) := by decide +kernel
theorem dX1_giveEvenly_80 : decode cX1_giveEvenly 80 = .ok (.lastore, 1) := by decide +kernel
theorem dX1_giveEvenly_81 : decode cX1_giveEvenly 81 = .ok (.lload 4, 2) := by decide +kernel
theorem dX1_giveEvenly_83 : decode cX1_giveEvenly 83 = .ok (.lconst 0, 1) := by decide +kernel
theorem dX1_giveEvenly_84 : decode cX1_giveEvenly 84 = .ok (.lcmp, 1) := by decide +kernel
theorem dX1_giveEvenly_85 : decode cX1_giveEvenly 85 = .ok (.ifCond .le 32, 3) := by decide +kernel
theorem dX1_giveEvenly_88 : decode cX1_giveEvenly 88 = .ok (.aload_n 0, 1) := by decide +kernel
theorem dX1_giveEvenly_89 : decode cX1_giveEvenly 89 = .ok (.getfield 27, 3) := by decide +kernel
theorem dX1_giveEvenly_92 : decode cX1_giveEvenly 92 = .ok (.iload 6, 2) := by decide +kernel
theorem dX1_giveEvenly_94 : decode cX1_giveEvenly 94 = .ok (.laload, 1) := by decide +kernel
theorem dX1_giveEvenly_95 : decode cX1_giveEvenly 95 = .ok (.lload_n 2, 1) := by decide +kernel
theorem dX1_giveEvenly_96 : decode cX1_giveEvenly 96 = .ok (.lcmp, 1) := by decide +kernel
theorem dX1_giveEvenly_97 : decode cX1_giveEvenly 97 = .ok (.ifCond .le 20, 3) := by decide +kernel
theorem dX1_giveEvenly_100 : decode cX1_giveEvenly 100 = .ok (.aload_n 0, 1) := by decide +kernel
theorem dX1_giveEvenly_101 : decode cX1_giveEvenly 101 = .ok (.getfield 30, 3) := by decide +kernel
theorem dX1_giveEvenly_104 : decode cX1_giveEvenly 104 = .ok (.iload 6, 2) := by decide +kernel
theorem dX1_giveEvenly_106 : decode cX1_giveEvenly 106 = .ok (.dup2, 1) := by decide +kernel
theorem dX1_giveEvenly_107 : decode cX1_giveEvenly 107 = .ok (.laload, 1) := by decide +kernel
theorem dX1_giveEvenly_108 : decode cX1_giveEvenly 108 = .ok (.lconst 1, 1) := by decide +kernel
theorem dX1_giveEvenly_109 : decode cX1_giveEvenly 109 = .ok (.ladd, 1) := by decide +kernel
theorem dX1_giveEvenly_110 : decode cX1_giveEvenly 110 = .ok (.lastore, 1) := by decide +kernel
theorem dX1_giveEvenly_111 : decode cX1_giveEvenly 111 = .ok (.lload 4, 2) := by decide +kernel
theorem dX1_giveEvenly_113 : decode cX1_giveEvenly 113 = .ok (.lconst 1, 1) := by decide +kernel
theorem dX1_giveEvenly_114 : decode cX1_giveEvenly 114 = .ok (.lsub, 1) := by decide +kernel
theorem dX1_giveEvenly_115 : decode cX1_giveEvenly 115 = .ok (.lstore 4, 2) := by decide +kernel
theorem dX1_giveEvenly_117 : decode cX1_giveEvenly 117 = .ok (.iinc 6 1, 3) := by decide +kernel
theorem dX1_giveEvenly_120 : decode cX1_giveEvenly 120 = .ok (.goto (-63), 3) := by decide +kernel
theorem dX1_giveEvenly_123 : decode cX1_giveEvenly 123 = .ok (.aload_n 0, 1) := by decide +kernel
theorem dX1_giveEvenly_124 : decode cX1_giveEvenly 124 = .ok (.aload_n 0, 1) := by decide +kernel
theorem dX1_giveEvenly_125 : decode cX1_giveEvenly 125 = .ok (.getfield 103, 3) := by decide +kernel
theorem dX1_giveEvenly_128 : decode cX1_giveEvenly 128 = .ok (.putfield 134, 3) := by decide +kernel
theorem dX1_giveEvenly_131 : decode cX1_giveEvenly 131 = .ok (.return_, 1) := by decide +kernel
theorem dX1_greatestLevel_0 : decode cX1_greatestLevel 0 = .ok (.lconst 0, 1) := by decide +kernel
theorem dX1_greatestLevel_1 : decode cX1_greatestLevel 1 = .ok (.lstore_n 2, 1) := by decide +kernel
theorem dX1_greatestLevel_2 : decode cX1_greatestLevel 2 = .ok (.ldc2_w 144, 3) := by decide +kernel
theorem dX1_greatestLevel_5 : decode cX1_greatestLevel 5 = .ok (.lstore 4, 2) := by decide +kernel
theorem dX1_greatestLevel_7 : decode cX1_greatestLevel 7 = .ok (.lload 4, 2) := by decide +kernel
theorem dX1_greatestLevel_9 : decode cX1_greatestLevel 9 = .ok (.lconst 0, 1) := by decide +kernel
theorem dX1_greatestLevel_10 : decode cX1_greatestLevel 10 = .ok (.lcmp, 1) := by decide +kernel
theorem dX1_greatestLevel_11 : decode cX1_greatestLevel 11 = .ok (.ifCond .le 34, 3) := by decide +kernel
theorem dX1_greatestLevel_14 : decode cX1_greatestLevel 14 = .ok (.aload_n 0, 1) := by decide +kernel
theorem dX1_greatestLevel_15 : decode cX1_greatestLevel 15 = .ok (.lload_n 2, 1) := by decide +kernel
theorem dX1_greatestLevel_16 : decode cX1_greatestLevel 16 = .ok (.lload 4, 2) := by decide +kernel
theorem dX1_greatestLevel_18 : decode cX1_greatestLevel 18 = .ok (.ladd, 1) := by decide +kernel
theorem dX1_greatestLevel_19 : decode cX1_greatestLevel 19 = .ok (.iload_n 1, 1) := by decide +kernel
theorem dX1_greatestLevel_20 : decode cX1_greatestLevel 20 = .ok (.invokevirtual 140, 3) := by decide +kernel
theorem dX1_greatestLevel_23 : decode cX1_greatestLevel 23 = .ok (.aload_n 0, 1) := by decide +kernel
theorem dX1_greatestLevel_24 : decode cX1_greatestLevel 24 = .ok (.getfield 103, 3) := by decide +kernel
theorem dX1_greatestLevel_27 : decode cX1_greatestLevel 27 = .ok (.lcmp, 1) := by decide +kernel
theorem dX1_greatestLevel_28 : decode cX1_greatestLevel 28 = .ok (.ifCond .gt 8, 3) := by decide +kernel
theorem dX1_greatestLevel_31 : decode cX1_greatestLevel 31 = .ok (.lload_n 2, 1) := by decide +kernel
theorem dX1_greatestLevel_32 : decode cX1_greatestLevel 32 = .ok (.lload 4, 2) := by decide +kernel
theorem dX1_greatestLevel_34 : decode cX1_greatestLevel 34 = .ok (.ladd, 1) := by decide +kernel
theorem dX1_greatestLevel_35 : decode cX1_greatestLevel 35 = .ok (.lstore_n 2, 1) := by decide +kernel
theorem dX1_greatestLevel_36 : decode cX1_greatestLevel 36 = .ok (.lload 4, 2) := by decide +kernel
theorem dX1_greatestLevel_38 : decode cX1_greatestLevel 38 = .ok (.iconst 1, 1) := by decide +kernel
theorem dX1_greatestLevel_39 : decode cX1_greatestLevel 39 = .ok (.lshr, 1) := by decide +kernel
theorem dX1_greatestLevel_40 : decode cX1_greatestLevel 40 = .ok (.lstore 4, 2) := by decide +kernel
theorem dX1_greatestLevel_42 : decode cX1_greatestLevel 42 = .ok (.goto (-35), 3) := by decide +kernel
theorem dX1_greatestLevel_45 : decode cX1_greatestLevel 45 = .ok (.lload_n 2, 1) := by decide +kernel
theorem dX1_greatestLevel_46 : decode cX1_greatestLevel 46 = .ok (.lreturn, 1) := by decide +kernel
theorem dX1_sumAtLevel_0 : decode cX1_sumAtLevel 0 = .ok (.lconst 0, 1) := by decide +kernel
theorem dX1_sumAtLevel_1 : decode cX1_sumAtLevel 1 = .ok (.lstore 4, 2) := by decide +kernel
theorem dX1_sumAtLevel_3 : decode cX1_sumAtLevel 3 = .ok (.iconst 0, 1) := by decide +kernel
theorem dX1_sumAtLevel_4 : decode cX1_sumAtLevel 4 = .ok (.istore 6, 2) := by decide +kernel
theorem dX1_sumAtLevel_6 : decode cX1_sumAtLevel 6 = .ok (.iload 6, 2) := by decide +kernel
theorem dX1_sumAtLevel_8 : decode cX1_sumAtLevel 8 = .ok (.iload_n 3, 1) := by decide +kernel
theorem dX1_sumAtLevel_9 : decode cX1_sumAtLevel 9 = .ok (.if_icmp .ge 25, 3) := by decide +kernel
theorem dX1_sumAtLevel_12 : decode cX1_sumAtLevel 12 = .ok (.lload 4, 2) := by decide +kernel
theorem dX1_sumAtLevel_14 : decode cX1_sumAtLevel 14 = .ok (.lload_n 1, 1) := by decide +kernel
theorem dX1_sumAtLevel_15 : decode cX1_sumAtLevel 15 = .ok (.aload_n 0, 1) := by decide +kernel
theorem dX1_sumAtLevel_16 : decode cX1_sumAtLevel 16 = .ok (.getfield 27, 3) := by decide +kernel
theorem dX1_sumAtLevel_19 : decode cX1_sumAtLevel 19 = .ok (.iload 6, 2) := by decide +kernel
theorem dX1_sumAtLevel_21 : decode cX1_sumAtLevel 21 = .ok (.laload, 1) := by decide +kernel
theorem dX1_sumAtLevel_22 : decode cX1_sumAtLevel 22 = .ok (.invokestatic 62, 3) := by decide +kernel
theorem dX1_sumAtLevel_25 : decode cX1_sumAtLevel 25 = .ok (.ladd, 1) := by decide +kernel
theorem dX1_sumAtLevel_26 : decode cX1_sumAtLevel 26 = .ok (.lstore 4, 2) := by decide +kernel
theorem dX1_sumAtLevel_28 : decode cX1_sumAtLevel 28 = .ok (.iinc 6 1, 3) := by decide +kernel
theorem dX1_sumAtLevel_31 : decode cX1_sumAtLevel 31 = .ok (.goto (-25), 3) := by decide +kernel
theorem dX1_sumAtLevel_34 : decode cX1_sumAtLevel 34 = .ok (.lload 4, 2) := by decide +kernel
theorem dX1_sumAtLevel_36 : decode cX1_sumAtLevel 36 = .ok (.lreturn, 1) := by decide +kernel
theorem dX1_payDebts_0 : decode cX1_payDebts 0 = .ok (.aload_n 0, 1) := by decide +kernel
theorem dX1_payDebts_1 : decode cX1_payDebts 1 = .ok (.getfield 134, 3) := by decide +kernel
theorem dX1_payDebts_4 : decode cX1_payDebts 4 = .ok (.lstore_n 3, 1) := by decide +kernel
theorem dX1_payDebts_5 : decode cX1_payDebts 5 = .ok (.iconst 0, 1) := by decide +kernel
theorem dX1_payDebts_6 : decode cX1_payDebts 6 = .ok (.istore 5, 2) := by decide +kernel
theorem dX1_payDebts_8 : decode cX1_payDebts 8 = .ok (.iload 5, 2) := by decide +kernel
theorem dX1_payDebts_10 : decode cX1_payDebts 10 = .ok (.aload_n 1, 1) := by decide +kernel
theorem dX1_payDebts_11 : decode cX1_payDebts 11 = .ok (.getfield 50, 3) := by decide +kernel
theorem dX1_payDebts_14 : decode cX1_payDebts 14 = .ok (.if_icmp .ge 47, 3) := by decide +kernel
theorem dX1_payDebts_17 : decode cX1_payDebts 17 = .ok (.aload_n 1, 1) := by decide +kernel
theorem dX1_payDebts_18 : decode cX1_payDebts 18 = .ok (.getfield 110, 3) := by decide +kernel
theorem dX1_payDebts_21 : decode cX1_payDebts 21 = .ok (.iload 5, 2) := by decide +kernel
theorem dX1_payDebts_23 : decode cX1_payDebts 23 = .ok (.iaload, 1) := by decide +kernel
theorem dX1_payDebts_24 : decode cX1_payDebts 24 = .ok (.iload_n 2, 1) := by decide +kernel
theorem dX1_payDebts_25 : decode cX1_payDebts 25 = .ok (.if_icmp .ne 30, 3) := by decide +kernel
theorem dX1_payDebts_28 : decode cX1_payDebts 28 = .ok (.aload_n 0, 1) := by decide +kernel
theorem dX1_payDebts_29 : decode cX1_payDebts 29 = .ok (.getfield 33, 3) := by decide +kernel
theorem dX1_payDebts_32 : decode cX1_payDebts 32 = .ok (.iload 5, 2) := by decide +kernel
theorem dX1_payDebts_34 : decode cX1_payDebts 34 = .ok (.lload_n 3, 1) := by decide +kernel
theorem dX1_payDebts_35 : decode cX1_payDebts 35 = .ok (.aload_n 0, 1) := by decide +kernel
theorem dX1_payDebts_36 : decode cX1_payDebts 36 = .ok (.iload 5, 2) := by decide +kernel
theorem dX1_payDebts_38 : decode cX1_payDebts 38 = .ok (.invokevirtual 117, 3) := by decide +kernel
theorem dX1_payDebts_41 : decode cX1_payDebts 41 = .ok (.invokestatic 62, 3) := by decide +kernel
theorem dX1_payDebts_44 : decode cX1_payDebts 44 = .ok (.lastore, 1) := by decide +kernel
theorem dX1_payDebts_45 : decode cX1_payDebts 45 = .ok (.lload_n 3, 1) := by decide +kernel
theorem dX1_payDebts_46 : decode cX1_payDebts 46 = .ok (.aload_n 0, 1) := by decide +kernel
theorem dX1_payDebts_47 : decode cX1_payDebts 47 = .ok (.getfield 33, 3) := by decide +kernel
theorem dX1_payDebts_50 : decode cX1_payDebts 50 = .ok (.iload 5, 2) := by decide +kernel
theorem dX1_payDebts_52 : decode cX1_payDebts 52 = .ok (.laload, 1) := by decide +kernel
theorem dX1_payDebts_53 : decode cX1_payDebts 53 = .ok (.lsub, 1) := by decide +kernel
theorem dX1_payDebts_54 : decode cX1_payDebts 54 = .ok (.lstore_n 3, 1) := by decide +kernel
theorem dX1_payDebts_55 : decode cX1_payDebts 55 = .ok (.iinc 5 1, 3) := by decide +kernel
theorem dX1_payDebts_58 : decode cX1_payDebts 58 = .ok (.goto (-50), 3) := by decide +kernel
theorem dX1_payDebts_61 : decode cX1_payDebts 61 = .ok (.return_, 1) := by decide +kernel
theorem dX2_read_0 : decode cX2_read 0 = .ok (.aload_n 0, 1) := by decide +kernel
theorem dX2_read_1 : decode cX2_read 1 = .ok (.aload_n 1, 1) := by decide +kernel
theorem dX2_read_2 : decode cX2_read 2 = .ok (.putfield 15, 3) := by decide +kernel
theorem dX2_read_5 : decode cX2_read 5 = .ok (.aload_n 0, 1) := by decide +kernel
theorem dX2_read_6 : decode cX2_read 6 = .ok (.getfield 15, 3) := by decide +kernel
theorem dX2_read_9 : decode cX2_read 9 = .ok (.invokevirtual 19, 3) := by decide +kernel
theorem dX2_read_12 : decode cX2_read 12 = .ok (.aload_n 0, 1) := by decide +kernel
theorem dX2_read_13 : decode cX2_read 13 = .ok (.iconst 0, 1) := by decide +kernel
theorem dX2_read_14 : decode cX2_read 14 = .ok (.putfield 24, 3) := by decide +kernel
theorem dX2_read_17 : decode cX2_read 17 = .ok (.aload_n 0, 1) := by decide +kernel
theorem dX2_read_18 : decode cX2_read 18 = .ok (.invokevirtual 28, 3) := by decide +kernel
theorem dX2_read_21 : decode cX2_read 21 = .ok (.aload_n 0, 1) := by decide +kernel
theorem dX2_read_22 : decode cX2_read 22 = .ok (.getfield 31, 3) := by decide +kernel
theorem dX2_read_25 : decode cX2_read 25 = .ok (.ifCond .ne 5, 3) := by decide +kernel
theorem dX2_read_28 : decode cX2_read 28 = .ok (.iconst (-1), 1) := by decide +kernel
theorem dX2_read_29 : decode cX2_read 29 = .ok (.ireturn, 1) := by decide +kernel
theorem dX2_read_30 : decode cX2_read 30 = .ok (.iconst 0, 1) := by decide +kernel
theorem dX2_read_31 : decode cX2_read 31 = .ok (.istore_n 2, 1) := by decide +kernel
theorem dX2_read_32 : decode cX2_read 32 = .ok (.iload_n 2, 1) := by decide +kernel
theorem dX2_read_33 : decode cX2_read 33 = .ok (.bipush 20, 2) := by decide +kernel
theorem dX2_read_35 : decode cX2_read 35 = .ok (.if_icmp .ge 59, 3) := by decide +kernel
theorem dX2_read_38 : decode cX2_read 38 = .ok (.aload_n 0, 1) := by decide +kernel
theorem dX2_read_39 : decode cX2_read 39 = .ok (.invokevirtual 34, 3) := by decide +kernel
theorem dX2_read_42 : decode cX2_read 42 = .ok (.ifCond .ne 8, 3) := by decide +kernel
theorem dX2_read_45 : decode cX2_read 45 = .ok (.aload_n 0, 1) := by decide +kernel
theorem dX2_read_46 : decode cX2_read 46 = .ok (.getfield 38, 3) := by decide +kernel
theorem dX2_read_49 : decode cX2_read 49 = .ok (.ireturn, 1) := by decide +kernel
theorem dX2_read_50 : decode cX2_read 50 = .ok (.aload_n 0, 1) := by decide +kernel
theorem dX2_read_51 : decode cX2_read 51 = .ok (.getfield 15, 3) := by decide +kernel
theorem dX2_read_54 : decode cX2_read 54 = .ok (.dup, 1) := by decide +kernel
theorem dX2_read_55 : decode cX2_read 55 = .ok (.getfield 41, 3) := by decide +kernel
theorem dX2_read_58 : decode cX2_read 58 = .ok (.iconst 1, 1) := by decide +kernel
theorem dX2_read_59 : decode cX2_read 59 = .ok (.iadd, 1) := by decide +kernel
theorem dX2_read_60 : decode cX2_read 60 = .ok (.putfield 41, 3) := by decide +kernel
theorem dX2_read_63 : decode cX2_read 63 = .ok (.aload_n 0, 1) := by decide +kernel
theorem dX2_read_64 : decode cX2_read 64 = .ok (.getfield 31, 3) := by decide +kernel
theorem dX2_read_67 : decode cX2_read 67 = .ok (.ifCond .ne 5, 3) := by decide +kernel
theorem dX2_read_70 : decode cX2_read 70 = .ok (.iconst (-1), 1) := by decide +kernel
theorem dX2_read_71 : decode cX2_read 71 = .ok (.ireturn, 1) := by decide +kernel
theorem dX2_read_72 : decode cX2_read 72 = .ok (.aload_n 0, 1) := by decide +kernel
theorem dX2_read_73 : decode cX2_read 73 = .ok (.invokevirtual 44, 3) := by decide +kernel
theorem dX2_read_76 : decode cX2_read 76 = .ok (.ifCond .ne 8, 3) := by decide +kernel
theorem dX2_read_79 : decode cX2_read 79 = .ok (.aload_n 0, 1) := by decide +kernel
theorem dX2_read_80 : decode cX2_read 80 = .ok (.getfield 38, 3) := by decide +kernel
theorem dX2_read_83 : decode cX2_read 83 = .ok (.ireturn, 1) := by decide +kernel
theorem dX2_read_84 : decode cX2_read 84 = .ok (.aload_n 0, 1) := by decide +kernel
theorem dX2_read_85 : decode cX2_read 85 = .ok (.invokevirtual 28, 3) := by decide +kernel
theorem dX2_read_88 : decode cX2_read 88 = .ok (.iinc 2 1, 3) := by decide +kernel
theorem dX2_read_91 : decode cX2_read 91 = .ok (.goto (-59), 3) := by decide +kernel
theorem dX2_read_94 : decode cX2_read 94 = .ok (.aload_n 0, 1) := by decide +kernel
theorem dX2_read_95 : decode cX2_read 95 = .ok (.getfield 38, 3) := by decide +kernel
theorem dX2_read_98 : decode cX2_read 98 = .ok (.ireturn, 1) := by decide +kernel
theorem dX2_readClause_0 : decode cX2_readClause 0 = .ok (.aload_n 0, 1) := by decide +kernel
theorem dX2_readClause_1 : decode cX2_readClause 1 = .ok (.ldc 47, 2) := by decide +kernel
theorem dX2_readClause_3 : decode cX2_readClause 3 = .ok (.invokevirtual 49, 3) := by decide +kernel
theorem dX2_readClause_6 : decode cX2_readClause 6 = .ok (.ifCond .eq 8, 3) := by decide +kernel
theorem dX2_readClause_9 : decode cX2_readClause 9 = .ok (.aload_n 0, 1) := by decide +kernel
theorem dX2_readClause_10 : decode cX2_readClause 10 = .ok (.invokevirtual 53, 3) := by decide +kernel
theorem dX2_readClause_13 : decode cX2_readClause 13 = .ok (.ireturn, 1) := by decide +kernel
theorem dX2_readClause_14 : decode cX2_readClause 14 = .ok (.aload_n 0, 1) := by decide +kernel
theorem dX2_readClause_15 : decode cX2_readClause 15 = .ok (.ldc 56, 2) := by decide +kernel
theorem dX2_readClause_17 : decode cX2_readClause 17 = .ok (.invokevirtual 49, 3) := by decide +kernel
theorem dX2_readClause_20 : decode cX2_readClause 20 = .ok (.ifCond .eq 8, 3) := by decide +kernel
theorem dX2_readClause_23 : decode cX2_readClause 23 = .ok (.aload_n 0, 1) := by decide +kernel
theorem dX2_readClause_24 : decode cX2_readClause 24 = .ok (.invokevirtual 58, 3) := by decide +kernel
theorem dX2_readClause_27 : decode cX2_readClause 27 = .ok (.ireturn, 1) := by decide +kernel
theorem dX2_readClause_28 : decode cX2_readClause 28 = .ok (.aload_n 0, 1) := by decide +kernel
theorem dX2_readClause_29 : decode cX2_readClause 29 = .ok (.ldc 61, 2) := by decide +kernel
theorem dX2_readClause_31 : decode cX2_readClause 31 = .ok (.invokevirtual 49, 3) := by decide +kernel
theorem dX2_readClause_34 : decode cX2_readClause 34 = .ok (.ifCond .eq 9, 3) := by decide +kernel
theorem dX2_readClause_37 : decode cX2_readClause 37 = .ok (.aload_n 0, 1) := by decide +kernel
theorem dX2_readClause_38 : decode cX2_readClause 38 = .ok (.iconst 0, 1) := by decide +kernel
theorem dX2_readClause_39 : decode cX2_readClause 39 = .ok (.invokevirtual 63, 3) := by decide +kernel
theorem dX2_readClause_42 : decode cX2_readClause 42 = .ok (.ireturn, 1) := by decide +kernel
theorem dX2_readClause_43 : decode cX2_readClause 43 = .ok (.aload_n 0, 1) := by decide +kernel
theorem dX2_readClause_44 : decode cX2_readClause 44 = .ok (.ldc 67, 2) := by decide +kernel
theorem dX2_readClause_46 : decode cX2_readClause 46 = .ok (.invokevirtual 49, 3) := by decide +kernel
theorem dX2_readClause_49 : decode cX2_readClause 49 = .ok (.ifCond .eq 9, 3) := by decide +kernel
theorem dX2_readClause_52 : decode cX2_readClause 52 = .ok (.aload_n 0, 1) := by decide +kernel
theorem dX2_readClause_53 : decode cX2_readClause 53 = .ok (.iconst 1, 1) := by decide +kernel
theorem dX2_readClause_54 : decode cX2_readClause 54 = .ok (.invokevirtual 63, 3) := by decide +kernel
theorem dX2_readClause_57 : decode cX2_readClause 57 = .ok (.ireturn, 1) := by decide +kernel
theorem dX2_readClause_58 : decode cX2_readClause 58 = .ok (.aload_n 0, 1) := by decide +kernel
theorem dX2_readClause_59 : decode cX2_readClause 59 = .ok (.ldc 69, 2) := by decide +kernel
theorem dX2_readClause_61 : decode cX2_readClause 61 = .ok (.invokevirtual 49, 3) := by decide +kernel
theorem dX2_readClause_64 : decode cX2_readClause 64 = .ok (.ifCond .eq 9, 3) := by decide +kernel
theorem dX2_readClause_67 : decode cX2_readClause 67 = .ok (.aload_n 0, 1) := by decide +kernel
theorem dX2_readClause_68 : decode cX2_readClause 68 = .ok (.iconst 2, 1) := by decide +kernel
theorem dX2_readClause_69 : decode cX2_readClause 69 = .ok (.invokevirtual 63, 3) := by decide +kernel
theorem dX2_readClause_72 : decode cX2_readClause 72 = .ok (.ireturn, 1) := by decide +kernel
theorem dX2_readClause_73 : decode cX2_readClause 73 = .ok (.aload_n 0, 1) := by decide +kernel
theorem dX2_readClause_74 : decode cX2_readClause 74 = .ok (.ldc 71, 2) := by decide +kernel
theorem dX2_readClause_76 : decode cX2_readClause 76 = .ok (.invokevirtual 49, 3) := by decide +kernel
theorem dX2_readClause_79 : decode cX2_readClause 79 = .ok (.ifCond .eq 9, 3) := by decide +kernel
theorem dX2_readClause_82 : decode cX2_readClause 82 = .ok (.aload_n 0, 1) := by decide +kernel
theorem dX2_readClause_83 : decode cX2_readClause 83 = .ok (.iconst 3, 1) := by decide +kernel
theorem dX2_readClause_84 : decode cX2_readClause 84 = .ok (.invokevirtual 63, 3) := by decide +kernel
theorem dX2_readClause_87 : decode cX2_readClause 87 = .ok (.ireturn, 1) := by decide +kernel
theorem dX2_readClause_88 : decode cX2_readClause 88 = .ok (.iconst 0, 1) := by decide +kernel
theorem dX2_readClause_89 : decode cX2_readClause 89 = .ok (.ireturn, 1) := by decide +kernel
theorem dX2_readPrice_0 : decode cX2_readPrice 0 = .ok (.aload_n 0, 1) := by decide +kernel
theorem dX2_readPrice_1 : decode cX2_readPrice 1 = .ok (.invokevirtual 28, 3) := by decide +kernel
theorem dX2_readPrice_4 : decode cX2_readPrice 4 = .ok (.aload_n 0, 1) := by decide +kernel
theorem dX2_readPrice_5 : decode cX2_readPrice 5 = .ok (.invokevirtual 73, 3) := by decide +kernel
theorem dX2_readPrice_8 : decode cX2_readPrice 8 = .ok (.istore_n 1, 1) := by decide +kernel
theorem dX2_readPrice_9 : decode cX2_readPrice 9 = .ok (.iload_n 1, 1) := by decide +kernel
theorem dX2_readPrice_10 : decode cX2_readPrice 10 = .ok (.iconst 0, 1) := by decide +kernel
theorem dX2_readPrice_11 : decode cX2_readPrice 11 = .ok (.iconst 4, 1) := by decide +kernel
theorem dX2_readPrice_12 : decode cX2_readPrice 12 = .ok (.invokestatic 77, 3) := by decide +kernel
theorem dX2_readPrice_15 : decode cX2_readPrice 15 = .ok (.ifCond .eq 5, 3) := by decide +kernel
theorem dX2_readPrice_18 : decode cX2_readPrice 18 = .ok (.iconst 0, 1) := by decide +kernel
theorem dX2_readPrice_19 : decode cX2_readPrice 19 = .ok (.ireturn, 1) := by decide +kernel
theorem dX2_readPrice_20 : decode cX2_readPrice 20 = .ok (.aload_n 0, 1) := by decide +kernel
theorem dX2_readPrice_21 : decode cX2_readPrice 21 = .ok (.invokevirtual 28, 3) := by decide +kernel
theorem dX2_readPrice_24 : decode cX2_readPrice 24 = .ok (.aload_n 0, 1) := by decide +kernel
theorem dX2_readPrice_25 : decode cX2_readPrice 25 = .ok (.invokevirtual 73, 3) := by decide +kernel
theorem dX2_readPrice_28 : decode cX2_readPrice 28 = .ok (.istore_n 2, 1) := by decide +kernel
theorem dX2_readPrice_29 : decode cX2_readPrice 29 = .ok (.iload_n 2, 1) := by decide +kernel
theorem dX2_readPrice_30 : decode cX2_readPrice 30 = .ok (.iconst 0, 1) := by decide +kernel
theorem dX2_readPrice_31 : decode cX2_readPrice 31 = .ok (.sipush 10000, 3) := by decide +kernel
theorem dX2_readPrice_34 : decode cX2_readPrice 34 = .ok (.invokestatic 77, 3) := by decide +kernel
theorem dX2_readPrice_37 : decode cX2_readPrice 37 = .ok (.ifCond .eq 5, 3) := by decide +kernel
theorem dX2_readPrice_40 : decode cX2_readPrice 40 = .ok (.iconst 0, 1) := by decide +kernel
theorem dX2_readPrice_41 : decode cX2_readPrice 41 = .ok (.ireturn, 1) := by decide +kernel
theorem dX2_readPrice_42 : decode cX2_readPrice 42 = .ok (.aload_n 0, 1) := by decide +kernel
theorem dX2_readPrice_43 : decode cX2_readPrice 43 = .ok (.getfield 15, 3) := by decide +kernel
theorem dX2_readPrice_46 : decode cX2_readPrice 46 = .ok (.getfield 81, 3) := by decide +kernel
theorem dX2_readPrice_49 : decode cX2_readPrice 49 = .ok (.iload_n 1, 1) := by decide +kernel
theorem dX2_readPrice_50 : decode cX2_readPrice 50 = .ok (.iload_n 2, 1) := by decide +kernel
theorem dX2_readPrice_51 : decode cX2_readPrice 51 = .ok (.iastore, 1) := by decide +kernel
theorem dX2_readPrice_52 : decode cX2_readPrice 52 = .ok (.aload_n 0, 1) := by decide +kernel
theorem dX2_readPrice_53 : decode cX2_readPrice 53 = .ok (.invokevirtual 28, 3) := by decide +kernel
theorem dX2_readPrice_56 : decode cX2_readPrice 56 = .ok (.iconst 1, 1) := by decide +kernel
theorem dX2_readPrice_57 : decode cX2_readPrice 57 = .ok (.ireturn, 1) := by decide +kernel
theorem dX2_readQuota_0 : decode cX2_readQuota 0 = .ok (.aload_n 0, 1) := by decide +kernel
theorem dX2_readQuota_1 : decode cX2_readQuota 1 = .ok (.invokevirtual 28, 3) := by decide +kernel
theorem dX2_readQuota_4 : decode cX2_readQuota 4 = .ok (.aload_n 0, 1) := by decide +kernel
theorem dX2_readQuota_5 : decode cX2_readQuota 5 = .ok (.invokevirtual 73, 3) := by decide +kernel
theorem dX2_readQuota_8 : decode cX2_readQuota 8 = .ok (.istore_n 1, 1) := by decide +kernel
theorem dX2_readQuota_9 : decode cX2_readQuota 9 = .ok (.iload_n 1, 1) := by decide +kernel
theorem dX2_readQuota_10 : decode cX2_readQuota 10 = .ok (.iconst 0, 1) := by decide +kernel
theorem dX2_readQuota_11 : decode cX2_readQuota 11 = .ok (.sipush 10000, 3) := by decide +kernel
theorem dX2_readQuota_14 : decode cX2_readQuota 14 = .ok (.invokestatic 77, 3) := by decide +kernel
theorem dX2_readQuota_17 : decode cX2_readQuota 17 = .ok (.ifCond .eq 5, 3) := by decide +kernel
theorem dX2_readQuota_20 : decode cX2_readQuota 20 = .ok (.iconst 0, 1) := by decide +kernel
theorem dX2_readQuota_21 : decode cX2_readQuota 21 = .ok (.ireturn, 1) := by decide +kernel
theorem dX2_readQuota_22 : decode cX2_readQuota 22 = .ok (.aload_n 0, 1) := by decide +kernel
theorem dX2_readQuota_23 : decode cX2_readQuota 23 = .ok (.getfield 15, 3) := by decide +kernel
theorem dX2_readQuota_26 : decode cX2_readQuota 26 = .ok (.iload_n 1, 1) := by decide +kernel
theorem dX2_readQuota_27 : decode cX2_readQuota 27 = .ok (.putfield 84, 3) := by decide +kernel
theorem dX2_readQuota_30 : decode cX2_readQuota 30 = .ok (.aload_n 0, 1) := by decide +kernel
theorem dX2_readQuota_31 : decode cX2_readQuota 31 = .ok (.invokevirtual 28, 3) := by decide +kernel
theorem dX2_readQuota_34 : decode cX2_readQuota 34 = .ok (.iconst 1, 1) := by decide +kernel
theorem dX2_readQuota_35 : decode cX2_readQuota 35 = .ok (.ireturn, 1) := by decide +kernel
theorem dX2_readShare_0 : decode cX2_readShare 0 = .ok (.aload_n 0, 1) := by decide +kernel
theorem dX2_readShare_1 : decode cX2_readShare 1 = .ok (.invokevirtual 28, 3) := by decide +kernel
theorem dX2_readShare_4 : decode cX2_readShare 4 = .ok (.aload_n 0, 1) := by decide +kernel
theorem dX2_readShare_5 : decode cX2_readShare 5 = .ok (.invokevirtual 73, 3) := by decide +kernel
theorem dX2_readShare_8 : decode cX2_readShare 8 = .ok (.istore_n 2, 1) := by decide +kernel
theorem dX2_readShare_9 : decode cX2_readShare 9 = .ok (.iload_n 2, 1) := by decide +kernel
theorem dX2_readShare_10 : decode cX2_readShare 10 = .ok (.iconst 0, 1) := by decide +kernel
theorem dX2_readShare_11 : decode cX2_readShare 11 = .ok (.sipush 10000, 3) := by decide +kernel
theorem dX2_readShare_14 : decode cX2_readShare 14 = .ok (.invokestatic 77, 3) := by decide +kernel
theorem dX2_readShare_17 : decode cX2_readShare 17 = .ok (.ifCond .eq 5, 3) := by decide +kernel
theorem dX2_readShare_20 : decode cX2_readShare 20 = .ok (.iconst 0, 1) := by decide +kernel
theorem dX2_readShare_21 : decode cX2_readShare 21 = .ok (.ireturn, 1) := by decide +kernel
theorem dX2_readShare_22 : decode cX2_readShare 22 = .ok (.aload_n 0, 1) := by decide +kernel
theorem dX2_readShare_23 : decode cX2_readShare 23 = .ok (.invokevirtual 28, 3) := by decide +kernel
theorem dX2_readShare_26 : decode cX2_readShare 26 = .ok (.aload_n 0, 1) := by decide +kernel
theorem dX2_readShare_27 : decode cX2_readShare 27 = .ok (.ldc 86, 2) := by decide +kernel
theorem dX2_readShare_29 : decode cX2_readShare 29 = .ok (.invokevirtual 49, 3) := by decide +kernel
theorem dX2_readShare_32 : decode cX2_readShare 32 = .ok (.ifCond .ne 5, 3) := by decide +kernel
theorem dX2_readShare_35 : decode cX2_readShare 35 = .ok (.iconst 0, 1) := by decide +kernel
theorem dX2_readShare_36 : decode cX2_readShare 36 = .ok (.ireturn, 1) := by decide +kernel
theorem dX2_readShare_37 : decode cX2_readShare 37 = .ok (.aload_n 0, 1) := by decide +kernel
theorem dX2_readShare_38 : decode cX2_readShare 38 = .ok (.invokevirtual 28, 3) := by decide +kernel
theorem dX2_readShare_41 : decode cX2_readShare 41 = .ok (.aload_n 0, 1) := by decide +kernel
theorem dX2_readShare_42 : decode cX2_readShare 42 = .ok (.invokevirtual 73, 3) := by decide +kernel
theorem dX2_readShare_45 : decode cX2_readShare 45 = .ok (.istore_n 3, 1) := by decide +kernel
theorem dX2_readShare_46 : decode cX2_readShare 46 = .ok (.iload_n 3, 1) := by decide +kernel
theorem dX2_readShare_47 : decode cX2_readShare 47 = .ok (.iconst 1, 1) := by decide +kernel
theorem dX2_readShare_48 : decode cX2_readShare 48 = .ok (.iload_n 2, 1) := by decide +kernel
theorem dX2_readShare_49 : decode cX2_readShare 49 = .ok (.invokestatic 88, 3) := by decide +kernel
theorem dX2_readShare_52 : decode cX2_readShare 52 = .ok (.sipush 10000, 3) := by decide +kernel
theorem dX2_readShare_55 : decode cX2_readShare 55 = .ok (.invokestatic 77, 3) := by decide +kernel
theorem dX2_readShare_58 : decode cX2_readShare 58 = .ok (.ifCond .eq 5, 3) := by decide +kernel
theorem dX2_readShare_61 : decode cX2_readShare 61 = .ok (.iconst 0, 1) := by decide +kernel
theorem dX2_readShare_62 : decode cX2_readShare 62 = .ok (.ireturn, 1) := by decide +kernel
theorem dX2_readShare_63 : decode cX2_readShare 63 = .ok (.aload_n 0, 1) := by decide +kernel
theorem dX2_readShare_64 : decode cX2_readShare 64 = .ok (.getfield 15, 3) := by decide +kernel
theorem dX2_readShare_67 : decode cX2_readShare 67 = .ok (.iload_n 1, 1) := by decide +kernel
theorem dX2_readShare_68 : decode cX2_readShare 68 = .ok (.iload_n 2, 1) := by decide +kernel
theorem dX2_readShare_69 : decode cX2_readShare 69 = .ok (.iload_n 3, 1) := by decide +kernel
theorem dX2_readShare_70 : decode cX2_readShare 70 = .ok (.invokevirtual 94, 3) := by decide +kernel
theorem dX2_readShare_73 : decode cX2_readShare 73 = .ok (.aload_n 0, 1) := by decide +kernel
theorem dX2_readShare_74 : decode cX2_readShare 74 = .ok (.invokevirtual 28, 3) := by decide +kernel
theorem dX2_readShare_77 : decode cX2_readShare 77 = .ok (.iconst 1, 1) := by decide +kernel
theorem dX2_readShare_78 : decode cX2_readShare 78 = .ok (.ireturn, 1) := by decide +kernel
theorem dX2_next_0 : decode cX2_next 0 = .ok (.aload_n 0, 1) := by decide +kernel
theorem dX2_next_1 : decode cX2_next 1 = .ok (.aload_n 0, 1) := by decide +kernel
theorem dX2_next_2 : decode cX2_next 2 = .ok (.getfield 24, 3) := by decide +kernel
theorem dX2_next_5 : decode cX2_next 5 = .ok (.putfield 38, 3) := by decide +kernel
theorem dX2_next_8 : decode cX2_next 8 = .ok (.aload_n 0, 1) := by decide +kernel
theorem dX2_next_9 : decode cX2_next 9 = .ok (.getfield 38, 3) := by decide +kernel
theorem dX2_next_12 : decode cX2_next 12 = .ok (.aload_n 0, 1) := by decide +kernel
theorem dX2_next_13 : decode cX2_next 13 = .ok (.getfield 9, 3) := by decide +kernel
theorem dX2_next_16 : decode cX2_next 16 = .ok (.getfield 98, 3) := by decide +kernel
theorem dX2_next_19 : decode cX2_next 19 = .ok (.if_icmp .ge 33, 3) := by decide +kernel
theorem dX2_next_22 : decode cX2_next 22 = .ok (.aload_n 0, 1) := by decide +kernel
theorem dX2_next_23 : decode cX2_next 23 = .ok (.getfield 9, 3) := by decide +kernel
theorem dX2_next_26 : decode cX2_next 26 = .ok (.getfield 103, 3) := by decide +kernel
theorem dX2_next_29 : decode cX2_next 29 = .ok (.aload_n 0, 1) := by decide +kernel
theorem dX2_next_30 : decode cX2_next 30 = .ok (.getfield 38, 3) := by decide +kernel
theorem dX2_next_33 : decode cX2_next 33 = .ok (.iaload, 1) := by decide +kernel
theorem dX2_next_34 : decode cX2_next 34 = .ok (.bipush 32, 2) := by decide +kernel
theorem dX2_next_36 : decode cX2_next 36 = .ok (.if_icmp .ne 16, 3) := by decide +kernel
theorem dX2_next_39 : decode cX2_next 39 = .ok (.aload_n 0, 1) := by decide +kernel
theorem dX2_next_40 : decode cX2_next 40 = .ok (.dup, 1) := by decide +kernel
theorem dX2_next_41 : decode cX2_next 41 = .ok (.getfield 38, 3) := by decide +kernel
theorem dX2_next_44 : decode cX2_next 44 = .ok (.iconst 1, 1) := by decide +kernel
theorem dX2_next_45 : decode cX2_next 45 = .ok (.iadd, 1) := by decide +kernel
theorem dX2_next_46 : decode cX2_next 46 = .ok (.putfield 38, 3) := by decide +kernel
theorem dX2_next_49 : decode cX2_next 49 = .ok (.goto (-41), 3) := by decide +kernel
theorem dX2_next_52 : decode cX2_next 52 = .ok (.aload_n 0, 1) := by decide +kernel
theorem dX2_next_53 : decode cX2_next 53 = .ok (.aload_n 0, 1) := by decide +kernel
theorem dX2_next_54 : decode cX2_next 54 = .ok (.aload_n 0, 1) := by decide +kernel
theorem dX2_next_55 : decode cX2_next 55 = .ok (.getfield 38, 3) := by decide +kernel
theorem dX2_next_58 : decode cX2_next 58 = .ok (.invokevirtual 106, 3) := by decide +kernel
theorem dX2_next_61 : decode cX2_next 61 = .ok (.putfield 31, 3) := by decide +kernel
theorem dX2_next_64 : decode cX2_next 64 = .ok (.aload_n 0, 1) := by decide +kernel
theorem dX2_next_65 : decode cX2_next 65 = .ok (.aload_n 0, 1) := by decide +kernel
theorem dX2_next_66 : decode cX2_next 66 = .ok (.getfield 38, 3) := by decide +kernel
theorem dX2_next_69 : decode cX2_next 69 = .ok (.putfield 24, 3) := by decide +kernel
theorem dX2_next_72 : decode cX2_next 72 = .ok (.aload_n 0, 1) := by decide +kernel
theorem dX2_next_73 : decode cX2_next 73 = .ok (.getfield 31, 3) := by decide +kernel
theorem dX2_next_76 : decode cX2_next 76 = .ok (.iconst 3, 1) := by decide +kernel
theorem dX2_next_77 : decode cX2_next 77 = .ok (.if_icmp .ne 13, 3) := by decide +kernel
theorem dX2_next_80 : decode cX2_next 80 = .ok (.aload_n 0, 1) := by decide +kernel
theorem dX2_next_81 : decode cX2_next 81 = .ok (.dup, 1) := by decide +kernel
theorem dX2_next_82 : decode cX2_next 82 = .ok (.getfield 24, 3) := by decide +kernel
theorem dX2_next_85 : decode cX2_next 85 = .ok (.iconst 1, 1) := by decide +kernel
theorem dX2_next_86 : decode cX2_next 86 = .ok (.iadd, 1) := by decide +kernel
theorem dX2_next_87 : decode cX2_next 87 = .ok (.putfield 24, 3) := by decide +kernel
theorem dX2_next_90 : decode cX2_next 90 = .ok (.aload_n 0, 1) := by decide +kernel
theorem dX2_next_91 : decode cX2_next 91 = .ok (.getfield 31, 3) := by decide +kernel
theorem dX2_next_94 : decode cX2_next 94 = .ok (.iconst 1, 1) := by decide +kernel
theorem dX2_next_95 : decode cX2_next 95 = .ok (.if_icmp .eq 11, 3) := by decide +kernel
theorem dX2_next_98 : decode cX2_next 98 = .ok (.aload_n 0, 1) := by decide +kernel
theorem dX2_next_99 : decode cX2_next 99 = .ok (.getfield 31, 3) := by decide +kernel
theorem dX2_next_102 : decode cX2_next 102 = .ok (.iconst 2, 1) := by decide +kernel
theorem dX2_next_103 : decode cX2_next 103 = .ok (.if_icmp .ne 45, 3) := by decide +kernel
theorem dX2_next_106 : decode cX2_next 106 = .ok (.aload_n 0, 1) := by decide +kernel
theorem dX2_next_107 : decode cX2_next 107 = .ok (.getfield 24, 3) := by decide +kernel
theorem dX2_next_110 : decode cX2_next 110 = .ok (.aload_n 0, 1) := by decide +kernel
theorem dX2_next_111 : decode cX2_next 111 = .ok (.getfield 9, 3) := by decide +kernel
theorem dX2_next_114 : decode cX2_next 114 = .ok (.getfield 98, 3) := by decide +kernel
theorem dX2_next_117 : decode cX2_next 117 = .ok (.if_icmp .ge 31, 3) := by decide +kernel
theorem dX2_next_120 : decode cX2_next 120 = .ok (.aload_n 0, 1) := by decide +kernel
theorem dX2_next_121 : decode cX2_next 121 = .ok (.aload_n 0, 1) := by decide +kernel
theorem dX2_next_122 : decode cX2_next 122 = .ok (.getfield 24, 3) := by decide +kernel
theorem dX2_next_125 : decode cX2_next 125 = .ok (.invokevirtual 106, 3) := by decide +kernel
theorem dX2_next_128 : decode cX2_next 128 = .ok (.aload_n 0, 1) := by decide +kernel
theorem dX2_next_129 : decode cX2_next 129 = .ok (.getfield 31, 3) := by decide +kernel
theorem dX2_next_132 : decode cX2_next 132 = .ok (.if_icmp .ne 16, 3) := by decide +kernel
theorem dX2_next_135 : decode cX2_next 135 = .ok (.aload_n 0, 1) := by decide +kernel
theorem dX2_next_136 : decode cX2_next 136 = .ok (.dup, 1) := by decide +kernel
theorem dX2_next_137 : decode cX2_next 137 = .ok (.getfield 24, 3) := by decide +kernel
theorem dX2_next_140 : decode cX2_next 140 = .ok (.iconst 1, 1) := by decide +kernel
theorem dX2_next_141 : decode cX2_next 141 = .ok (.iadd, 1) := by decide +kernel
theorem dX2_next_142 : decode cX2_next 142 = .ok (.putfield 24, 3) := by decide +kernel
theorem dX2_next_145 : decode cX2_next 145 = .ok (.goto (-39), 3) := by decide +kernel
theorem dX2_next_148 : decode cX2_next 148 = .ok (.return_, 1) := by decide +kernel
theorem dX2_kindAt_0 : decode cX2_kindAt 0 = .ok (.iload_n 1, 1) := by decide +kernel
theorem dX2_kindAt_1 : decode cX2_kindAt 1 = .ok (.aload_n 0, 1) := by decide +kernel
theorem dX2_kindAt_2 : decode cX2_kindAt 2 = .ok (.getfield 9, 3) := by decide +kernel
theorem dX2_kindAt_5 : decode cX2_kindAt 5 = .ok (.getfield 98, 3) := by decide +kernel
theorem dX2_kindAt_8 : decode cX2_kindAt 8 = .ok (.if_icmp .lt 5, 3) := by decide +kernel
theorem dX2_kindAt_11 : decode cX2_kindAt 11 = .ok (.iconst 0, 1) := by decide +kernel
theorem dX2_kindAt_12 : decode cX2_kindAt 12 = .ok (.ireturn, 1) := by decide +kernel
theorem dX2_kindAt_13 : decode cX2_kindAt 13 = .ok (.aload_n 0, 1) := by decide +kernel
theorem dX2_kindAt_14 : decode cX2_kindAt 14 = .ok (.getfield 9, 3) := by decide +kernel
theorem dX2_kindAt_17 : decode cX2_kindAt 17 = .ok (.getfield 103, 3) := by decide +kernel
theorem dX2_kindAt_20 : decode cX2_kindAt 20 = .ok (.iload_n 1, 1) := by decide +kernel
theorem dX2_kindAt_21 : decode cX2_kindAt 21 = .ok (.iaload, 1) := by decide +kernel
theorem dX2_kindAt_22 : decode cX2_kindAt 22 = .ok (.istore_n 2, 1) := by decide +kernel
theorem dX2_kindAt_23 : decode cX2_kindAt 23 = .ok (.iload_n 2, 1) := by decide +kernel
theorem dX2_kindAt_24 : decode cX2_kindAt 24 = .ok (.bipush 97, 2) := by decide +kernel
theorem dX2_kindAt_26 : decode cX2_kindAt 26 = .ok (.if_icmp .lt 11, 3) := by decide +kernel
theorem dX2_kindAt_29 : decode cX2_kindAt 29 = .ok (.iload_n 2, 1) := by decide +kernel
theorem dX2_kindAt_30 : decode cX2_kindAt 30 = .ok (.bipush 122, 2) := by decide +kernel
theorem dX2_kindAt_32 : decode cX2_kindAt 32 = .ok (.if_icmp .gt 5, 3) := by decide +kernel
theorem dX2_kindAt_35 : decode cX2_kindAt 35 = .ok (.iconst 1, 1) := by decide +kernel
theorem dX2_kindAt_36 : decode cX2_kindAt 36 = .ok (.ireturn, 1) := by decide +kernel
theorem dX2_kindAt_37 : decode cX2_kindAt 37 = .ok (.iload_n 2, 1) := by decide +kernel
theorem dX2_kindAt_38 : decode cX2_kindAt 38 = .ok (.bipush 48, 2) := by decide +kernel
theorem dX2_kindAt_40 : decode cX2_kindAt 40 = .ok (.if_icmp .lt 13, 3) := by decide +kernel
theorem dX2_kindAt_43 : decode cX2_kindAt 43 = .ok (.iload_n 2, 1) := by decide +kernel
theorem dX2_kindAt_44 : decode cX2_kindAt 44 = .ok (.bipush 57, 2) := by decide +kernel
theorem dX2_kindAt_46 : decode cX2_kindAt 46 = .ok (.if_icmp .gt 7, 3) := by decide +kernel
theorem dX2_kindAt_49 : decode cX2_kindAt 49 = .ok (.iconst 2, 1) := by decide +kernel
theorem dX2_kindAt_50 : decode cX2_kindAt 50 = .ok (.goto 4, 3) := by decide +kernel
theorem dX2_kindAt_53 : decode cX2_kindAt 53 = .ok (.iconst 3, 1) := by decide +kernel
theorem dX2_kindAt_54 : decode cX2_kindAt 54 = .ok (.ireturn, 1) := by decide +kernel
theorem dX2_isSemicolon_0 : decode cX2_isSemicolon 0 = .ok (.aload_n 0, 1) := by decide +kernel
theorem dX2_isSemicolon_1 : decode cX2_isSemicolon 1 = .ok (.getfield 31, 3) := by decide +kernel
theorem dX2_isSemicolon_4 : decode cX2_isSemicolon 4 = .ok (.iconst 3, 1) := by decide +kernel
theorem dX2_isSemicolon_5 : decode cX2_isSemicolon 5 = .ok (.if_icmp .ne 24, 3) := by decide +kernel
theorem dX2_isSemicolon_8 : decode cX2_isSemicolon 8 = .ok (.aload_n 0, 1) := by decide +kernel
theorem dX2_isSemicolon_9 : decode cX2_isSemicolon 9 = .ok (.getfield 9, 3) := by decide +kernel
theorem dX2_isSemicolon_12 : decode cX2_isSemicolon 12 = .ok (.getfield 103, 3) := by decide +kernel
theorem dX2_isSemicolon_15 : decode cX2_isSemicolon 15 = .ok (.aload_n 0, 1) := by decide +kernel
theorem dX2_isSemicolon_16 : decode cX2_isSemicolon 16 = .ok (.getfield 38, 3) := by decide +kernel
theorem dX2_isSemicolon_19 : decode cX2_isSemicolon 19 = .ok (.iaload, 1) := by decide +kernel
theorem dX2_isSemicolon_20 : decode cX2_isSemicolon 20 = .ok (.bipush 59, 2) := by decide +kernel
theorem dX2_isSemicolon_22 : decode cX2_isSemicolon 22 = .ok (.if_icmp .ne 7, 3) := by decide +kernel
theorem dX2_isSemicolon_25 : decode cX2_isSemicolon 25 = .ok (.iconst 1, 1) := by decide +kernel
theorem dX2_isSemicolon_26 : decode cX2_isSemicolon 26 = .ok (.goto 4, 3) := by decide +kernel
theorem dX2_isSemicolon_29 : decode cX2_isSemicolon 29 = .ok (.iconst 0, 1) := by decide +kernel
theorem dX2_isSemicolon_30 : decode cX2_isSemicolon 30 = .ok (.ireturn, 1) := by decide +kernel
theorem dX2_isWord_0 : decode cX2_isWord 0 = .ok (.aload_n 0, 1) := by decide +kernel
theorem dX2_isWord_1 : decode cX2_isWord 1 = .ok (.getfield 31, 3) := by decide +kernel
theorem dX2_isWord_4 : decode cX2_isWord 4 = .ok (.iconst 1, 1) := by decide +kernel
theorem dX2_isWord_5 : decode cX2_isWord 5 = .ok (.if_icmp .ne 19, 3) := by decide +kernel
theorem dX2_isWord_8 : decode cX2_isWord 8 = .ok (.aload_n 0, 1) := by decide +kernel
theorem dX2_isWord_9 : decode cX2_isWord 9 = .ok (.getfield 24, 3) := by decide +kernel
theorem dX2_isWord_12 : decode cX2_isWord 12 = .ok (.aload_n 0, 1) := by decide +kernel
theorem dX2_isWord_13 : decode cX2_isWord 13 = .ok (.getfield 38, 3) := by decide +kernel
theorem dX2_isWord_16 : decode cX2_isWord 16 = .ok (.isub, 1) := by decide +kernel
theorem dX2_isWord_17 : decode cX2_isWord 17 = .ok (.aload_n 1, 1) := by decide +kernel
theorem dX2_isWord_18 : decode cX2_isWord 18 = .ok (.invokevirtual 110, 3) := by decide +kernel
theorem dX2_isWord_21 : decode cX2_isWord 21 = .ok (.if_icmp .eq 5, 3) := by decide +kernel
theorem dX2_isWord_24 : decode cX2_isWord 24 = .ok (.iconst 0, 1) := by decide +kernel
theorem dX2_isWord_25 : decode cX2_isWord 25 = .ok (.ireturn, 1) := by decide +kernel
theorem dX2_isWord_26 : decode cX2_isWord 26 = .ok (.iconst 0, 1) := by decide +kernel
theorem dX2_isWord_27 : decode cX2_isWord 27 = .ok (.istore_n 2, 1) := by decide +kernel
theorem dX2_isWord_28 : decode cX2_isWord 28 = .ok (.iload_n 2, 1) := by decide +kernel
theorem dX2_isWord_29 : decode cX2_isWord 29 = .ok (.aload_n 1, 1) := by decide +kernel
theorem dX2_isWord_30 : decode cX2_isWord 30 = .ok (.invokevirtual 110, 3) := by decide +kernel
theorem dX2_isWord_33 : decode cX2_isWord 33 = .ok (.if_icmp .ge 33, 3) := by decide +kernel
theorem dX2_isWord_36 : decode cX2_isWord 36 = .ok (.aload_n 0, 1) := by decide +kernel
theorem dX2_isWord_37 : decode cX2_isWord 37 = .ok (.getfield 9, 3) := by decide +kernel
theorem dX2_isWord_40 : decode cX2_isWord 40 = .ok (.getfield 103, 3) := by decide +kernel
theorem dX2_isWord_43 : decode cX2_isWord 43 = .ok (.aload_n 0, 1) := by decide +kernel
theorem dX2_isWord_44 : decode cX2_isWord 44 = .ok (.getfield 38, 3) := by decide +kernel
theorem dX2_isWord_47 : decode cX2_isWord 47 = .ok (.iload_n 2, 1) := by decide +kernel
theorem dX2_isWord_48 : decode cX2_isWord 48 = .ok (.iadd, 1) := by decide +kernel
theorem dX2_isWord_49 : decode cX2_isWord 49 = .ok (.iaload, 1) := by decide +kernel
theorem dX2_isWord_50 : decode cX2_isWord 50 = .ok (.aload_n 1, 1) := by decide +kernel
theorem dX2_isWord_51 : decode cX2_isWord 51 = .ok (.iload_n 2, 1) := by decide +kernel
theorem dX2_isWord_52 : decode cX2_isWord 52 = .ok (.invokevirtual 114, 3) := by decide +kernel
theorem dX2_isWord_55 : decode cX2_isWord 55 = .ok (.if_icmp .eq 5, 3) := by decide +kernel
theorem dX2_isWord_58 : decode cX2_isWord 58 = .ok (.iconst 0, 1) := by decide +kernel
theorem dX2_isWord_59 : decode cX2_isWord 59 = .ok (.ireturn, 1) := by decide +kernel
theorem dX2_isWord_60 : decode cX2_isWord 60 = .ok (.iinc 2 1, 3) := by decide +kernel
theorem dX2_isWord_63 : decode cX2_isWord 63 = .ok (.goto (-35), 3) := by decide +kernel
theorem dX2_isWord_66 : decode cX2_isWord 66 = .ok (.iconst 1, 1) := by decide +kernel
theorem dX2_isWord_67 : decode cX2_isWord 67 = .ok (.ireturn, 1) := by decide +kernel
theorem dX2_number_0 : decode cX2_number 0 = .ok (.aload_n 0, 1) := by decide +kernel
theorem dX2_number_1 : decode cX2_number 1 = .ok (.getfield 31, 3) := by decide +kernel
theorem dX2_number_4 : decode cX2_number 4 = .ok (.iconst 2, 1) := by decide +kernel
theorem dX2_number_5 : decode cX2_number 5 = .ok (.if_icmp .eq 5, 3) := by decide +kernel
theorem dX2_number_8 : decode cX2_number 8 = .ok (.iconst (-1), 1) := by decide +kernel
theorem dX2_number_9 : decode cX2_number 9 = .ok (.ireturn, 1) := by decide +kernel
theorem dX2_number_10 : decode cX2_number 10 = .ok (.iconst 0, 1) := by decide +kernel
theorem dX2_number_11 : decode cX2_number 11 = .ok (.istore_n 1, 1) := by decide +kernel
theorem dX2_number_12 : decode cX2_number 12 = .ok (.aload_n 0, 1) := by decide +kernel
theorem dX2_number_13 : decode cX2_number 13 = .ok (.getfield 38, 3) := by decide +kernel
theorem dX2_number_16 : decode cX2_number 16 = .ok (.istore_n 2, 1) := by decide +kernel
theorem dX2_number_17 : decode cX2_number 17 = .ok (.iload_n 2, 1) := by decide +kernel
theorem dX2_number_18 : decode cX2_number 18 = .ok (.aload_n 0, 1) := by decide +kernel
theorem dX2_number_19 : decode cX2_number 19 = .ok (.getfield 24, 3) := by decide +kernel
theorem dX2_number_22 : decode cX2_number 22 = .ok (.if_icmp .ge 33, 3) := by decide +kernel
theorem dX2_number_25 : decode cX2_number 25 = .ok (.iload_n 1, 1) := by decide +kernel
theorem dX2_number_26 : decode cX2_number 26 = .ok (.bipush 10, 2) := by decide +kernel
theorem dX2_number_28 : decode cX2_number 28 = .ok (.imul, 1) := by decide +kernel
theorem dX2_number_29 : decode cX2_number 29 = .ok (.aload_n 0, 1) := by decide +kernel
theorem dX2_number_30 : decode cX2_number 30 = .ok (.getfield 9, 3) := by decide +kernel
theorem dX2_number_33 : decode cX2_number 33 = .ok (.getfield 103, 3) := by decide +kernel
theorem dX2_number_36 : decode cX2_number 36 = .ok (.iload_n 2, 1) := by decide +kernel
theorem dX2_number_37 : decode cX2_number 37 = .ok (.iaload, 1) := by decide +kernel
theorem dX2_number_38 : decode cX2_number 38 = .ok (.iadd, 1) := by decide +kernel
theorem dX2_number_39 : decode cX2_number 39 = .ok (.bipush 48, 2) := by decide +kernel
theorem dX2_number_41 : decode cX2_number 41 = .ok (.isub, 1) := by decide +kernel
theorem dX2_number_42 : decode cX2_number 42 = .ok (.sipush 10001, 3) := by decide +kernel
theorem dX2_number_45 : decode cX2_number 45 = .ok (.invokestatic 118, 3) := by decide +kernel
theorem dX2_number_48 : decode cX2_number 48 = .ok (.istore_n 1, 1) := by decide +kernel
theorem dX2_number_49 : decode cX2_number 49 = .ok (.iinc 2 1, 3) := by decide +kernel
theorem dX2_number_52 : decode cX2_number 52 = .ok (.goto (-35), 3) := by decide +kernel
theorem dX2_number_55 : decode cX2_number 55 = .ok (.iload_n 1, 1) := by decide +kernel
theorem dX2_number_56 : decode cX2_number 56 = .ok (.ireturn, 1) := by decide +kernel
theorem dX3_add_0 : decode cX3_add 0 = .ok (.aload_n 0, 1) := by decide +kernel
theorem dX3_add_1 : decode cX3_add 1 = .ok (.getfield 21, 3) := by decide +kernel
theorem dX3_add_4 : decode cX3_add 4 = .ok (.sipush 200, 3) := by decide +kernel
theorem dX3_add_7 : decode cX3_add 7 = .ok (.if_icmp .lt 4, 3) := by decide +kernel
theorem dX3_add_10 : decode cX3_add 10 = .ok (.return_, 1) := by decide +kernel
theorem dX3_add_11 : decode cX3_add 11 = .ok (.aload_n 0, 1) := by decide +kernel
theorem dX3_add_12 : decode cX3_add 12 = .ok (.getfield 9, 3) := by decide +kernel
theorem dX3_add_15 : decode cX3_add 15 = .ok (.aload_n 0, 1) := by decide +kernel
theorem dX3_add_16 : decode cX3_add 16 = .ok (.getfield 21, 3) := by decide +kernel
theorem dX3_add_19 : decode cX3_add 19 = .ok (.iload_n 1, 1) := by decide +kernel
theorem dX3_add_20 : decode cX3_add 20 = .ok (.iastore, 1) := by decide +kernel
theorem dX3_add_21 : decode cX3_add 21 = .ok (.aload_n 0, 1) := by decide +kernel
theorem dX3_add_22 : decode cX3_add 22 = .ok (.getfield 15, 3) := by decide +kernel
theorem dX3_add_25 : decode cX3_add 25 = .ok (.aload_n 0, 1) := by decide +kernel
theorem dX3_add_26 : decode cX3_add 26 = .ok (.getfield 21, 3) := by decide +kernel
theorem dX3_add_29 : decode cX3_add 29 = .ok (.iload_n 2, 1) := by decide +kernel
theorem dX3_add_30 : decode cX3_add 30 = .ok (.iastore, 1) := by decide +kernel
theorem dX3_add_31 : decode cX3_add 31 = .ok (.aload_n 0, 1) := by decide +kernel
theorem dX3_add_32 : decode cX3_add 32 = .ok (.getfield 18, 3) := by decide +kernel
theorem dX3_add_35 : decode cX3_add 35 = .ok (.aload_n 0, 1) := by decide +kernel
theorem dX3_add_36 : decode cX3_add 36 = .ok (.getfield 21, 3) := by decide +kernel
theorem dX3_add_39 : decode cX3_add 39 = .ok (.iload_n 3, 1) := by decide +kernel
theorem dX3_add_40 : decode cX3_add 40 = .ok (.iastore, 1) := by decide +kernel
theorem dX3_add_41 : decode cX3_add 41 = .ok (.aload_n 0, 1) := by decide +kernel
theorem dX3_add_42 : decode cX3_add 42 = .ok (.dup, 1) := by decide +kernel
theorem dX3_add_43 : decode cX3_add 43 = .ok (.getfield 21, 3) := by decide +kernel
theorem dX3_add_46 : decode cX3_add 46 = .ok (.iconst 1, 1) := by decide +kernel
theorem dX3_add_47 : decode cX3_add 47 = .ok (.iadd, 1) := by decide +kernel
theorem dX3_add_48 : decode cX3_add 48 = .ok (.putfield 21, 3) := by decide +kernel
theorem dX3_add_51 : decode cX3_add 51 = .ok (.return_, 1) := by decide +kernel
theorem dX4_add_0 : decode cX4_add 0 = .ok (.aload_n 0, 1) := by decide +kernel
theorem dX4_add_1 : decode cX4_add 1 = .ok (.getfield 21, 3) := by decide +kernel
theorem dX4_add_4 : decode cX4_add 4 = .ok (.bipush 40, 2) := by decide +kernel
theorem dX4_add_6 : decode cX4_add 6 = .ok (.if_icmp .lt 4, 3) := by decide +kernel
theorem dX4_add_9 : decode cX4_add 9 = .ok (.return_, 1) := by decide +kernel
theorem dX4_add_10 : decode cX4_add 10 = .ok (.aload_n 0, 1) := by decide +kernel
theorem dX4_add_11 : decode cX4_add 11 = .ok (.getfield 9, 3) := by decide +kernel
theorem dX4_add_14 : decode cX4_add 14 = .ok (.aload_n 0, 1) := by decide +kernel
theorem dX4_add_15 : decode cX4_add 15 = .ok (.getfield 21, 3) := by decide +kernel
theorem dX4_add_18 : decode cX4_add 18 = .ok (.iload_n 1, 1) := by decide +kernel
theorem dX4_add_19 : decode cX4_add 19 = .ok (.iastore, 1) := by decide +kernel
theorem dX4_add_20 : decode cX4_add 20 = .ok (.aload_n 0, 1) := by decide +kernel
theorem dX4_add_21 : decode cX4_add 21 = .ok (.getfield 15, 3) := by decide +kernel
theorem dX4_add_24 : decode cX4_add 24 = .ok (.aload_n 0, 1) := by decide +kernel
theorem dX4_add_25 : decode cX4_add 25 = .ok (.getfield 21, 3) := by decide +kernel
theorem dX4_add_28 : decode cX4_add 28 = .ok (.iload_n 2, 1) := by decide +kernel
theorem dX4_add_29 : decode cX4_add 29 = .ok (.iastore, 1) := by decide +kernel
theorem dX4_add_30 : decode cX4_add 30 = .ok (.aload_n 0, 1) := by decide +kernel
theorem dX4_add_31 : decode cX4_add 31 = .ok (.getfield 18, 3) := by decide +kernel
theorem dX4_add_34 : decode cX4_add 34 = .ok (.aload_n 0, 1) := by decide +kernel
theorem dX4_add_35 : decode cX4_add 35 = .ok (.getfield 21, 3) := by decide +kernel
theorem dX4_add_38 : decode cX4_add 38 = .ok (.iload_n 3, 1) := by decide +kernel
theorem dX4_add_39 : decode cX4_add 39 = .ok (.iastore, 1) := by decide +kernel
theorem dX4_add_40 : decode cX4_add 40 = .ok (.aload_n 0, 1) := by decide +kernel
theorem dX4_add_41 : decode cX4_add 41 = .ok (.dup, 1) := by decide +kernel
theorem dX4_add_42 : decode cX4_add 42 = .ok (.getfield 21, 3) := by decide +kernel
theorem dX4_add_45 : decode cX4_add 45 = .ok (.iconst 1, 1) := by decide +kernel
theorem dX4_add_46 : decode cX4_add 46 = .ok (.iadd, 1) := by decide +kernel
theorem dX4_add_47 : decode cX4_add 47 = .ok (.putfield 21, 3) := by decide +kernel
theorem dX4_add_50 : decode cX4_add 50 = .ok (.return_, 1) := by decide +kernel
theorem dX4_howManyIn_0 : decode cX4_howManyIn 0 = .ok (.iconst 0, 1) := by decide +kernel
theorem dX4_howManyIn_1 : decode cX4_howManyIn 1 = .ok (.istore_n 2, 1) := by decide +kernel
theorem dX4_howManyIn_2 : decode cX4_howManyIn 2 = .ok (.iconst 0, 1) := by decide +kernel
theorem dX4_howManyIn_3 : decode cX4_howManyIn 3 = .ok (.istore_n 3, 1) := by decide +kernel
theorem dX4_howManyIn_4 : decode cX4_howManyIn 4 = .ok (.iload_n 3, 1) := by decide +kernel
theorem dX4_howManyIn_5 : decode cX4_howManyIn 5 = .ok (.aload_n 0, 1) := by decide +kernel
theorem dX4_howManyIn_6 : decode cX4_howManyIn 6 = .ok (.getfield 21, 3) := by decide +kernel
theorem dX4_howManyIn_9 : decode cX4_howManyIn 9 = .ok (.if_icmp .ge 22, 3) := by decide +kernel
theorem dX4_howManyIn_12 : decode cX4_howManyIn 12 = .ok (.aload_n 0, 1) := by decide +kernel
theorem dX4_howManyIn_13 : decode cX4_howManyIn 13 = .ok (.getfield 9, 3) := by decide +kernel
theorem dX4_howManyIn_16 : decode cX4_howManyIn 16 = .ok (.iload_n 3, 1) := by decide +kernel
theorem dX4_howManyIn_17 : decode cX4_howManyIn 17 = .ok (.iaload, 1) := by decide +kernel
theorem dX4_howManyIn_18 : decode cX4_howManyIn 18 = .ok (.iload_n 1, 1) := by decide +kernel
theorem dX4_howManyIn_19 : decode cX4_howManyIn 19 = .ok (.if_icmp .ne 6, 3) := by decide +kernel
theorem dX4_howManyIn_22 : decode cX4_howManyIn 22 = .ok (.iinc 2 1, 3) := by decide +kernel
theorem dX4_howManyIn_25 : decode cX4_howManyIn 25 = .ok (.iinc 3 1, 3) := by decide +kernel
theorem dX4_howManyIn_28 : decode cX4_howManyIn 28 = .ok (.goto (-24), 3) := by decide +kernel
theorem dX4_howManyIn_31 : decode cX4_howManyIn 31 = .ok (.iload_n 2, 1) := by decide +kernel
theorem dX4_howManyIn_32 : decode cX4_howManyIn 32 = .ok (.ireturn, 1) := by decide +kernel
theorem dX5_add_0 : decode cX5_add 0 = .ok (.aload_n 0, 1) := by decide +kernel
theorem dX5_add_1 : decode cX5_add 1 = .ok (.getfield 21, 3) := by decide +kernel
theorem dX5_add_4 : decode cX5_add 4 = .ok (.bipush 60, 2) := by decide +kernel
theorem dX5_add_6 : decode cX5_add 6 = .ok (.if_icmp .lt 4, 3) := by decide +kernel
theorem dX5_add_9 : decode cX5_add 9 = .ok (.return_, 1) := by decide +kernel
theorem dX5_add_10 : decode cX5_add 10 = .ok (.aload_n 0, 1) := by decide +kernel
theorem dX5_add_11 : decode cX5_add 11 = .ok (.getfield 9, 3) := by decide +kernel
theorem dX5_add_14 : decode cX5_add 14 = .ok (.aload_n 0, 1) := by decide +kernel
theorem dX5_add_15 : decode cX5_add 15 = .ok (.getfield 21, 3) := by decide +kernel
theorem dX5_add_18 : decode cX5_add 18 = .ok (.iload_n 1, 1) := by decide +kernel
theorem dX5_add_19 : decode cX5_add 19 = .ok (.iastore, 1) := by decide +kernel
theorem dX5_add_20 : decode cX5_add 20 = .ok (.aload_n 0, 1) := by decide +kernel
theorem dX5_add_21 : decode cX5_add 21 = .ok (.getfield 15, 3) := by decide +kernel
theorem dX5_add_24 : decode cX5_add 24 = .ok (.aload_n 0, 1) := by decide +kernel
theorem dX5_add_25 : decode cX5_add 25 = .ok (.getfield 21, 3) := by decide +kernel
theorem dX5_add_28 : decode cX5_add 28 = .ok (.iload_n 2, 1) := by decide +kernel
theorem dX5_add_29 : decode cX5_add 29 = .ok (.iastore, 1) := by decide +kernel
theorem dX5_add_30 : decode cX5_add 30 = .ok (.aload_n 0, 1) := by decide +kernel
theorem dX5_add_31 : decode cX5_add 31 = .ok (.getfield 18, 3) := by decide +kernel
theorem dX5_add_34 : decode cX5_add 34 = .ok (.aload_n 0, 1) := by decide +kernel
theorem dX5_add_35 : decode cX5_add 35 = .ok (.getfield 21, 3) := by decide +kernel
theorem dX5_add_38 : decode cX5_add 38 = .ok (.iload_n 3, 1) := by decide +kernel
theorem dX5_add_39 : decode cX5_add 39 = .ok (.iastore, 1) := by decide +kernel
theorem dX5_add_40 : decode cX5_add 40 = .ok (.aload_n 0, 1) := by decide +kernel
theorem dX5_add_41 : decode cX5_add 41 = .ok (.dup, 1) := by decide +kernel
theorem dX5_add_42 : decode cX5_add 42 = .ok (.getfield 21, 3) := by decide +kernel
theorem dX5_add_45 : decode cX5_add 45 = .ok (.iconst 1, 1) := by decide +kernel
theorem dX5_add_46 : decode cX5_add 46 = .ok (.iadd, 1) := by decide +kernel
theorem dX5_add_47 : decode cX5_add 47 = .ok (.putfield 21, 3) := by decide +kernel
theorem dX5_add_50 : decode cX5_add 50 = .ok (.return_, 1) := by decide +kernel
theorem dX5_lostAt_0 : decode cX5_lostAt 0 = .ok (.aload_n 0, 1) := by decide +kernel
theorem dX5_lostAt_1 : decode cX5_lostAt 1 = .ok (.getfield 21, 3) := by decide +kernel
theorem dX5_lostAt_4 : decode cX5_lostAt 4 = .ok (.iconst 1, 1) := by decide +kernel
theorem dX5_lostAt_5 : decode cX5_lostAt 5 = .ok (.isub, 1) := by decide +kernel
theorem dX5_lostAt_6 : decode cX5_lostAt 6 = .ok (.istore_n 2, 1) := by decide +kernel
theorem dX5_lostAt_7 : decode cX5_lostAt 7 = .ok (.iload_n 2, 1) := by decide +kernel
theorem dX5_lostAt_8 : decode cX5_lostAt 8 = .ok (.ifCond .lt 36, 3) := by decide +kernel
theorem dX5_lostAt_11 : decode cX5_lostAt 11 = .ok (.aload_n 0, 1) := by decide +kernel
theorem dX5_lostAt_12 : decode cX5_lostAt 12 = .ok (.getfield 9, 3) := by decide +kernel
theorem dX5_lostAt_15 : decode cX5_lostAt 15 = .ok (.iload_n 2, 1) := by decide +kernel
theorem dX5_lostAt_16 : decode cX5_lostAt 16 = .ok (.iaload, 1) := by decide +kernel
theorem dX5_lostAt_17 : decode cX5_lostAt 17 = .ok (.iload_n 1, 1) := by decide +kernel
theorem dX5_lostAt_18 : decode cX5_lostAt 18 = .ok (.if_icmp .gt 20, 3) := by decide +kernel
theorem dX5_lostAt_21 : decode cX5_lostAt 21 = .ok (.iload_n 1, 1) := by decide +kernel
theorem dX5_lostAt_22 : decode cX5_lostAt 22 = .ok (.aload_n 0, 1) := by decide +kernel
theorem dX5_lostAt_23 : decode cX5_lostAt 23 = .ok (.getfield 15, 3) := by decide +kernel
theorem dX5_lostAt_26 : decode cX5_lostAt 26 = .ok (.iload_n 2, 1) := by decide +kernel
theorem dX5_lostAt_27 : decode cX5_lostAt 27 = .ok (.iaload, 1) := by decide +kernel
theorem dX5_lostAt_28 : decode cX5_lostAt 28 = .ok (.if_icmp .gt 10, 3) := by decide +kernel
theorem dX5_lostAt_31 : decode cX5_lostAt 31 = .ok (.aload_n 0, 1) := by decide +kernel
theorem dX5_lostAt_32 : decode cX5_lostAt 32 = .ok (.getfield 18, 3) := by decide +kernel
theorem dX5_lostAt_35 : decode cX5_lostAt 35 = .ok (.iload_n 2, 1) := by decide +kernel
theorem dX5_lostAt_36 : decode cX5_lostAt 36 = .ok (.iaload, 1) := by decide +kernel
theorem dX5_lostAt_37 : decode cX5_lostAt 37 = .ok (.ireturn, 1) := by decide +kernel
theorem dX5_lostAt_38 : decode cX5_lostAt 38 = .ok (.iinc 2 (-1), 3) := by decide +kernel
theorem dX5_lostAt_41 : decode cX5_lostAt 41 = .ok (.goto (-34), 3) := by decide +kernel
theorem dX5_lostAt_44 : decode cX5_lostAt 44 = .ok (.iconst 0, 1) := by decide +kernel
theorem dX5_lostAt_45 : decode cX5_lostAt 45 = .ok (.ireturn, 1) := by decide +kernel
theorem dX5_foretold_0 : decode cX5_foretold 0 = .ok (.iload_n 1, 1) := by decide +kernel
theorem dX5_foretold_1 : decode cX5_foretold 1 = .ok (.i2l, 1) := by decide +kernel
theorem dX5_foretold_2 : decode cX5_foretold 2 = .ok (.aload_n 0, 1) := by decide +kernel
theorem dX5_foretold_3 : decode cX5_foretold 3 = .ok (.getfield 25, 3) := by decide +kernel
theorem dX5_foretold_6 : decode cX5_foretold 6 = .ok (.i2l, 1) := by decide +kernel
theorem dX5_foretold_7 : decode cX5_foretold 7 = .ok (.lmul, 1) := by decide +kernel
theorem dX5_foretold_8 : decode cX5_foretold 8 = .ok (.bipush 100, 2) := by decide +kernel
theorem dX5_foretold_10 : decode cX5_foretold 10 = .ok (.aload_n 0, 1) := by decide +kernel
theorem dX5_foretold_11 : decode cX5_foretold 11 = .ok (.iload_n 2, 1) := by decide +kernel
theorem dX5_foretold_12 : decode cX5_foretold 12 = .ok (.invokevirtual 28, 3) := by decide +kernel
theorem dX5_foretold_15 : decode cX5_foretold 15 = .ok (.isub, 1) := by decide +kernel
theorem dX5_foretold_16 : decode cX5_foretold 16 = .ok (.i2l, 1) := by decide +kernel
theorem dX5_foretold_17 : decode cX5_foretold 17 = .ok (.lmul, 1) := by decide +kernel
theorem dX5_foretold_18 : decode cX5_foretold 18 = .ok (.ldc2_w 32, 3) := by decide +kernel
theorem dX5_foretold_21 : decode cX5_foretold 21 = .ok (.ldiv, 1) := by decide +kernel
theorem dX5_foretold_22 : decode cX5_foretold 22 = .ok (.lreturn, 1) := by decide +kernel
theorem dX6_add_0 : decode cX6_add 0 = .ok (.aload_n 0, 1) := by decide +kernel
theorem dX6_add_1 : decode cX6_add 1 = .ok (.getfield 24, 3) := by decide +kernel
theorem dX6_add_4 : decode cX6_add 4 = .ok (.bipush 16, 2) := by decide +kernel
theorem dX6_add_6 : decode cX6_add 6 = .ok (.if_icmp .lt 4, 3) := by decide +kernel
theorem dX6_add_9 : decode cX6_add 9 = .ok (.return_, 1) := by decide +kernel
theorem dX6_add_10 : decode cX6_add 10 = .ok (.aload_n 0, 1) := by decide +kernel
theorem dX6_add_11 : decode cX6_add 11 = .ok (.getfield 24, 3) := by decide +kernel
theorem dX6_add_14 : decode cX6_add 14 = .ok (.istore_n 3, 1) := by decide +kernel
theorem dX6_add_15 : decode cX6_add 15 = .ok (.iload_n 3, 1) := by decide +kernel
theorem dX6_add_16 : decode cX6_add 16 = .ok (.ifCond .le 49, 3) := by decide +kernel
theorem dX6_add_19 : decode cX6_add 19 = .ok (.aload_n 0, 1) := by decide +kernel
theorem dX6_add_20 : decode cX6_add 20 = .ok (.getfield 9, 3) := by decide +kernel
theorem dX6_add_23 : decode cX6_add 23 = .ok (.iload_n 3, 1) := by decide +kernel
theorem dX6_add_24 : decode cX6_add 24 = .ok (.iconst 1, 1) := by decide +kernel
theorem dX6_add_25 : decode cX6_add 25 = .ok (.isub, 1) := by decide +kernel
theorem dX6_add_26 : decode cX6_add 26 = .ok (.iaload, 1) := by decide +kernel
theorem dX6_add_27 : decode cX6_add 27 = .ok (.iload_n 1, 1) := by decide +kernel
theorem dX6_add_28 : decode cX6_add 28 = .ok (.if_icmp .le 37, 3) := by decide +kernel
theorem dX6_add_31 : decode cX6_add 31 = .ok (.aload_n 0, 1) := by decide +kernel
theorem dX6_add_32 : decode cX6_add 32 = .ok (.getfield 9, 3) := by decide +kernel
theorem dX6_add_35 : decode cX6_add 35 = .ok (.iload_n 3, 1) := by decide +kernel
theorem dX6_add_36 : decode cX6_add 36 = .ok (.aload_n 0, 1) := by decide +kernel
theorem dX6_add_37 : decode cX6_add 37 = .ok (.getfield 9, 3) := by decide +kernel
theorem dX6_add_40 : decode cX6_add 40 = .ok (.iload_n 3, 1) := by decide +kernel
theorem dX6_add_41 : decode cX6_add 41 = .ok (.iconst 1, 1) := by decide +kernel
theorem dX6_add_42 : decode cX6_add 42 = .ok (.isub, 1) := by decide +kernel
theorem dX6_add_43 : decode cX6_add 43 = .ok (.iaload, 1) := by decide +kernel
theorem dX6_add_44 : decode cX6_add 44 = .ok (.iastore, 1) := by decide +kernel
theorem dX6_add_45 : decode cX6_add 45 = .ok (.aload_n 0, 1) := by decide +kernel
theorem dX6_add_46 : decode cX6_add 46 = .ok (.getfield 15, 3) := by decide +kernel
theorem dX6_add_49 : decode cX6_add 49 = .ok (.iload_n 3, 1) := by decide +kernel
theorem dX6_add_50 : decode cX6_add 50 = .ok (.aload_n 0, 1) := by decide +kernel
theorem dX6_add_51 : decode cX6_add 51 = .ok (.getfield 15, 3) := by decide +kernel
theorem dX6_add_54 : decode cX6_add 54 = .ok (.iload_n 3, 1) := by decide +kernel
theorem dX6_add_55 : decode cX6_add 55 = .ok (.iconst 1, 1) := by decide +kernel
theorem dX6_add_56 : decode cX6_add 56 = .ok (.isub, 1) := by decide +kernel
theorem dX6_add_57 : decode cX6_add 57 = .ok (.iaload, 1) := by decide +kernel
theorem dX6_add_58 : decode cX6_add 58 = .ok (.iastore, 1) := by decide +kernel
theorem dX6_add_59 : decode cX6_add 59 = .ok (.iinc 3 (-1), 3) := by decide +kernel
theorem dX6_add_62 : decode cX6_add 62 = .ok (.goto (-47), 3) := by decide +kernel
theorem dX6_add_65 : decode cX6_add 65 = .ok (.aload_n 0, 1) := by decide +kernel
theorem dX6_add_66 : decode cX6_add 66 = .ok (.getfield 9, 3) := by decide +kernel
theorem dX6_add_69 : decode cX6_add 69 = .ok (.iload_n 3, 1) := by decide +kernel
theorem dX6_add_70 : decode cX6_add 70 = .ok (.iload_n 1, 1) := by decide +kernel
theorem dX6_add_71 : decode cX6_add 71 = .ok (.iastore, 1) := by decide +kernel
theorem dX6_add_72 : decode cX6_add 72 = .ok (.aload_n 0, 1) := by decide +kernel
theorem dX6_add_73 : decode cX6_add 73 = .ok (.getfield 15, 3) := by decide +kernel
theorem dX6_add_76 : decode cX6_add 76 = .ok (.iload_n 3, 1) := by decide +kernel
theorem dX6_add_77 : decode cX6_add 77 = .ok (.iload_n 2, 1) := by decide +kernel
theorem dX6_add_78 : decode cX6_add 78 = .ok (.iastore, 1) := by decide +kernel
theorem dX6_add_79 : decode cX6_add 79 = .ok (.aload_n 0, 1) := by decide +kernel
theorem dX6_add_80 : decode cX6_add 80 = .ok (.dup, 1) := by decide +kernel
theorem dX6_add_81 : decode cX6_add 81 = .ok (.getfield 24, 3) := by decide +kernel
theorem dX6_add_84 : decode cX6_add 84 = .ok (.iconst 1, 1) := by decide +kernel
theorem dX6_add_85 : decode cX6_add 85 = .ok (.iadd, 1) := by decide +kernel
theorem dX6_add_86 : decode cX6_add 86 = .ok (.putfield 24, 3) := by decide +kernel
theorem dX6_add_89 : decode cX6_add 89 = .ok (.return_, 1) := by decide +kernel
theorem dX6_walk_0 : decode cX6_walk 0 = .ok (.aload_n 0, 1) := by decide +kernel
theorem dX6_walk_1 : decode cX6_walk 1 = .ok (.iload_n 1, 1) := by decide +kernel
theorem dX6_walk_2 : decode cX6_walk 2 = .ok (.putfield 28, 3) := by decide +kernel
theorem dX6_walk_5 : decode cX6_walk 5 = .ok (.aload_n 0, 1) := by decide +kernel
theorem dX6_walk_6 : decode cX6_walk 6 = .ok (.iconst 0, 1) := by decide +kernel
theorem dX6_walk_7 : decode cX6_walk 7 = .ok (.putfield 31, 3) := by decide +kernel
theorem dX6_walk_10 : decode cX6_walk 10 = .ok (.aload_n 0, 1) := by decide +kernel
theorem dX6_walk_11 : decode cX6_walk 11 = .ok (.getfield 31, 3) := by decide +kernel
theorem dX6_walk_14 : decode cX6_walk 14 = .ok (.aload_n 0, 1) := by decide +kernel
theorem dX6_walk_15 : decode cX6_walk 15 = .ok (.getfield 24, 3) := by decide +kernel
theorem dX6_walk_18 : decode cX6_walk 18 = .ok (.if_icmp .ge 32, 3) := by decide +kernel
theorem dX6_walk_21 : decode cX6_walk 21 = .ok (.aload_n 0, 1) := by decide +kernel
theorem dX6_walk_22 : decode cX6_walk 22 = .ok (.getfield 9, 3) := by decide +kernel
theorem dX6_walk_25 : decode cX6_walk 25 = .ok (.aload_n 0, 1) := by decide +kernel
theorem dX6_walk_26 : decode cX6_walk 26 = .ok (.getfield 31, 3) := by decide +kernel
theorem dX6_walk_29 : decode cX6_walk 29 = .ok (.iaload, 1) := by decide +kernel
theorem dX6_walk_30 : decode cX6_walk 30 = .ok (.aload_n 0, 1) := by decide +kernel
theorem dX6_walk_31 : decode cX6_walk 31 = .ok (.getfield 28, 3) := by decide +kernel
theorem dX6_walk_34 : decode cX6_walk 34 = .ok (.if_icmp .ge 16, 3) := by decide +kernel
theorem dX6_walk_37 : decode cX6_walk 37 = .ok (.aload_n 0, 1) := by decide +kernel
theorem dX6_walk_38 : decode cX6_walk 38 = .ok (.dup, 1) := by decide +kernel
theorem dX6_walk_39 : decode cX6_walk 39 = .ok (.getfield 31, 3) := by decide +kernel
theorem dX6_walk_42 : decode cX6_walk 42 = .ok (.iconst 1, 1) := by decide +kernel
theorem dX6_walk_43 : decode cX6_walk 43 = .ok (.iadd, 1) := by decide +kernel
theorem dX6_walk_44 : decode cX6_walk 44 = .ok (.putfield 31, 3) := by decide +kernel
theorem dX6_walk_47 : decode cX6_walk 47 = .ok (.goto (-37), 3) := by decide +kernel
theorem dX6_walk_50 : decode cX6_walk 50 = .ok (.aload_n 0, 1) := by decide +kernel
theorem dX6_walk_51 : decode cX6_walk 51 = .ok (.aload_n 0, 1) := by decide +kernel
theorem dX6_walk_52 : decode cX6_walk 52 = .ok (.getfield 24, 3) := by decide +kernel
theorem dX6_walk_55 : decode cX6_walk 55 = .ok (.aload_n 0, 1) := by decide +kernel
theorem dX6_walk_56 : decode cX6_walk 56 = .ok (.getfield 31, 3) := by decide +kernel
theorem dX6_walk_59 : decode cX6_walk 59 = .ok (.isub, 1) := by decide +kernel
theorem dX6_walk_60 : decode cX6_walk 60 = .ok (.putfield 34, 3) := by decide +kernel
theorem dX6_walk_63 : decode cX6_walk 63 = .ok (.aload_n 0, 1) := by decide +kernel
theorem dX6_walk_64 : decode cX6_walk 64 = .ok (.getfield 18, 3) := by decide +kernel
theorem dX6_walk_67 : decode cX6_walk 67 = .ok (.ldc 37, 2) := by decide +kernel
theorem dX6_walk_69 : decode cX6_walk 69 = .ok (.invokestatic 38, 3) := by decide +kernel
theorem dX6_walk_72 : decode cX6_walk 72 = .ok (.aload_n 0, 1) := by decide +kernel
theorem dX6_walk_73 : decode cX6_walk 73 = .ok (.getfield 21, 3) := by decide +kernel
theorem dX6_walk_76 : decode cX6_walk 76 = .ok (.ldc 37, 2) := by decide +kernel
theorem dX6_walk_78 : decode cX6_walk 78 = .ok (.invokestatic 38, 3) := by decide +kernel
theorem dX6_walk_81 : decode cX6_walk 81 = .ok (.aload_n 0, 1) := by decide +kernel
theorem dX6_walk_82 : decode cX6_walk 82 = .ok (.getfield 18, 3) := by decide +kernel
theorem dX6_walk_85 : decode cX6_walk 85 = .ok (.aload_n 0, 1) := by decide +kernel
theorem dX6_walk_86 : decode cX6_walk 86 = .ok (.iconst 0, 1) := by decide +kernel
theorem dX6_walk_87 : decode cX6_walk 87 = .ok (.iconst 0, 1) := by decide +kernel
theorem dX6_walk_88 : decode cX6_walk 88 = .ok (.iconst 0, 1) := by decide +kernel
theorem dX6_walk_89 : decode cX6_walk 89 = .ok (.iconst 0, 1) := by decide +kernel
theorem dX6_walk_90 : decode cX6_walk 90 = .ok (.invokevirtual 44, 3) := by decide +kernel
theorem dX6_walk_93 : decode cX6_walk 93 = .ok (.iconst 0, 1) := by decide +kernel
theorem dX6_walk_94 : decode cX6_walk 94 = .ok (.iastore, 1) := by decide +kernel
theorem dX6_walk_95 : decode cX6_walk 95 = .ok (.iconst 0, 1) := by decide +kernel
theorem dX6_walk_96 : decode cX6_walk 96 = .ok (.istore_n 2, 1) := by decide +kernel
theorem dX6_walk_97 : decode cX6_walk 97 = .ok (.iload_n 2, 1) := by decide +kernel
theorem dX6_walk_98 : decode cX6_walk 98 = .ok (.aload_n 0, 1) := by decide +kernel
theorem dX6_walk_99 : decode cX6_walk 99 = .ok (.getfield 31, 3) := by decide +kernel
theorem dX6_walk_102 : decode cX6_walk 102 = .ok (.if_icmp .gt 39, 3) := by decide +kernel
theorem dX6_walk_105 : decode cX6_walk 105 = .ok (.iconst 0, 1) := by decide +kernel
theorem dX6_walk_106 : decode cX6_walk 106 = .ok (.istore_n 3, 1) := by decide +kernel
theorem dX6_walk_107 : decode cX6_walk 107 = .ok (.iload_n 3, 1) := by decide +kernel
theorem dX6_walk_108 : decode cX6_walk 108 = .ok (.aload_n 0, 1) := by decide +kernel
theorem dX6_walk_109 : decode cX6_walk 109 = .ok (.getfield 34, 3) := by decide +kernel
theorem dX6_walk_112 : decode cX6_walk 112 = .ok (.if_icmp .gt 23, 3) := by decide +kernel
theorem dX6_walk_115 : decode cX6_walk 115 = .ok (.aload_n 0, 1) := by decide +kernel
theorem dX6_walk_116 : decode cX6_walk 116 = .ok (.iload_n 2, 1) := by decide +kernel
theorem dX6_walk_117 : decode cX6_walk 117 = .ok (.iload_n 3, 1) := by decide +kernel
theorem dX6_walk_118 : decode cX6_walk 118 = .ok (.iconst 0, 1) := by decide +kernel
theorem dX6_walk_119 : decode cX6_walk 119 = .ok (.invokevirtual 48, 3) := by decide +kernel
theorem dX6_walk_122 : decode cX6_walk 122 = .ok (.aload_n 0, 1) := by decide +kernel
theorem dX6_walk_123 : decode cX6_walk 123 = .ok (.iload_n 2, 1) := by decide +kernel
theorem dX6_walk_124 : decode cX6_walk 124 = .ok (.iload_n 3, 1) := by decide +kernel
theorem dX6_walk_125 : decode cX6_walk 125 = .ok (.iconst 1, 1) := by decide +kernel
theorem dX6_walk_126 : decode cX6_walk 126 = .ok (.invokevirtual 48, 3) := by decide +kernel
theorem dX6_walk_129 : decode cX6_walk 129 = .ok (.iinc 3 1, 3) := by decide +kernel
theorem dX6_walk_132 : decode cX6_walk 132 = .ok (.goto (-25), 3) := by decide +kernel
theorem dX6_walk_135 : decode cX6_walk 135 = .ok (.iinc 2 1, 3) := by decide +kernel
theorem dX6_walk_138 : decode cX6_walk 138 = .ok (.goto (-41), 3) := by decide +kernel
theorem dX6_walk_141 : decode cX6_walk 141 = .ok (.return_, 1) := by decide +kernel
theorem dX6_goOnFrom_0 : decode cX6_goOnFrom 0 = .ok (.aload_n 0, 1) := by decide +kernel
theorem dX6_goOnFrom_1 : decode cX6_goOnFrom 1 = .ok (.iload_n 1, 1) := by decide +kernel
theorem dX6_goOnFrom_2 : decode cX6_goOnFrom 2 = .ok (.iload_n 2, 1) := by decide +kernel
theorem dX6_goOnFrom_3 : decode cX6_goOnFrom 3 = .ok (.iload_n 3, 1) := by decide +kernel
theorem dX6_goOnFrom_4 : decode cX6_goOnFrom 4 = .ok (.invokevirtual 52, 3) := by decide +kernel
theorem dX6_goOnFrom_7 : decode cX6_goOnFrom 7 = .ok (.istore 4, 2) := by decide +kernel
theorem dX6_goOnFrom_9 : decode cX6_goOnFrom 9 = .ok (.iconst 0, 1) := by decide +kernel
theorem dX6_goOnFrom_10 : decode cX6_goOnFrom 10 = .ok (.istore 5, 2) := by decide +kernel
theorem dX6_goOnFrom_12 : decode cX6_goOnFrom 12 = .ok (.iload 5, 2) := by decide +kernel
theorem dX6_goOnFrom_14 : decode cX6_goOnFrom 14 = .ok (.iload_n 1, 1) := by decide +kernel
theorem dX6_goOnFrom_15 : decode cX6_goOnFrom 15 = .ok (.iload_n 2, 1) := by decide +kernel
theorem dX6_goOnFrom_16 : decode cX6_goOnFrom 16 = .ok (.iadd, 1) := by decide +kernel
theorem dX6_goOnFrom_17 : decode cX6_goOnFrom 17 = .ok (.if_icmp .gt 166, 3) := by decide +kernel
theorem dX6_goOnFrom_20 : decode cX6_goOnFrom 20 = .ok (.aload_n 0, 1) := by decide +kernel
theorem dX6_goOnFrom_21 : decode cX6_goOnFrom 21 = .ok (.getfield 18, 3) := by decide +kernel
theorem dX6_goOnFrom_24 : decode cX6_goOnFrom 24 = .ok (.aload_n 0, 1) := by decide +kernel
