theorem dX0_init_0 : decode cX0_init 0 = .ok (.aload_n 0, 1) := by decide +kernel
theorem dX0_init_1 : decode cX0_init 1 = .ok (.invokespecial 3, 3) := by decide +kernel
theorem dX0_init_4 : decode cX0_init 4 = .ok (.aload_n 0, 1) := by decide +kernel
theorem dX0_init_5 : decode cX0_init 5 = .ok (.iconst 3, 1) := by decide +kernel
theorem dX0_init_6 : decode cX0_init 6 = .ok (.newarray .int, 2) := by decide +kernel
theorem dX0_init_8 : decode cX0_init 8 = .ok (.putfield 9, 3) := by decide +kernel
theorem dX0_init_11 : decode cX0_init 11 = .ok (.return_, 1) := by decide +kernel
theorem dX0_draw_0 : decode cX0_draw 0 = .ok (.aload_n 0, 1) := by decide +kernel
theorem dX0_draw_1 : decode cX0_draw 1 = .ok (.ldc2_w 15, 3) := by decide +kernel
theorem dX0_draw_4 : decode cX0_draw 4 = .ok (.aload_n 0, 1) := by decide +kernel
theorem dX0_draw_5 : decode cX0_draw 5 = .ok (.getfield 17, 3) := by decide +kernel
theorem dX0_draw_8 : decode cX0_draw 8 = .ok (.lmul, 1) := by decide +kernel
theorem dX0_draw_9 : decode cX0_draw 9 = .ok (.ldc2_w 21, 3) := by decide +kernel
theorem dX0_draw_12 : decode cX0_draw 12 = .ok (.ladd, 1) := by decide +kernel
theorem dX0_draw_13 : decode cX0_draw 13 = .ok (.ldc2_w 23, 3) := by decide +kernel
theorem dX0_draw_16 : decode cX0_draw 16 = .ok (.land, 1) := by decide +kernel
theorem dX0_draw_17 : decode cX0_draw 17 = .ok (.putfield 17, 3) := by decide +kernel
theorem dX0_draw_20 : decode cX0_draw 20 = .ok (.iload_n 1, 1) := by decide +kernel
theorem dX0_draw_21 : decode cX0_draw 21 = .ok (.ifCond .le 18, 3) := by decide +kernel
theorem dX0_draw_24 : decode cX0_draw 24 = .ok (.aload_n 0, 1) := by decide +kernel
theorem dX0_draw_25 : decode cX0_draw 25 = .ok (.getfield 17, 3) := by decide +kernel
theorem dX0_draw_28 : decode cX0_draw 28 = .ok (.ldc2_w 25, 3) := by decide +kernel
theorem dX0_draw_31 : decode cX0_draw 31 = .ok (.ldiv, 1) := by decide +kernel
theorem dX0_draw_32 : decode cX0_draw 32 = .ok (.iload_n 1, 1) := by decide +kernel
theorem dX0_draw_33 : decode cX0_draw 33 = .ok (.i2l, 1) := by decide +kernel
theorem dX0_draw_34 : decode cX0_draw 34 = .ok (.lrem, 1) := by decide +kernel
theorem dX0_draw_35 : decode cX0_draw 35 = .ok (.l2i, 1) := by decide +kernel
theorem dX0_draw_36 : decode cX0_draw 36 = .ok (.goto 4, 3) := by decide +kernel
theorem dX0_draw_39 : decode cX0_draw 39 = .ok (.iconst 0, 1) := by decide +kernel
theorem dX0_draw_40 : decode cX0_draw 40 = .ok (.ireturn, 1) := by decide +kernel
theorem dX0_seenInAYear_0 : decode cX0_seenInAYear 0 = .ok (.iconst 0, 1) := by decide +kernel
theorem dX0_seenInAYear_1 : decode cX0_seenInAYear 1 = .ok (.istore_n 2, 1) := by decide +kernel
theorem dX0_seenInAYear_2 : decode cX0_seenInAYear 2 = .ok (.iload_n 2, 1) := by decide +kernel
theorem dX0_seenInAYear_3 : decode cX0_seenInAYear 3 = .ok (.aload_n 1, 1) := by decide +kernel
theorem dX0_seenInAYear_4 : decode cX0_seenInAYear 4 = .ok (.getfield 27, 3) := by decide +kernel
theorem dX0_seenInAYear_7 : decode cX0_seenInAYear 7 = .ok (.if_icmp .ge 28, 3) := by decide +kernel
theorem dX0_seenInAYear_10 : decode cX0_seenInAYear 10 = .ok (.aload_n 0, 1) := by decide +kernel
theorem dX0_seenInAYear_11 : decode cX0_seenInAYear 11 = .ok (.getfield 9, 3) := by decide +kernel
theorem dX0_seenInAYear_14 : decode cX0_seenInAYear 14 = .ok (.iload_n 2, 1) := by decide +kernel
theorem dX0_seenInAYear_15 : decode cX0_seenInAYear 15 = .ok (.aload_n 0, 1) := by decide +kernel
theorem dX0_seenInAYear_16 : decode cX0_seenInAYear 16 = .ok (.bipush 21, 2) := by decide +kernel
theorem dX0_seenInAYear_18 : decode cX0_seenInAYear 18 = .ok (.invokevirtual 33, 3) := by decide +kernel
theorem dX0_seenInAYear_21 : decode cX0_seenInAYear 21 = .ok (.aload_n 1, 1) := by decide +kernel
theorem dX0_seenInAYear_22 : decode cX0_seenInAYear 22 = .ok (.getfield 37, 3) := by decide +kernel
theorem dX0_seenInAYear_25 : decode cX0_seenInAYear 25 = .ok (.invokestatic 40, 3) := by decide +kernel
theorem dX0_seenInAYear_28 : decode cX0_seenInAYear 28 = .ok (.iastore, 1) := by decide +kernel
theorem dX0_seenInAYear_29 : decode cX0_seenInAYear 29 = .ok (.iinc 2 1, 3) := by decide +kernel
theorem dX0_seenInAYear_32 : decode cX0_seenInAYear 32 = .ok (.goto (-30), 3) := by decide +kernel
theorem dX0_seenInAYear_35 : decode cX0_seenInAYear 35 = .ok (.iconst 0, 1) := by decide +kernel
theorem dX0_seenInAYear_36 : decode cX0_seenInAYear 36 = .ok (.istore_n 2, 1) := by decide +kernel
theorem dX0_seenInAYear_37 : decode cX0_seenInAYear 37 = .ok (.iconst 0, 1) := by decide +kernel
theorem dX0_seenInAYear_38 : decode cX0_seenInAYear 38 = .ok (.istore_n 3, 1) := by decide +kernel
theorem dX0_seenInAYear_39 : decode cX0_seenInAYear 39 = .ok (.iconst 0, 1) := by decide +kernel
theorem dX0_seenInAYear_40 : decode cX0_seenInAYear 40 = .ok (.istore 4, 2) := by decide +kernel
theorem dX0_seenInAYear_42 : decode cX0_seenInAYear 42 = .ok (.iload 4, 2) := by decide +kernel
theorem dX0_seenInAYear_44 : decode cX0_seenInAYear 44 = .ok (.aload_n 1, 1) := by decide +kernel
theorem dX0_seenInAYear_45 : decode cX0_seenInAYear 45 = .ok (.getfield 44, 3) := by decide +kernel
theorem dX0_seenInAYear_48 : decode cX0_seenInAYear 48 = .ok (.if_icmp .ge 48, 3) := by decide +kernel
theorem dX0_seenInAYear_51 : decode cX0_seenInAYear 51 = .ok (.iconst 2, 1) := by decide +kernel
theorem dX0_seenInAYear_52 : decode cX0_seenInAYear 52 = .ok (.aload_n 0, 1) := by decide +kernel
theorem dX0_seenInAYear_53 : decode cX0_seenInAYear 53 = .ok (.getfield 9, 3) := by decide +kernel
theorem dX0_seenInAYear_56 : decode cX0_seenInAYear 56 = .ok (.aload_n 0, 1) := by decide +kernel
theorem dX0_seenInAYear_57 : decode cX0_seenInAYear 57 = .ok (.aload_n 1, 1) := by decide +kernel
theorem dX0_seenInAYear_58 : decode cX0_seenInAYear 58 = .ok (.getfield 27, 3) := by decide +kernel
theorem dX0_seenInAYear_61 : decode cX0_seenInAYear 61 = .ok (.invokevirtual 33, 3) := by decide +kernel
theorem dX0_seenInAYear_64 : decode cX0_seenInAYear 64 = .ok (.iaload, 1) := by decide +kernel
theorem dX0_seenInAYear_65 : decode cX0_seenInAYear 65 = .ok (.imul, 1) := by decide +kernel
theorem dX0_seenInAYear_66 : decode cX0_seenInAYear 66 = .ok (.istore 5, 2) := by decide +kernel
theorem dX0_seenInAYear_68 : decode cX0_seenInAYear 68 = .ok (.iload 4, 2) := by decide +kernel
theorem dX0_seenInAYear_70 : decode cX0_seenInAYear 70 = .ok (.ifCond .le 17, 3) := by decide +kernel
theorem dX0_seenInAYear_73 : decode cX0_seenInAYear 73 = .ok (.iload_n 2, 1) := by decide +kernel
theorem dX0_seenInAYear_74 : decode cX0_seenInAYear 74 = .ok (.aload_n 1, 1) := by decide +kernel
theorem dX0_seenInAYear_75 : decode cX0_seenInAYear 75 = .ok (.iload 4, 2) := by decide +kernel
theorem dX0_seenInAYear_77 : decode cX0_seenInAYear 77 = .ok (.iconst 1, 1) := by decide +kernel
theorem dX0_seenInAYear_78 : decode cX0_seenInAYear 78 = .ok (.isub, 1) := by decide +kernel
theorem dX0_seenInAYear_79 : decode cX0_seenInAYear 79 = .ok (.iload_n 3, 1) := by decide +kernel
theorem dX0_seenInAYear_80 : decode cX0_seenInAYear 80 = .ok (.iload 5, 2) := by decide +kernel
theorem dX0_seenInAYear_82 : decode cX0_seenInAYear 82 = .ok (.invokevirtual 47, 3) := by decide +kernel
theorem dX0_seenInAYear_85 : decode cX0_seenInAYear 85 = .ok (.iadd, 1) := by decide +kernel
theorem dX0_seenInAYear_86 : decode cX0_seenInAYear 86 = .ok (.istore_n 2, 1) := by decide +kernel
theorem dX0_seenInAYear_87 : decode cX0_seenInAYear 87 = .ok (.iload 5, 2) := by decide +kernel
theorem dX0_seenInAYear_89 : decode cX0_seenInAYear 89 = .ok (.istore_n 3, 1) := by decide +kernel
theorem dX0_seenInAYear_90 : decode cX0_seenInAYear 90 = .ok (.iinc 4 1, 3) := by decide +kernel
theorem dX0_seenInAYear_93 : decode cX0_seenInAYear 93 = .ok (.goto (-51), 3) := by decide +kernel
theorem dX0_seenInAYear_96 : decode cX0_seenInAYear 96 = .ok (.iload_n 2, 1) := by decide +kernel
theorem dX0_seenInAYear_97 : decode cX0_seenInAYear 97 = .ok (.ireturn, 1) := by decide +kernel
theorem dX1_init_0 : decode cX1_init 0 = .ok (.aload_n 0, 1) := by decide +kernel
theorem dX1_init_1 : decode cX1_init 1 = .ok (.invokespecial 3, 3) := by decide +kernel
theorem dX1_init_4 : decode cX1_init 4 = .ok (.aload_n 0, 1) := by decide +kernel
theorem dX1_init_5 : decode cX1_init 5 = .ok (.bipush 6, 2) := by decide +kernel
theorem dX1_init_7 : decode cX1_init 7 = .ok (.newarray .int, 2) := by decide +kernel
theorem dX1_init_9 : decode cX1_init 9 = .ok (.putfield 9, 3) := by decide +kernel
theorem dX1_init_12 : decode cX1_init 12 = .ok (.aload_n 0, 1) := by decide +kernel
theorem dX1_init_13 : decode cX1_init 13 = .ok (.iconst 5, 1) := by decide +kernel
theorem dX1_init_14 : decode cX1_init 14 = .ok (.bipush 6, 2) := by decide +kernel
theorem dX1_init_16 : decode cX1_init 16 = .ok (.multianewarray 15 2, 4) := by decide +kernel
theorem dX1_init_20 : decode cX1_init 20 = .ok (.putfield 17, 3) := by decide +kernel
theorem dX1_init_23 : decode cX1_init 23 = .ok (.aload_n 0, 1) := by decide +kernel
theorem dX1_init_24 : decode cX1_init 24 = .ok (.iconst 5, 1) := by decide +kernel
theorem dX1_init_25 : decode cX1_init 25 = .ok (.bipush 6, 2) := by decide +kernel
theorem dX1_init_27 : decode cX1_init 27 = .ok (.multianewarray 15 2, 4) := by decide +kernel
theorem dX1_init_31 : decode cX1_init 31 = .ok (.putfield 20, 3) := by decide +kernel
theorem dX1_init_34 : decode cX1_init 34 = .ok (.return_, 1) := by decide +kernel
theorem dX1_study_0 : decode cX1_study 0 = .ok (.aload_n 0, 1) := by decide +kernel
theorem dX1_study_1 : decode cX1_study 1 = .ok (.aload_n 1, 1) := by decide +kernel
theorem dX1_study_2 : decode cX1_study 2 = .ok (.getfield 23, 3) := by decide +kernel
theorem dX1_study_5 : decode cX1_study 5 = .ok (.putfield 29, 3) := by decide +kernel
theorem dX1_study_8 : decode cX1_study 8 = .ok (.aload_n 0, 1) := by decide +kernel
theorem dX1_study_9 : decode cX1_study 9 = .ok (.aload_n 1, 1) := by decide +kernel
theorem dX1_study_10 : decode cX1_study 10 = .ok (.invokevirtual 30, 3) := by decide +kernel
theorem dX1_study_13 : decode cX1_study 13 = .ok (.iconst 0, 1) := by decide +kernel
theorem dX1_study_14 : decode cX1_study 14 = .ok (.istore_n 2, 1) := by decide +kernel
theorem dX1_study_15 : decode cX1_study 15 = .ok (.iload_n 2, 1) := by decide +kernel
theorem dX1_study_16 : decode cX1_study 16 = .ok (.aload_n 0, 1) := by decide +kernel
theorem dX1_study_17 : decode cX1_study 17 = .ok (.getfield 29, 3) := by decide +kernel
theorem dX1_study_20 : decode cX1_study 20 = .ok (.if_icmp .ge 15, 3) := by decide +kernel
theorem dX1_study_23 : decode cX1_study 23 = .ok (.aload_n 0, 1) := by decide +kernel
theorem dX1_study_24 : decode cX1_study 24 = .ok (.aload_n 1, 1) := by decide +kernel
theorem dX1_study_25 : decode cX1_study 25 = .ok (.iload_n 2, 1) := by decide +kernel
theorem dX1_study_26 : decode cX1_study 26 = .ok (.invokevirtual 34, 3) := by decide +kernel
theorem dX1_study_29 : decode cX1_study 29 = .ok (.iinc 2 1, 3) := by decide +kernel
theorem dX1_study_32 : decode cX1_study 32 = .ok (.goto (-17), 3) := by decide +kernel
theorem dX1_study_35 : decode cX1_study 35 = .ok (.aload_n 0, 1) := by decide +kernel
theorem dX1_study_36 : decode cX1_study 36 = .ok (.getfield 29, 3) := by decide +kernel
theorem dX1_study_39 : decode cX1_study 39 = .ok (.iconst 1, 1) := by decide +kernel
theorem dX1_study_40 : decode cX1_study 40 = .ok (.isub, 1) := by decide +kernel
theorem dX1_study_41 : decode cX1_study 41 = .ok (.istore_n 2, 1) := by decide +kernel
theorem dX1_study_42 : decode cX1_study 42 = .ok (.iload_n 2, 1) := by decide +kernel
theorem dX1_study_43 : decode cX1_study 43 = .ok (.ifCond .lt 15, 3) := by decide +kernel
theorem dX1_study_46 : decode cX1_study 46 = .ok (.aload_n 0, 1) := by decide +kernel
theorem dX1_study_47 : decode cX1_study 47 = .ok (.aload_n 1, 1) := by decide +kernel
theorem dX1_study_48 : decode cX1_study 48 = .ok (.iload_n 2, 1) := by decide +kernel
theorem dX1_study_49 : decode cX1_study 49 = .ok (.invokevirtual 38, 3) := by decide +kernel
theorem dX1_study_52 : decode cX1_study 52 = .ok (.iinc 2 (-1), 3) := by decide +kernel
theorem dX1_study_55 : decode cX1_study 55 = .ok (.goto (-13), 3) := by decide +kernel
theorem dX1_study_58 : decode cX1_study 58 = .ok (.return_, 1) := by decide +kernel
theorem dX1_listMakes_0 : decode cX1_listMakes 0 = .ok (.aload_n 0, 1) := by decide +kernel
theorem dX1_listMakes_1 : decode cX1_listMakes 1 = .ok (.iconst 0, 1) := by decide +kernel
theorem dX1_listMakes_2 : decode cX1_listMakes 2 = .ok (.putfield 41, 3) := by decide +kernel
theorem dX1_listMakes_5 : decode cX1_listMakes 5 = .ok (.iconst 0, 1) := by decide +kernel
theorem dX1_listMakes_6 : decode cX1_listMakes 6 = .ok (.istore_n 2, 1) := by decide +kernel
theorem dX1_listMakes_7 : decode cX1_listMakes 7 = .ok (.iload_n 2, 1) := by decide +kernel
theorem dX1_listMakes_8 : decode cX1_listMakes 8 = .ok (.aload_n 1, 1) := by decide +kernel
theorem dX1_listMakes_9 : decode cX1_listMakes 9 = .ok (.getfield 44, 3) := by decide +kernel
theorem dX1_listMakes_12 : decode cX1_listMakes 12 = .ok (.if_icmp .ge 72, 3) := by decide +kernel
theorem dX1_listMakes_15 : decode cX1_listMakes 15 = .ok (.iload_n 2, 1) := by decide +kernel
theorem dX1_listMakes_16 : decode cX1_listMakes 16 = .ok (.istore_n 3, 1) := by decide +kernel
theorem dX1_listMakes_17 : decode cX1_listMakes 17 = .ok (.iload_n 3, 1) := by decide +kernel
theorem dX1_listMakes_18 : decode cX1_listMakes 18 = .ok (.aload_n 1, 1) := by decide +kernel
theorem dX1_listMakes_19 : decode cX1_listMakes 19 = .ok (.getfield 44, 3) := by decide +kernel
theorem dX1_listMakes_22 : decode cX1_listMakes 22 = .ok (.if_icmp .ge 56, 3) := by decide +kernel
theorem dX1_listMakes_25 : decode cX1_listMakes 25 = .ok (.aload_n 0, 1) := by decide +kernel
theorem dX1_listMakes_26 : decode cX1_listMakes 26 = .ok (.getfield 41, 3) := by decide +kernel
theorem dX1_listMakes_29 : decode cX1_listMakes 29 = .ok (.bipush 6, 2) := by decide +kernel
theorem dX1_listMakes_31 : decode cX1_listMakes 31 = .ok (.if_icmp .ge 47, 3) := by decide +kernel
theorem dX1_listMakes_34 : decode cX1_listMakes 34 = .ok (.aload_n 0, 1) := by decide +kernel
theorem dX1_listMakes_35 : decode cX1_listMakes 35 = .ok (.getfield 9, 3) := by decide +kernel
theorem dX1_listMakes_38 : decode cX1_listMakes 38 = .ok (.aload_n 0, 1) := by decide +kernel
theorem dX1_listMakes_39 : decode cX1_listMakes 39 = .ok (.getfield 41, 3) := by decide +kernel
theorem dX1_listMakes_42 : decode cX1_listMakes 42 = .ok (.aload_n 1, 1) := by decide +kernel
theorem dX1_listMakes_43 : decode cX1_listMakes 43 = .ok (.getfield 47, 3) := by decide +kernel
theorem dX1_listMakes_46 : decode cX1_listMakes 46 = .ok (.iload_n 2, 1) := by decide +kernel
theorem dX1_listMakes_47 : decode cX1_listMakes 47 = .ok (.aaload, 1) := by decide +kernel
theorem dX1_listMakes_48 : decode cX1_listMakes 48 = .ok (.getfield 51, 3) := by decide +kernel
theorem dX1_listMakes_51 : decode cX1_listMakes 51 = .ok (.aload_n 1, 1) := by decide +kernel
theorem dX1_listMakes_52 : decode cX1_listMakes 52 = .ok (.getfield 47, 3) := by decide +kernel
theorem dX1_listMakes_55 : decode cX1_listMakes 55 = .ok (.iload_n 3, 1) := by decide +kernel
theorem dX1_listMakes_56 : decode cX1_listMakes 56 = .ok (.aaload, 1) := by decide +kernel
theorem dX1_listMakes_57 : decode cX1_listMakes 57 = .ok (.getfield 51, 3) := by decide +kernel
theorem dX1_listMakes_60 : decode cX1_listMakes 60 = .ok (.iadd, 1) := by decide +kernel
theorem dX1_listMakes_61 : decode cX1_listMakes 61 = .ok (.iastore, 1) := by decide +kernel
theorem dX1_listMakes_62 : decode cX1_listMakes 62 = .ok (.aload_n 0, 1) := by decide +kernel
theorem dX1_listMakes_63 : decode cX1_listMakes 63 = .ok (.dup, 1) := by decide +kernel
theorem dX1_listMakes_64 : decode cX1_listMakes 64 = .ok (.getfield 41, 3) := by decide +kernel
theorem dX1_listMakes_67 : decode cX1_listMakes 67 = .ok (.iconst 1, 1) := by decide +kernel
theorem dX1_listMakes_68 : decode cX1_listMakes 68 = .ok (.iadd, 1) := by decide +kernel
theorem dX1_listMakes_69 : decode cX1_listMakes 69 = .ok (.putfield 41, 3) := by decide +kernel
theorem dX1_listMakes_72 : decode cX1_listMakes 72 = .ok (.iinc 3 1, 3) := by decide +kernel
theorem dX1_listMakes_75 : decode cX1_listMakes 75 = .ok (.goto (-58), 3) := by decide +kernel
theorem dX1_listMakes_78 : decode cX1_listMakes 78 = .ok (.iinc 2 1, 3) := by decide +kernel
theorem dX1_listMakes_81 : decode cX1_listMakes 81 = .ok (.goto (-74), 3) := by decide +kernel
theorem dX1_listMakes_84 : decode cX1_listMakes 84 = .ok (.return_, 1) := by decide +kernel
theorem dX1_countAhead_0 : decode cX1_countAhead 0 = .ok (.iconst 0, 1) := by decide +kernel
theorem dX1_countAhead_1 : decode cX1_countAhead 1 = .ok (.istore_n 3, 1) := by decide +kernel
theorem dX1_countAhead_2 : decode cX1_countAhead 2 = .ok (.iload_n 3, 1) := by decide +kernel
theorem dX1_countAhead_3 : decode cX1_countAhead 3 = .ok (.aload_n 0, 1) := by decide +kernel
theorem dX1_countAhead_4 : decode cX1_countAhead 4 = .ok (.getfield 41, 3) := by decide +kernel
theorem dX1_countAhead_7 : decode cX1_countAhead 7 = .ok (.if_icmp .ge 82, 3) := by decide +kernel
theorem dX1_countAhead_10 : decode cX1_countAhead 10 = .ok (.iload_n 2, 1) := by decide +kernel
theorem dX1_countAhead_11 : decode cX1_countAhead 11 = .ok (.ifCond .ne 7, 3) := by decide +kernel
theorem dX1_countAhead_14 : decode cX1_countAhead 14 = .ok (.iconst 1, 1) := by decide +kernel
theorem dX1_countAhead_15 : decode cX1_countAhead 15 = .ok (.goto 4, 3) := by decide +kernel
theorem dX1_countAhead_18 : decode cX1_countAhead 18 = .ok (.iconst 0, 1) := by decide +kernel
theorem dX1_countAhead_19 : decode cX1_countAhead 19 = .ok (.istore 4, 2) := by decide +kernel
theorem dX1_countAhead_21 : decode cX1_countAhead 21 = .ok (.iconst 0, 1) := by decide +kernel
theorem dX1_countAhead_22 : decode cX1_countAhead 22 = .ok (.istore 5, 2) := by decide +kernel
theorem dX1_countAhead_24 : decode cX1_countAhead 24 = .ok (.iload_n 2, 1) := by decide +kernel
theorem dX1_countAhead_25 : decode cX1_countAhead 25 = .ok (.ifCond .le 48, 3) := by decide +kernel
theorem dX1_countAhead_28 : decode cX1_countAhead 28 = .ok (.iload 5, 2) := by decide +kernel
theorem dX1_countAhead_30 : decode cX1_countAhead 30 = .ok (.aload_n 0, 1) := by decide +kernel
theorem dX1_countAhead_31 : decode cX1_countAhead 31 = .ok (.getfield 41, 3) := by decide +kernel
theorem dX1_countAhead_34 : decode cX1_countAhead 34 = .ok (.if_icmp .ge 39, 3) := by decide +kernel
theorem dX1_countAhead_37 : decode cX1_countAhead 37 = .ok (.aload_n 0, 1) := by decide +kernel
theorem dX1_countAhead_38 : decode cX1_countAhead 38 = .ok (.aload_n 1, 1) := by decide +kernel
theorem dX1_countAhead_39 : decode cX1_countAhead 39 = .ok (.iload_n 2, 1) := by decide +kernel
theorem dX1_countAhead_40 : decode cX1_countAhead 40 = .ok (.iconst 1, 1) := by decide +kernel
theorem dX1_countAhead_41 : decode cX1_countAhead 41 = .ok (.isub, 1) := by decide +kernel
theorem dX1_countAhead_42 : decode cX1_countAhead 42 = .ok (.iload 5, 2) := by decide +kernel
theorem dX1_countAhead_44 : decode cX1_countAhead 44 = .ok (.iload_n 3, 1) := by decide +kernel
theorem dX1_countAhead_45 : decode cX1_countAhead 45 = .ok (.invokevirtual 56, 3) := by decide +kernel
theorem dX1_countAhead_48 : decode cX1_countAhead 48 = .ok (.ifCond .eq 19, 3) := by decide +kernel
theorem dX1_countAhead_51 : decode cX1_countAhead 51 = .ok (.iload 4, 2) := by decide +kernel
theorem dX1_countAhead_53 : decode cX1_countAhead 53 = .ok (.aload_n 0, 1) := by decide +kernel
theorem dX1_countAhead_54 : decode cX1_countAhead 54 = .ok (.getfield 17, 3) := by decide +kernel
theorem dX1_countAhead_57 : decode cX1_countAhead 57 = .ok (.iload_n 2, 1) := by decide +kernel
theorem dX1_countAhead_58 : decode cX1_countAhead 58 = .ok (.iconst 1, 1) := by decide +kernel
theorem dX1_countAhead_59 : decode cX1_countAhead 59 = .ok (.isub, 1) := by decide +kernel
theorem dX1_countAhead_60 : decode cX1_countAhead 60 = .ok (.aaload, 1) := by decide +kernel
theorem dX1_countAhead_61 : decode cX1_countAhead 61 = .ok (.iload 5, 2) := by decide +kernel
theorem dX1_countAhead_63 : decode cX1_countAhead 63 = .ok (.iaload, 1) := by decide +kernel
theorem dX1_countAhead_64 : decode cX1_countAhead 64 = .ok (.iadd, 1) := by decide +kernel
theorem dX1_countAhead_65 : decode cX1_countAhead 65 = .ok (.istore 4, 2) := by decide +kernel
theorem dX1_countAhead_67 : decode cX1_countAhead 67 = .ok (.iinc 5 1, 3) := by decide +kernel
theorem dX1_countAhead_70 : decode cX1_countAhead 70 = .ok (.goto (-46), 3) := by decide +kernel
theorem dX1_countAhead_73 : decode cX1_countAhead 73 = .ok (.aload_n 0, 1) := by decide +kernel
theorem dX1_countAhead_74 : decode cX1_countAhead 74 = .ok (.getfield 17, 3) := by decide +kernel
theorem dX1_countAhead_77 : decode cX1_countAhead 77 = .ok (.iload_n 2, 1) := by decide +kernel
theorem dX1_countAhead_78 : decode cX1_countAhead 78 = .ok (.aaload, 1) := by decide +kernel
theorem dX1_countAhead_79 : decode cX1_countAhead 79 = .ok (.iload_n 3, 1) := by decide +kernel
theorem dX1_countAhead_80 : decode cX1_countAhead 80 = .ok (.iload 4, 2) := by decide +kernel
theorem dX1_countAhead_82 : decode cX1_countAhead 82 = .ok (.iastore, 1) := by decide +kernel
theorem dX1_countAhead_83 : decode cX1_countAhead 83 = .ok (.iinc 3 1, 3) := by decide +kernel
theorem dX1_countAhead_86 : decode cX1_countAhead 86 = .ok (.goto (-84), 3) := by decide +kernel
theorem dX1_countAhead_89 : decode cX1_countAhead 89 = .ok (.return_, 1) := by decide +kernel
theorem dX1_countBehind_0 : decode cX1_countBehind 0 = .ok (.iload_n 2, 1) := by decide +kernel
theorem dX1_countBehind_1 : decode cX1_countBehind 1 = .ok (.iconst 1, 1) := by decide +kernel
theorem dX1_countBehind_2 : decode cX1_countBehind 2 = .ok (.iadd, 1) := by decide +kernel
theorem dX1_countBehind_3 : decode cX1_countBehind 3 = .ok (.aload_n 0, 1) := by decide +kernel
theorem dX1_countBehind_4 : decode cX1_countBehind 4 = .ok (.getfield 29, 3) := by decide +kernel
theorem dX1_countBehind_7 : decode cX1_countBehind 7 = .ok (.if_icmp .lt 7, 3) := by decide +kernel
theorem dX1_countBehind_10 : decode cX1_countBehind 10 = .ok (.iconst 1, 1) := by decide +kernel
theorem dX1_countBehind_11 : decode cX1_countBehind 11 = .ok (.goto 4, 3) := by decide +kernel
theorem dX1_countBehind_14 : decode cX1_countBehind 14 = .ok (.iconst 0, 1) := by decide +kernel
theorem dX1_countBehind_15 : decode cX1_countBehind 15 = .ok (.istore_n 3, 1) := by decide +kernel
theorem dX1_countBehind_16 : decode cX1_countBehind 16 = .ok (.iconst 0, 1) := by decide +kernel
theorem dX1_countBehind_17 : decode cX1_countBehind 17 = .ok (.istore 4, 2) := by decide +kernel
theorem dX1_countBehind_19 : decode cX1_countBehind 19 = .ok (.iload 4, 2) := by decide +kernel
theorem dX1_countBehind_21 : decode cX1_countBehind 21 = .ok (.aload_n 0, 1) := by decide +kernel
theorem dX1_countBehind_22 : decode cX1_countBehind 22 = .ok (.getfield 41, 3) := by decide +kernel
theorem dX1_countBehind_25 : decode cX1_countBehind 25 = .ok (.if_icmp .ge 82, 3) := by decide +kernel
theorem dX1_countBehind_28 : decode cX1_countBehind 28 = .ok (.iload_n 3, 1) := by decide +kernel
theorem dX1_countBehind_29 : decode cX1_countBehind 29 = .ok (.ifCond .eq 7, 3) := by decide +kernel
theorem dX1_countBehind_32 : decode cX1_countBehind 32 = .ok (.iconst 1, 1) := by decide +kernel
theorem dX1_countBehind_33 : decode cX1_countBehind 33 = .ok (.goto 4, 3) := by decide +kernel
theorem dX1_countBehind_36 : decode cX1_countBehind 36 = .ok (.iconst 0, 1) := by decide +kernel
theorem dX1_countBehind_37 : decode cX1_countBehind 37 = .ok (.istore 5, 2) := by decide +kernel
theorem dX1_countBehind_39 : decode cX1_countBehind 39 = .ok (.iconst 0, 1) := by decide +kernel
theorem dX1_countBehind_40 : decode cX1_countBehind 40 = .ok (.istore 6, 2) := by decide +kernel
theorem dX1_countBehind_42 : decode cX1_countBehind 42 = .ok (.iload_n 3, 1) := by decide +kernel
theorem dX1_countBehind_43 : decode cX1_countBehind 43 = .ok (.ifCond .ne 47, 3) := by decide +kernel
theorem dX1_countBehind_46 : decode cX1_countBehind 46 = .ok (.iload 6, 2) := by decide +kernel
theorem dX1_countBehind_48 : decode cX1_countBehind 48 = .ok (.aload_n 0, 1) := by decide +kernel
theorem dX1_countBehind_49 : decode cX1_countBehind 49 = .ok (.getfield 41, 3) := by decide +kernel
theorem dX1_countBehind_52 : decode cX1_countBehind 52 = .ok (.if_icmp .ge 38, 3) := by decide +kernel
theorem dX1_countBehind_55 : decode cX1_countBehind 55 = .ok (.aload_n 0, 1) := by decide +kernel
theorem dX1_countBehind_56 : decode cX1_countBehind 56 = .ok (.aload_n 1, 1) := by decide +kernel
theorem dX1_countBehind_57 : decode cX1_countBehind 57 = .ok (.iload_n 2, 1) := by decide +kernel
theorem dX1_countBehind_58 : decode cX1_countBehind 58 = .ok (.iload 4, 2) := by decide +kernel
theorem dX1_countBehind_60 : decode cX1_countBehind 60 = .ok (.iload 6, 2) := by decide +kernel
theorem dX1_countBehind_62 : decode cX1_countBehind 62 = .ok (.invokevirtual 56, 3) := by decide +kernel
theorem dX1_countBehind_65 : decode cX1_countBehind 65 = .ok (.ifCond .eq 19, 3) := by decide +kernel
theorem dX1_countBehind_68 : decode cX1_countBehind 68 = .ok (.iload 5, 2) := by decide +kernel
theorem dX1_countBehind_70 : decode cX1_countBehind 70 = .ok (.aload_n 0, 1) := by decide +kernel
theorem dX1_countBehind_71 : decode cX1_countBehind 71 = .ok (.getfield 20, 3) := by decide +kernel
theorem dX1_countBehind_74 : decode cX1_countBehind 74 = .ok (.iload_n 2, 1) := by decide +kernel
theorem dX1_countBehind_75 : decode cX1_countBehind 75 = .ok (.iconst 1, 1) := by decide +kernel
theorem dX1_countBehind_76 : decode cX1_countBehind 76 = .ok (.iadd, 1) := by decide +kernel
theorem dX1_countBehind_77 : decode cX1_countBehind 77 = .ok (.aaload, 1) := by decide +kernel
theorem dX1_countBehind_78 : decode cX1_countBehind 78 = .ok (.iload 6, 2) := by decide +kernel
theorem dX1_countBehind_80 : decode cX1_countBehind 80 = .ok (.iaload, 1) := by decide +kernel
theorem dX1_countBehind_81 : decode cX1_countBehind 81 = .ok (.iadd, 1) := by decide +kernel
theorem dX1_countBehind_82 : decode cX1_countBehind 82 = .ok (.istore 5, 2) := by decide +kernel
theorem dX1_countBehind_84 : decode cX1_countBehind 84 = .ok (.iinc 6 1, 3) := by decide +kernel
theorem dX1_countBehind_87 : decode cX1_countBehind 87 = .ok (.goto (-45), 3) := by decide +kernel
theorem dX1_countBehind_90 : decode cX1_countBehind 90 = .ok (.aload_n 0, 1) := by decide +kernel
theorem dX1_countBehind_91 : decode cX1_countBehind 91 = .ok (.getfield 20, 3) := by decide +kernel
theorem dX1_countBehind_94 : decode cX1_countBehind 94 = .ok (.iload_n 2, 1) := by decide +kernel
theorem dX1_countBehind_95 : decode cX1_countBehind 95 = .ok (.aaload, 1) := by decide +kernel
theorem dX1_countBehind_96 : decode cX1_countBehind 96 = .ok (.iload 4, 2) := by decide +kernel
theorem dX1_countBehind_98 : decode cX1_countBehind 98 = .ok (.iload 5, 2) := by decide +kernel
theorem dX1_countBehind_100 : decode cX1_countBehind 100 = .ok (.iastore, 1) := by decide +kernel
theorem dX1_countBehind_101 : decode cX1_countBehind 101 = .ok (.iinc 4 1, 3) := by decide +kernel
theorem dX1_countBehind_104 : decode cX1_countBehind 104 = .ok (.goto (-85), 3) := by decide +kernel
theorem dX1_countBehind_107 : decode cX1_countBehind 107 = .ok (.return_, 1) := by decide +kernel
theorem dX1_mayMeet_0 : decode cX1_mayMeet 0 = .ok (.aload_n 1, 1) := by decide +kernel
theorem dX1_mayMeet_1 : decode cX1_mayMeet 1 = .ok (.getfield 60, 3) := by decide +kernel
theorem dX1_mayMeet_4 : decode cX1_mayMeet 4 = .ok (.iload_n 2, 1) := by decide +kernel
theorem dX1_mayMeet_5 : decode cX1_mayMeet 5 = .ok (.aaload, 1) := by decide +kernel
theorem dX1_mayMeet_6 : decode cX1_mayMeet 6 = .ok (.getfield 64, 3) := by decide +kernel
theorem dX1_mayMeet_9 : decode cX1_mayMeet 9 = .ok (.istore 5, 2) := by decide +kernel
theorem dX1_mayMeet_11 : decode cX1_mayMeet 11 = .ok (.iload 5, 2) := by decide +kernel
theorem dX1_mayMeet_13 : decode cX1_mayMeet 13 = .ok (.iconst (-1), 1) := by decide +kernel
theorem dX1_mayMeet_14 : decode cX1_mayMeet 14 = .ok (.if_icmp .eq 26, 3) := by decide +kernel
theorem dX1_mayMeet_17 : decode cX1_mayMeet 17 = .ok (.iload 5, 2) := by decide +kernel
theorem dX1_mayMeet_19 : decode cX1_mayMeet 19 = .ok (.aload_n 1, 1) := by decide +kernel
theorem dX1_mayMeet_20 : decode cX1_mayMeet 20 = .ok (.iload_n 2, 1) := by decide +kernel
theorem dX1_mayMeet_21 : decode cX1_mayMeet 21 = .ok (.aload_n 0, 1) := by decide +kernel
theorem dX1_mayMeet_22 : decode cX1_mayMeet 22 = .ok (.getfield 9, 3) := by decide +kernel
theorem dX1_mayMeet_25 : decode cX1_mayMeet 25 = .ok (.iload_n 3, 1) := by decide +kernel
theorem dX1_mayMeet_26 : decode cX1_mayMeet 26 = .ok (.iaload, 1) := by decide +kernel
theorem dX1_mayMeet_27 : decode cX1_mayMeet 27 = .ok (.aload_n 0, 1) := by decide +kernel
theorem dX1_mayMeet_28 : decode cX1_mayMeet 28 = .ok (.getfield 9, 3) := by decide +kernel
theorem dX1_mayMeet_31 : decode cX1_mayMeet 31 = .ok (.iload 4, 2) := by decide +kernel
theorem dX1_mayMeet_33 : decode cX1_mayMeet 33 = .ok (.iaload, 1) := by decide +kernel
theorem dX1_mayMeet_34 : decode cX1_mayMeet 34 = .ok (.invokevirtual 69, 3) := by decide +kernel
theorem dX1_mayMeet_37 : decode cX1_mayMeet 37 = .ok (.if_icmp .ne 7, 3) := by decide +kernel
theorem dX1_mayMeet_40 : decode cX1_mayMeet 40 = .ok (.iconst 1, 1) := by decide +kernel
theorem dX1_mayMeet_41 : decode cX1_mayMeet 41 = .ok (.goto 4, 3) := by decide +kernel
theorem dX1_mayMeet_44 : decode cX1_mayMeet 44 = .ok (.iconst 0, 1) := by decide +kernel
theorem dX1_mayMeet_45 : decode cX1_mayMeet 45 = .ok (.ireturn, 1) := by decide +kernel
theorem dX1_ways_0 : decode cX1_ways 0 = .ok (.iconst 0, 1) := by decide +kernel
theorem dX1_ways_1 : decode cX1_ways 1 = .ok (.istore_n 1, 1) := by decide +kernel
theorem dX1_ways_2 : decode cX1_ways 2 = .ok (.iconst 0, 1) := by decide +kernel
theorem dX1_ways_3 : decode cX1_ways 3 = .ok (.istore_n 2, 1) := by decide +kernel
theorem dX1_ways_4 : decode cX1_ways 4 = .ok (.aload_n 0, 1) := by decide +kernel
theorem dX1_ways_5 : decode cX1_ways 5 = .ok (.getfield 29, 3) := by decide +kernel
theorem dX1_ways_8 : decode cX1_ways 8 = .ok (.ifCond .le 28, 3) := by decide +kernel
theorem dX1_ways_11 : decode cX1_ways 11 = .ok (.iload_n 2, 1) := by decide +kernel
theorem dX1_ways_12 : decode cX1_ways 12 = .ok (.aload_n 0, 1) := by decide +kernel
theorem dX1_ways_13 : decode cX1_ways 13 = .ok (.getfield 41, 3) := by decide +kernel
theorem dX1_ways_16 : decode cX1_ways 16 = .ok (.if_icmp .ge 20, 3) := by decide +kernel
theorem dX1_ways_19 : decode cX1_ways 19 = .ok (.iload_n 1, 1) := by decide +kernel
theorem dX1_ways_20 : decode cX1_ways 20 = .ok (.aload_n 0, 1) := by decide +kernel
theorem dX1_ways_21 : decode cX1_ways 21 = .ok (.getfield 20, 3) := by decide +kernel
theorem dX1_ways_24 : decode cX1_ways 24 = .ok (.iconst 0, 1) := by decide +kernel
theorem dX1_ways_25 : decode cX1_ways 25 = .ok (.aaload, 1) := by decide +kernel
theorem dX1_ways_26 : decode cX1_ways 26 = .ok (.iload_n 2, 1) := by decide +kernel
theorem dX1_ways_27 : decode cX1_ways 27 = .ok (.iaload, 1) := by decide +kernel
theorem dX1_ways_28 : decode cX1_ways 28 = .ok (.iadd, 1) := by decide +kernel
theorem dX1_ways_29 : decode cX1_ways 29 = .ok (.istore_n 1, 1) := by decide +kernel
theorem dX1_ways_30 : decode cX1_ways 30 = .ok (.iinc 2 1, 3) := by decide +kernel
theorem dX1_ways_33 : decode cX1_ways 33 = .ok (.goto (-29), 3) := by decide +kernel
theorem dX1_ways_36 : decode cX1_ways 36 = .ok (.iload_n 1, 1) := by decide +kernel
theorem dX1_ways_37 : decode cX1_ways 37 = .ok (.ireturn, 1) := by decide +kernel
theorem dX1_toneOf_0 : decode cX1_toneOf 0 = .ok (.iconst (-1), 1) := by decide +kernel
theorem dX1_toneOf_1 : decode cX1_toneOf 1 = .ok (.istore_n 2, 1) := by decide +kernel
theorem dX1_toneOf_2 : decode cX1_toneOf 2 = .ok (.iconst 0, 1) := by decide +kernel
theorem dX1_toneOf_3 : decode cX1_toneOf 3 = .ok (.istore_n 3, 1) := by decide +kernel
theorem dX1_toneOf_4 : decode cX1_toneOf 4 = .ok (.iload_n 3, 1) := by decide +kernel
theorem dX1_toneOf_5 : decode cX1_toneOf 5 = .ok (.aload_n 0, 1) := by decide +kernel
theorem dX1_toneOf_6 : decode cX1_toneOf 6 = .ok (.getfield 41, 3) := by decide +kernel
theorem dX1_toneOf_9 : decode cX1_toneOf 9 = .ok (.if_icmp .ge 55, 3) := by decide +kernel
theorem dX1_toneOf_12 : decode cX1_toneOf 12 = .ok (.aload_n 0, 1) := by decide +kernel
theorem dX1_toneOf_13 : decode cX1_toneOf 13 = .ok (.getfield 17, 3) := by decide +kernel
theorem dX1_toneOf_16 : decode cX1_toneOf 16 = .ok (.iload_n 1, 1) := by decide +kernel
theorem dX1_toneOf_17 : decode cX1_toneOf 17 = .ok (.aaload, 1) := by decide +kernel
theorem dX1_toneOf_18 : decode cX1_toneOf 18 = .ok (.iload_n 3, 1) := by decide +kernel
theorem dX1_toneOf_19 : decode cX1_toneOf 19 = .ok (.iaload, 1) := by decide +kernel
theorem dX1_toneOf_20 : decode cX1_toneOf 20 = .ok (.ifCond .le 38, 3) := by decide +kernel
theorem dX1_toneOf_23 : decode cX1_toneOf 23 = .ok (.aload_n 0, 1) := by decide +kernel
theorem dX1_toneOf_24 : decode cX1_toneOf 24 = .ok (.getfield 20, 3) := by decide +kernel
theorem dX1_toneOf_27 : decode cX1_toneOf 27 = .ok (.iload_n 1, 1) := by decide +kernel
theorem dX1_toneOf_28 : decode cX1_toneOf 28 = .ok (.aaload, 1) := by decide +kernel
theorem dX1_toneOf_29 : decode cX1_toneOf 29 = .ok (.iload_n 3, 1) := by decide +kernel
theorem dX1_toneOf_30 : decode cX1_toneOf 30 = .ok (.iaload, 1) := by decide +kernel
theorem dX1_toneOf_31 : decode cX1_toneOf 31 = .ok (.ifCond .le 27, 3) := by decide +kernel
theorem dX1_toneOf_34 : decode cX1_toneOf 34 = .ok (.iload_n 2, 1) := by decide +kernel
theorem dX1_toneOf_35 : decode cX1_toneOf 35 = .ok (.iconst (-1), 1) := by decide +kernel
theorem dX1_toneOf_36 : decode cX1_toneOf 36 = .ok (.if_icmp .eq 15, 3) := by decide +kernel
theorem dX1_toneOf_39 : decode cX1_toneOf 39 = .ok (.iload_n 2, 1) := by decide +kernel
theorem dX1_toneOf_40 : decode cX1_toneOf 40 = .ok (.aload_n 0, 1) := by decide +kernel
theorem dX1_toneOf_41 : decode cX1_toneOf 41 = .ok (.getfield 9, 3) := by decide +kernel
theorem dX1_toneOf_44 : decode cX1_toneOf 44 = .ok (.iload_n 3, 1) := by decide +kernel
theorem dX1_toneOf_45 : decode cX1_toneOf 45 = .ok (.iaload, 1) := by decide +kernel
theorem dX1_toneOf_46 : decode cX1_toneOf 46 = .ok (.if_icmp .eq 5, 3) := by decide +kernel
theorem dX1_toneOf_49 : decode cX1_toneOf 49 = .ok (.iconst (-1), 1) := by decide +kernel
theorem dX1_toneOf_50 : decode cX1_toneOf 50 = .ok (.ireturn, 1) := by decide +kernel
theorem dX1_toneOf_51 : decode cX1_toneOf 51 = .ok (.aload_n 0, 1) := by decide +kernel
theorem dX1_toneOf_52 : decode cX1_toneOf 52 = .ok (.getfield 9, 3) := by decide +kernel
theorem dX1_toneOf_55 : decode cX1_toneOf 55 = .ok (.iload_n 3, 1) := by decide +kernel
theorem dX1_toneOf_56 : decode cX1_toneOf 56 = .ok (.iaload, 1) := by decide +kernel
theorem dX1_toneOf_57 : decode cX1_toneOf 57 = .ok (.istore_n 2, 1) := by decide +kernel
theorem dX1_toneOf_58 : decode cX1_toneOf 58 = .ok (.iinc 3 1, 3) := by decide +kernel
theorem dX1_toneOf_61 : decode cX1_toneOf 61 = .ok (.goto (-57), 3) := by decide +kernel
theorem dX1_toneOf_64 : decode cX1_toneOf 64 = .ok (.iload_n 2, 1) := by decide +kernel
theorem dX1_toneOf_65 : decode cX1_toneOf 65 = .ok (.ireturn, 1) := by decide +kernel
theorem dX2_init_0 : decode cX2_init 0 = .ok (.aload_n 0, 1) := by decide +kernel
theorem dX2_init_1 : decode cX2_init 1 = .ok (.invokespecial 3, 3) := by decide +kernel
theorem dX2_init_4 : decode cX2_init 4 = .ok (.return_, 1) := by decide +kernel
theorem dX2_begin_0 : decode cX2_begin 0 = .ok (.aload_n 0, 1) := by decide +kernel
theorem dX2_begin_1 : decode cX2_begin 1 = .ok (.iload_n 1, 1) := by decide +kernel
theorem dX2_begin_2 : decode cX2_begin 2 = .ok (.putfield 9, 3) := by decide +kernel
theorem dX2_begin_5 : decode cX2_begin 5 = .ok (.aload_n 0, 1) := by decide +kernel
theorem dX2_begin_6 : decode cX2_begin 6 = .ok (.iconst 0, 1) := by decide +kernel
theorem dX2_begin_7 : decode cX2_begin 7 = .ok (.putfield 15, 3) := by decide +kernel
theorem dX2_begin_10 : decode cX2_begin 10 = .ok (.aload_n 0, 1) := by decide +kernel
theorem dX2_begin_11 : decode cX2_begin 11 = .ok (.iconst 0, 1) := by decide +kernel
theorem dX2_begin_12 : decode cX2_begin 12 = .ok (.putfield 18, 3) := by decide +kernel
theorem dX2_begin_15 : decode cX2_begin 15 = .ok (.return_, 1) := by decide +kernel
theorem dX2_copy_0 : decode cX2_copy 0 = .ok (.aload_n 0, 1) := by decide +kernel
theorem dX2_copy_1 : decode cX2_copy 1 = .ok (.aload_n 1, 1) := by decide +kernel
theorem dX2_copy_2 : decode cX2_copy 2 = .ok (.getfield 9, 3) := by decide +kernel
theorem dX2_copy_5 : decode cX2_copy 5 = .ok (.putfield 9, 3) := by decide +kernel
theorem dX2_copy_8 : decode cX2_copy 8 = .ok (.aload_n 0, 1) := by decide +kernel
theorem dX2_copy_9 : decode cX2_copy 9 = .ok (.aload_n 1, 1) := by decide +kernel
theorem dX2_copy_10 : decode cX2_copy 10 = .ok (.getfield 15, 3) := by decide +kernel
theorem dX2_copy_13 : decode cX2_copy 13 = .ok (.putfield 15, 3) := by decide +kernel
theorem dX2_copy_16 : decode cX2_copy 16 = .ok (.aload_n 0, 1) := by decide +kernel
theorem dX2_copy_17 : decode cX2_copy 17 = .ok (.aload_n 1, 1) := by decide +kernel
theorem dX2_copy_18 : decode cX2_copy 18 = .ok (.getfield 18, 3) := by decide +kernel
theorem dX2_copy_21 : decode cX2_copy 21 = .ok (.putfield 18, 3) := by decide +kernel
theorem dX2_copy_24 : decode cX2_copy 24 = .ok (.return_, 1) := by decide +kernel
theorem dX2_rows_0 : decode cX2_rows 0 = .ok (.iconst 4, 1) := by decide +kernel
theorem dX2_rows_1 : decode cX2_rows 1 = .ok (.aload_n 0, 1) := by decide +kernel
theorem dX2_rows_2 : decode cX2_rows 2 = .ok (.getfield 15, 3) := by decide +kernel
theorem dX2_rows_5 : decode cX2_rows 5 = .ok (.imul, 1) := by decide +kernel
theorem dX2_rows_6 : decode cX2_rows 6 = .ok (.aload_n 0, 1) := by decide +kernel
theorem dX2_rows_7 : decode cX2_rows 7 = .ok (.getfield 18, 3) := by decide +kernel
theorem dX2_rows_10 : decode cX2_rows 10 = .ok (.iadd, 1) := by decide +kernel
theorem dX2_rows_11 : decode cX2_rows 11 = .ok (.ireturn, 1) := by decide +kernel
theorem dX2_take_0 : decode cX2_take 0 = .ok (.iconst 0, 1) := by decide +kernel
theorem dX2_take_1 : decode cX2_take 1 = .ok (.iload_n 1, 1) := by decide +kernel
theorem dX2_take_2 : decode cX2_take 2 = .ok (.aload_n 0, 1) := by decide +kernel
theorem dX2_take_3 : decode cX2_take 3 = .ok (.getfield 18, 3) := by decide +kernel
theorem dX2_take_6 : decode cX2_take 6 = .ok (.isub, 1) := by decide +kernel
theorem dX2_take_7 : decode cX2_take 7 = .ok (.invokestatic 21, 3) := by decide +kernel
theorem dX2_take_10 : decode cX2_take 10 = .ok (.istore_n 2, 1) := by decide +kernel
theorem dX2_take_11 : decode cX2_take 11 = .ok (.iload_n 2, 1) := by decide +kernel
theorem dX2_take_12 : decode cX2_take 12 = .ok (.iconst 4, 1) := by decide +kernel
theorem dX2_take_13 : decode cX2_take 13 = .ok (.iadd, 1) := by decide +kernel
theorem dX2_take_14 : decode cX2_take 14 = .ok (.iconst 1, 1) := by decide +kernel
theorem dX2_take_15 : decode cX2_take 15 = .ok (.isub, 1) := by decide +kernel
theorem dX2_take_16 : decode cX2_take 16 = .ok (.iconst 4, 1) := by decide +kernel
theorem dX2_take_17 : decode cX2_take 17 = .ok (.idiv, 1) := by decide +kernel
theorem dX2_take_18 : decode cX2_take 18 = .ok (.istore_n 3, 1) := by decide +kernel
theorem dX2_take_19 : decode cX2_take 19 = .ok (.aload_n 0, 1) := by decide +kernel
theorem dX2_take_20 : decode cX2_take 20 = .ok (.dup, 1) := by decide +kernel
theorem dX2_take_21 : decode cX2_take 21 = .ok (.getfield 15, 3) := by decide +kernel
theorem dX2_take_24 : decode cX2_take 24 = .ok (.iload_n 3, 1) := by decide +kernel
theorem dX2_take_25 : decode cX2_take 25 = .ok (.isub, 1) := by decide +kernel
theorem dX2_take_26 : decode cX2_take 26 = .ok (.putfield 15, 3) := by decide +kernel
theorem dX2_take_29 : decode cX2_take 29 = .ok (.aload_n 0, 1) := by decide +kernel
theorem dX2_take_30 : decode cX2_take 30 = .ok (.dup, 1) := by decide +kernel
theorem dX2_take_31 : decode cX2_take 31 = .ok (.getfield 18, 3) := by decide +kernel
theorem dX2_take_34 : decode cX2_take 34 = .ok (.iconst 4, 1) := by decide +kernel
theorem dX2_take_35 : decode cX2_take 35 = .ok (.iload_n 3, 1) := by decide +kernel
theorem dX2_take_36 : decode cX2_take 36 = .ok (.imul, 1) := by decide +kernel
theorem dX2_take_37 : decode cX2_take 37 = .ok (.iload_n 1, 1) := by decide +kernel
theorem dX2_take_38 : decode cX2_take 38 = .ok (.isub, 1) := by decide +kernel
theorem dX2_take_39 : decode cX2_take 39 = .ok (.iadd, 1) := by decide +kernel
theorem dX2_take_40 : decode cX2_take 40 = .ok (.putfield 18, 3) := by decide +kernel
theorem dX2_take_43 : decode cX2_take 43 = .ok (.return_, 1) := by decide +kernel
theorem dX2_loosen_0 : decode cX2_loosen 0 = .ok (.iload_n 1, 1) := by decide +kernel
theorem dX2_loosen_1 : decode cX2_loosen 1 = .ok (.ifCond .ne 5, 3) := by decide +kernel
theorem dX2_loosen_4 : decode cX2_loosen 4 = .ok (.iconst 0, 1) := by decide +kernel
theorem dX2_loosen_5 : decode cX2_loosen 5 = .ok (.ireturn, 1) := by decide +kernel
theorem dX2_loosen_6 : decode cX2_loosen 6 = .ok (.aload_n 0, 1) := by decide +kernel
theorem dX2_loosen_7 : decode cX2_loosen 7 = .ok (.dup, 1) := by decide +kernel
theorem dX2_loosen_8 : decode cX2_loosen 8 = .ok (.getfield 18, 3) := by decide +kernel
theorem dX2_loosen_11 : decode cX2_loosen 11 = .ok (.iload_n 1, 1) := by decide +kernel
theorem dX2_loosen_12 : decode cX2_loosen 12 = .ok (.iconst 1, 1) := by decide +kernel
theorem dX2_loosen_13 : decode cX2_loosen 13 = .ok (.isub, 1) := by decide +kernel
theorem dX2_loosen_14 : decode cX2_loosen 14 = .ok (.iadd, 1) := by decide +kernel
theorem dX2_loosen_15 : decode cX2_loosen 15 = .ok (.putfield 18, 3) := by decide +kernel
theorem dX2_loosen_18 : decode cX2_loosen 18 = .ok (.iconst 1, 1) := by decide +kernel
theorem dX2_loosen_19 : decode cX2_loosen 19 = .ok (.ireturn, 1) := by decide +kernel
theorem dX2_tell_0 : decode cX2_tell 0 = .ok (.iload_n 1, 1) := by decide +kernel
theorem dX2_tell_1 : decode cX2_tell 1 = .ok (.lookupswitch 37 #[(0, 27), (1, 32)], 27) := by decide +kernel
theorem dX2_tell_28 : decode cX2_tell 28 = .ok (.aload_n 0, 1) := by decide +kernel
theorem dX2_tell_29 : decode cX2_tell 29 = .ok (.getfield 9, 3) := by decide +kernel
theorem dX2_tell_32 : decode cX2_tell 32 = .ok (.ireturn, 1) := by decide +kernel
theorem dX2_tell_33 : decode cX2_tell 33 = .ok (.aload_n 0, 1) := by decide +kernel
theorem dX2_tell_34 : decode cX2_tell 34 = .ok (.getfield 15, 3) := by decide +kernel
theorem dX2_tell_37 : decode cX2_tell 37 = .ok (.ireturn, 1) := by decide +kernel
theorem dX2_tell_38 : decode cX2_tell 38 = .ok (.aload_n 0, 1) := by decide +kernel
theorem dX2_tell_39 : decode cX2_tell 39 = .ok (.getfield 18, 3) := by decide +kernel
theorem dX2_tell_42 : decode cX2_tell 42 = .ok (.ireturn, 1) := by decide +kernel
theorem dX3_init_0 : decode cX3_init 0 = .ok (.aload_n 0, 1) := by decide +kernel
theorem dX3_init_1 : decode cX3_init 1 = .ok (.invokespecial 3, 3) := by decide +kernel
theorem dX3_init_4 : decode cX3_init 4 = .ok (.aload_n 0, 1) := by decide +kernel
theorem dX3_init_5 : decode cX3_init 5 = .ok (.bipush 18, 2) := by decide +kernel
theorem dX3_init_7 : decode cX3_init 7 = .ok (.newarray .int, 2) := by decide +kernel
theorem dX3_init_9 : decode cX3_init 9 = .ok (.putfield 9, 3) := by decide +kernel
theorem dX3_init_12 : decode cX3_init 12 = .ok (.return_, 1) := by decide +kernel
theorem dX3_put_0 : decode cX3_put 0 = .ok (.aload_n 0, 1) := by decide +kernel
theorem dX3_put_1 : decode cX3_put 1 = .ok (.getfield 15, 3) := by decide +kernel
theorem dX3_put_4 : decode cX3_put 4 = .ok (.aload_n 0, 1) := by decide +kernel
theorem dX3_put_5 : decode cX3_put 5 = .ok (.getfield 9, 3) := by decide +kernel
theorem dX3_put_8 : decode cX3_put 8 = .ok (.arraylength, 1) := by decide +kernel
theorem dX3_put_9 : decode cX3_put 9 = .ok (.if_icmp .ge 23, 3) := by decide +kernel
theorem dX3_put_12 : decode cX3_put 12 = .ok (.aload_n 0, 1) := by decide +kernel
theorem dX3_put_13 : decode cX3_put 13 = .ok (.getfield 9, 3) := by decide +kernel
theorem dX3_put_16 : decode cX3_put 16 = .ok (.aload_n 0, 1) := by decide +kernel
theorem dX3_put_17 : decode cX3_put 17 = .ok (.getfield 15, 3) := by decide +kernel
theorem dX3_put_20 : decode cX3_put 20 = .ok (.iload_n 1, 1) := by decide +kernel
theorem dX3_put_21 : decode cX3_put 21 = .ok (.iastore, 1) := by decide +kernel
theorem dX3_put_22 : decode cX3_put 22 = .ok (.aload_n 0, 1) := by decide +kernel
theorem dX3_put_23 : decode cX3_put 23 = .ok (.dup, 1) := by decide +kernel
theorem dX3_put_24 : decode cX3_put 24 = .ok (.getfield 15, 3) := by decide +kernel
theorem dX3_put_27 : decode cX3_put 27 = .ok (.iconst 1, 1) := by decide +kernel
theorem dX3_put_28 : decode cX3_put 28 = .ok (.iadd, 1) := by decide +kernel
theorem dX3_put_29 : decode cX3_put 29 = .ok (.putfield 15, 3) := by decide +kernel
theorem dX3_put_32 : decode cX3_put 32 = .ok (.return_, 1) := by decide +kernel
theorem dX3_firstFault_0 : decode cX3_firstFault 0 = .ok (.iconst (-1), 1) := by decide +kernel
theorem dX3_firstFault_1 : decode cX3_firstFault 1 = .ok (.istore_n 1, 1) := by decide +kernel
theorem dX3_firstFault_2 : decode cX3_firstFault 2 = .ok (.iconst 0, 1) := by decide +kernel
theorem dX3_firstFault_3 : decode cX3_firstFault 3 = .ok (.istore_n 2, 1) := by decide +kernel
theorem dX3_firstFault_4 : decode cX3_firstFault 4 = .ok (.iload_n 2, 1) := by decide +kernel
theorem dX3_firstFault_5 : decode cX3_firstFault 5 = .ok (.aload_n 0, 1) := by decide +kernel
theorem dX3_firstFault_6 : decode cX3_firstFault 6 = .ok (.getfield 15, 3) := by decide +kernel
theorem dX3_firstFault_9 : decode cX3_firstFault 9 = .ok (.if_icmp .ge 38, 3) := by decide +kernel
theorem dX3_firstFault_12 : decode cX3_firstFault 12 = .ok (.aload_n 0, 1) := by decide +kernel
theorem dX3_firstFault_13 : decode cX3_firstFault 13 = .ok (.getfield 9, 3) := by decide +kernel
theorem dX3_firstFault_16 : decode cX3_firstFault 16 = .ok (.iload_n 2, 1) := by decide +kernel
theorem dX3_firstFault_17 : decode cX3_firstFault 17 = .ok (.iaload, 1) := by decide +kernel
theorem dX3_firstFault_18 : decode cX3_firstFault 18 = .ok (.iload_n 2, 1) := by decide +kernel
theorem dX3_firstFault_19 : decode cX3_firstFault 19 = .ok (.iload_n 1, 1) := by decide +kernel
theorem dX3_firstFault_20 : decode cX3_firstFault 20 = .ok (.invokestatic 19, 3) := by decide +kernel
theorem dX3_firstFault_23 : decode cX3_firstFault 23 = .ok (.ifCond .ne 5, 3) := by decide +kernel
theorem dX3_firstFault_26 : decode cX3_firstFault 26 = .ok (.iload_n 2, 1) := by decide +kernel
theorem dX3_firstFault_27 : decode cX3_firstFault 27 = .ok (.ireturn, 1) := by decide +kernel
theorem dX3_firstFault_28 : decode cX3_firstFault 28 = .ok (.aload_n 0, 1) := by decide +kernel
theorem dX3_firstFault_29 : decode cX3_firstFault 29 = .ok (.getfield 9, 3) := by decide +kernel
theorem dX3_firstFault_32 : decode cX3_firstFault 32 = .ok (.iload_n 2, 1) := by decide +kernel
theorem dX3_firstFault_33 : decode cX3_firstFault 33 = .ok (.iaload, 1) := by decide +kernel
theorem dX3_firstFault_34 : decode cX3_firstFault 34 = .ok (.bipush 59, 2) := by decide +kernel
theorem dX3_firstFault_36 : decode cX3_firstFault 36 = .ok (.if_icmp .ne 5, 3) := by decide +kernel
theorem dX3_firstFault_39 : decode cX3_firstFault 39 = .ok (.iload_n 2, 1) := by decide +kernel
theorem dX3_firstFault_40 : decode cX3_firstFault 40 = .ok (.istore_n 1, 1) := by decide +kernel
theorem dX3_firstFault_41 : decode cX3_firstFault 41 = .ok (.iinc 2 1, 3) := by decide +kernel
theorem dX3_firstFault_44 : decode cX3_firstFault 44 = .ok (.goto (-40), 3) := by decide +kernel
theorem dX3_firstFault_47 : decode cX3_firstFault 47 = .ok (.aload_n 0, 1) := by decide +kernel
theorem dX3_firstFault_48 : decode cX3_firstFault 48 = .ok (.getfield 15, 3) := by decide +kernel
theorem dX3_firstFault_51 : decode cX3_firstFault 51 = .ok (.ireturn, 1) := by decide +kernel
theorem dX3_mayStand_0 : decode cX3_mayStand 0 = .ok (.iload_n 2, 1) := by decide +kernel
theorem dX3_mayStand_1 : decode cX3_mayStand 1 = .ok (.iconst (-1), 1) := by decide +kernel
theorem dX3_mayStand_2 : decode cX3_mayStand 2 = .ok (.if_icmp .eq 28, 3) := by decide +kernel
theorem dX3_mayStand_5 : decode cX3_mayStand 5 = .ok (.iload_n 1, 1) := by decide +kernel
theorem dX3_mayStand_6 : decode cX3_mayStand 6 = .ok (.iload_n 2, 1) := by decide +kernel
theorem dX3_mayStand_7 : decode cX3_mayStand 7 = .ok (.iconst 1, 1) := by decide +kernel
theorem dX3_mayStand_8 : decode cX3_mayStand 8 = .ok (.iadd, 1) := by decide +kernel
theorem dX3_mayStand_9 : decode cX3_mayStand 9 = .ok (.if_icmp .ne 19, 3) := by decide +kernel
theorem dX3_mayStand_12 : decode cX3_mayStand 12 = .ok (.iload_n 0, 1) := by decide +kernel
theorem dX3_mayStand_13 : decode cX3_mayStand 13 = .ok (.bipush 48, 2) := by decide +kernel
theorem dX3_mayStand_15 : decode cX3_mayStand 15 = .ok (.if_icmp .lt 13, 3) := by decide +kernel
theorem dX3_mayStand_18 : decode cX3_mayStand 18 = .ok (.iload_n 0, 1) := by decide +kernel
theorem dX3_mayStand_19 : decode cX3_mayStand 19 = .ok (.bipush 51, 2) := by decide +kernel
theorem dX3_mayStand_21 : decode cX3_mayStand 21 = .ok (.if_icmp .gt 7, 3) := by decide +kernel
theorem dX3_mayStand_24 : decode cX3_mayStand 24 = .ok (.iconst 1, 1) := by decide +kernel
theorem dX3_mayStand_25 : decode cX3_mayStand 25 = .ok (.goto 4, 3) := by decide +kernel
theorem dX3_mayStand_28 : decode cX3_mayStand 28 = .ok (.iconst 0, 1) := by decide +kernel
theorem dX3_mayStand_29 : decode cX3_mayStand 29 = .ok (.ireturn, 1) := by decide +kernel
theorem dX3_mayStand_30 : decode cX3_mayStand 30 = .ok (.iload_n 1, 1) := by decide +kernel
theorem dX3_mayStand_31 : decode cX3_mayStand 31 = .ok (.iconst 3, 1) := by decide +kernel
theorem dX3_mayStand_32 : decode cX3_mayStand 32 = .ok (.irem, 1) := by decide +kernel
theorem dX3_mayStand_33 : decode cX3_mayStand 33 = .ok (.ifCond .ne 19, 3) := by decide +kernel
theorem dX3_mayStand_36 : decode cX3_mayStand 36 = .ok (.ldc 23, 2) := by decide +kernel
theorem dX3_mayStand_38 : decode cX3_mayStand 38 = .ok (.iload_n 0, 1) := by decide +kernel
theorem dX3_mayStand_39 : decode cX3_mayStand 39 = .ok (.i2c, 1) := by decide +kernel
theorem dX3_mayStand_40 : decode cX3_mayStand 40 = .ok (.invokevirtual 25, 3) := by decide +kernel
theorem dX3_mayStand_43 : decode cX3_mayStand 43 = .ok (.ifCond .lt 7, 3) := by decide +kernel
theorem dX3_mayStand_46 : decode cX3_mayStand 46 = .ok (.iconst 1, 1) := by decide +kernel
theorem dX3_mayStand_47 : decode cX3_mayStand 47 = .ok (.goto 4, 3) := by decide +kernel
theorem dX3_mayStand_50 : decode cX3_mayStand 50 = .ok (.iconst 0, 1) := by decide +kernel
theorem dX3_mayStand_51 : decode cX3_mayStand 51 = .ok (.ireturn, 1) := by decide +kernel
theorem dX3_mayStand_52 : decode cX3_mayStand 52 = .ok (.iload_n 1, 1) := by decide +kernel
theorem dX3_mayStand_53 : decode cX3_mayStand 53 = .ok (.iconst 3, 1) := by decide +kernel
theorem dX3_mayStand_54 : decode cX3_mayStand 54 = .ok (.irem, 1) := by decide +kernel
theorem dX3_mayStand_55 : decode cX3_mayStand 55 = .ok (.iconst 1, 1) := by decide +kernel
theorem dX3_mayStand_56 : decode cX3_mayStand 56 = .ok (.if_icmp .ne 21, 3) := by decide +kernel
theorem dX3_mayStand_59 : decode cX3_mayStand 59 = .ok (.iload_n 0, 1) := by decide +kernel
theorem dX3_mayStand_60 : decode cX3_mayStand 60 = .ok (.bipush 49, 2) := by decide +kernel
theorem dX3_mayStand_62 : decode cX3_mayStand 62 = .ok (.if_icmp .lt 13, 3) := by decide +kernel
theorem dX3_mayStand_65 : decode cX3_mayStand 65 = .ok (.iload_n 0, 1) := by decide +kernel
theorem dX3_mayStand_66 : decode cX3_mayStand 66 = .ok (.bipush 57, 2) := by decide +kernel
theorem dX3_mayStand_68 : decode cX3_mayStand 68 = .ok (.if_icmp .gt 7, 3) := by decide +kernel
theorem dX3_mayStand_71 : decode cX3_mayStand 71 = .ok (.iconst 1, 1) := by decide +kernel
theorem dX3_mayStand_72 : decode cX3_mayStand 72 = .ok (.goto 4, 3) := by decide +kernel
theorem dX3_mayStand_75 : decode cX3_mayStand 75 = .ok (.iconst 0, 1) := by decide +kernel
theorem dX3_mayStand_76 : decode cX3_mayStand 76 = .ok (.ireturn, 1) := by decide +kernel
theorem dX3_mayStand_77 : decode cX3_mayStand 77 = .ok (.iload_n 1, 1) := by decide +kernel
theorem dX3_mayStand_78 : decode cX3_mayStand 78 = .ok (.iconst 1, 1) := by decide +kernel
theorem dX3_mayStand_79 : decode cX3_mayStand 79 = .ok (.iadd, 1) := by decide +kernel
theorem dX3_mayStand_80 : decode cX3_mayStand 80 = .ok (.iconst 3, 1) := by decide +kernel
theorem dX3_mayStand_81 : decode cX3_mayStand 81 = .ok (.idiv, 1) := by decide +kernel
theorem dX3_mayStand_82 : decode cX3_mayStand 82 = .ok (.istore_n 3, 1) := by decide +kernel
theorem dX3_mayStand_83 : decode cX3_mayStand 83 = .ok (.iload_n 0, 1) := by decide +kernel
theorem dX3_mayStand_84 : decode cX3_mayStand 84 = .ok (.bipush 44, 2) := by decide +kernel
theorem dX3_mayStand_86 : decode cX3_mayStand 86 = .ok (.if_icmp .ne 14, 3) := by decide +kernel
theorem dX3_mayStand_89 : decode cX3_mayStand 89 = .ok (.iload_n 3, 1) := by decide +kernel
theorem dX3_mayStand_90 : decode cX3_mayStand 90 = .ok (.iconst 5, 1) := by decide +kernel
theorem dX3_mayStand_91 : decode cX3_mayStand 91 = .ok (.if_icmp .ge 7, 3) := by decide +kernel
theorem dX3_mayStand_94 : decode cX3_mayStand 94 = .ok (.iconst 1, 1) := by decide +kernel
theorem dX3_mayStand_95 : decode cX3_mayStand 95 = .ok (.goto 4, 3) := by decide +kernel
theorem dX3_mayStand_98 : decode cX3_mayStand 98 = .ok (.iconst 0, 1) := by decide +kernel
theorem dX3_mayStand_99 : decode cX3_mayStand 99 = .ok (.ireturn, 1) := by decide +kernel
theorem dX3_mayStand_100 : decode cX3_mayStand 100 = .ok (.iload_n 0, 1) := by decide +kernel
theorem dX3_mayStand_101 : decode cX3_mayStand 101 = .ok (.bipush 59, 2) := by decide +kernel
theorem dX3_mayStand_103 : decode cX3_mayStand 103 = .ok (.if_icmp .ne 12, 3) := by decide +kernel
theorem dX3_mayStand_106 : decode cX3_mayStand 106 = .ok (.iload_n 3, 1) := by decide +kernel
theorem dX3_mayStand_107 : decode cX3_mayStand 107 = .ok (.iconst 2, 1) := by decide +kernel
theorem dX3_mayStand_108 : decode cX3_mayStand 108 = .ok (.if_icmp .lt 7, 3) := by decide +kernel
theorem dX3_mayStand_111 : decode cX3_mayStand 111 = .ok (.iconst 1, 1) := by decide +kernel
theorem dX3_mayStand_112 : decode cX3_mayStand 112 = .ok (.goto 4, 3) := by decide +kernel
theorem dX3_mayStand_115 : decode cX3_mayStand 115 = .ok (.iconst 0, 1) := by decide +kernel
theorem dX3_mayStand_116 : decode cX3_mayStand 116 = .ok (.ireturn, 1) := by decide +kernel
theorem dX3_isWhole_0 : decode cX3_isWhole 0 = .ok (.aload_n 0, 1) := by decide +kernel
theorem dX3_isWhole_1 : decode cX3_isWhole 1 = .ok (.getfield 15, 3) := by decide +kernel
theorem dX3_isWhole_4 : decode cX3_isWhole 4 = .ok (.iconst 2, 1) := by decide +kernel
theorem dX3_isWhole_5 : decode cX3_isWhole 5 = .ok (.if_icmp .lt 34, 3) := by decide +kernel
theorem dX3_isWhole_8 : decode cX3_isWhole 8 = .ok (.aload_n 0, 1) := by decide +kernel
theorem dX3_isWhole_9 : decode cX3_isWhole 9 = .ok (.getfield 9, 3) := by decide +kernel
theorem dX3_isWhole_12 : decode cX3_isWhole 12 = .ok (.aload_n 0, 1) := by decide +kernel
theorem dX3_isWhole_13 : decode cX3_isWhole 13 = .ok (.getfield 15, 3) := by decide +kernel
theorem dX3_isWhole_16 : decode cX3_isWhole 16 = .ok (.iconst 2, 1) := by decide +kernel
theorem dX3_isWhole_17 : decode cX3_isWhole 17 = .ok (.isub, 1) := by decide +kernel
theorem dX3_isWhole_18 : decode cX3_isWhole 18 = .ok (.iaload, 1) := by decide +kernel
theorem dX3_isWhole_19 : decode cX3_isWhole 19 = .ok (.bipush 59, 2) := by decide +kernel
theorem dX3_isWhole_21 : decode cX3_isWhole 21 = .ok (.if_icmp .ne 18, 3) := by decide +kernel
theorem dX3_isWhole_24 : decode cX3_isWhole 24 = .ok (.aload_n 0, 1) := by decide +kernel
theorem dX3_isWhole_25 : decode cX3_isWhole 25 = .ok (.invokevirtual 31, 3) := by decide +kernel
theorem dX3_isWhole_28 : decode cX3_isWhole 28 = .ok (.aload_n 0, 1) := by decide +kernel
theorem dX3_isWhole_29 : decode cX3_isWhole 29 = .ok (.getfield 15, 3) := by decide +kernel
theorem dX3_isWhole_32 : decode cX3_isWhole 32 = .ok (.if_icmp .ne 7, 3) := by decide +kernel
theorem dX3_isWhole_35 : decode cX3_isWhole 35 = .ok (.iconst 1, 1) := by decide +kernel
theorem dX3_isWhole_36 : decode cX3_isWhole 36 = .ok (.goto 4, 3) := by decide +kernel
theorem dX3_isWhole_39 : decode cX3_isWhole 39 = .ok (.iconst 0, 1) := by decide +kernel
theorem dX3_isWhole_40 : decode cX3_isWhole 40 = .ok (.ireturn, 1) := by decide +kernel
theorem dX4_init_0 : decode cX4_init 0 = .ok (.aload_n 0, 1) := by decide +kernel
theorem dX4_init_1 : decode cX4_init 1 = .ok (.invokespecial 3, 3) := by decide +kernel
theorem dX4_init_4 : decode cX4_init 4 = .ok (.return_, 1) := by decide +kernel
theorem dX4_begin_0 : decode cX4_begin 0 = .ok (.aload_n 0, 1) := by decide +kernel
theorem dX4_begin_1 : decode cX4_begin 1 = .ok (.iload_n 1, 1) := by decide +kernel
theorem dX4_begin_2 : decode cX4_begin 2 = .ok (.putfield 9, 3) := by decide +kernel
theorem dX4_begin_5 : decode cX4_begin 5 = .ok (.aload_n 0, 1) := by decide +kernel
theorem dX4_begin_6 : decode cX4_begin 6 = .ok (.iload_n 2, 1) := by decide +kernel
theorem dX4_begin_7 : decode cX4_begin 7 = .ok (.putfield 15, 3) := by decide +kernel
theorem dX4_begin_10 : decode cX4_begin 10 = .ok (.aload_n 0, 1) := by decide +kernel
theorem dX4_begin_11 : decode cX4_begin 11 = .ok (.iconst (-1), 1) := by decide +kernel
theorem dX4_begin_12 : decode cX4_begin 12 = .ok (.putfield 18, 3) := by decide +kernel
theorem dX4_begin_15 : decode cX4_begin 15 = .ok (.aload_n 0, 1) := by decide +kernel
theorem dX4_begin_16 : decode cX4_begin 16 = .ok (.invokevirtual 21, 3) := by decide +kernel
theorem dX4_begin_19 : decode cX4_begin 19 = .ok (.return_, 1) := by decide +kernel
theorem dX4_clear_0 : decode cX4_clear 0 = .ok (.aload_n 0, 1) := by decide +kernel
theorem dX4_clear_1 : decode cX4_clear 1 = .ok (.iconst (-1), 1) := by decide +kernel
theorem dX4_clear_2 : decode cX4_clear 2 = .ok (.putfield 24, 3) := by decide +kernel
theorem dX4_clear_5 : decode cX4_clear 5 = .ok (.aload_n 0, 1) := by decide +kernel
theorem dX4_clear_6 : decode cX4_clear 6 = .ok (.iconst (-1), 1) := by decide +kernel
theorem dX4_clear_7 : decode cX4_clear 7 = .ok (.putfield 27, 3) := by decide +kernel
theorem dX4_clear_10 : decode cX4_clear 10 = .ok (.aload_n 0, 1) := by decide +kernel
theorem dX4_clear_11 : decode cX4_clear 11 = .ok (.iconst 0, 1) := by decide +kernel
theorem dX4_clear_12 : decode cX4_clear 12 = .ok (.putfield 30, 3) := by decide +kernel
theorem dX4_clear_15 : decode cX4_clear 15 = .ok (.aload_n 0, 1) := by decide +kernel
theorem dX4_clear_16 : decode cX4_clear 16 = .ok (.iconst 0, 1) := by decide +kernel
theorem dX4_clear_17 : decode cX4_clear 17 = .ok (.putfield 33, 3) := by decide +kernel
theorem dX4_clear_20 : decode cX4_clear 20 = .ok (.aload_n 0, 1) := by decide +kernel
theorem dX4_clear_21 : decode cX4_clear 21 = .ok (.iconst 0, 1) := by decide +kernel
theorem dX4_clear_22 : decode cX4_clear 22 = .ok (.putfield 36, 3) := by decide +kernel
theorem dX4_clear_25 : decode cX4_clear 25 = .ok (.return_, 1) := by decide +kernel
theorem dX4_copy_0 : decode cX4_copy 0 = .ok (.aload_n 0, 1) := by decide +kernel
theorem dX4_copy_1 : decode cX4_copy 1 = .ok (.aload_n 1, 1) := by decide +kernel
theorem dX4_copy_2 : decode cX4_copy 2 = .ok (.getfield 9, 3) := by decide +kernel
theorem dX4_copy_5 : decode cX4_copy 5 = .ok (.putfield 9, 3) := by decide +kernel
theorem dX4_copy_8 : decode cX4_copy 8 = .ok (.aload_n 0, 1) := by decide +kernel
theorem dX4_copy_9 : decode cX4_copy 9 = .ok (.aload_n 1, 1) := by decide +kernel
theorem dX4_copy_10 : decode cX4_copy 10 = .ok (.getfield 15, 3) := by decide +kernel
theorem dX4_copy_13 : decode cX4_copy 13 = .ok (.putfield 15, 3) := by decide +kernel
theorem dX4_copy_16 : decode cX4_copy 16 = .ok (.aload_n 0, 1) := by decide +kernel
theorem dX4_copy_17 : decode cX4_copy 17 = .ok (.aload_n 1, 1) := by decide +kernel
theorem dX4_copy_18 : decode cX4_copy 18 = .ok (.getfield 24, 3) := by decide +kernel
theorem dX4_copy_21 : decode cX4_copy 21 = .ok (.putfield 24, 3) := by decide +kernel
theorem dX4_copy_24 : decode cX4_copy 24 = .ok (.aload_n 0, 1) := by decide +kernel
theorem dX4_copy_25 : decode cX4_copy 25 = .ok (.aload_n 1, 1) := by decide +kernel
theorem dX4_copy_26 : decode cX4_copy 26 = .ok (.getfield 27, 3) := by decide +kernel
theorem dX4_copy_29 : decode cX4_copy 29 = .ok (.putfield 27, 3) := by decide +kernel
theorem dX4_copy_32 : decode cX4_copy 32 = .ok (.aload_n 0, 1) := by decide +kernel
theorem dX4_copy_33 : decode cX4_copy 33 = .ok (.aload_n 1, 1) := by decide +kernel
theorem dX4_copy_34 : decode cX4_copy 34 = .ok (.getfield 30, 3) := by decide +kernel
theorem dX4_copy_37 : decode cX4_copy 37 = .ok (.putfield 30, 3) := by decide +kernel
theorem dX4_copy_40 : decode cX4_copy 40 = .ok (.aload_n 0, 1) := by decide +kernel
theorem dX4_copy_41 : decode cX4_copy 41 = .ok (.aload_n 1, 1) := by decide +kernel
theorem dX4_copy_42 : decode cX4_copy 42 = .ok (.getfield 33, 3) := by decide +kernel
theorem dX4_copy_45 : decode cX4_copy 45 = .ok (.putfield 33, 3) := by decide +kernel
theorem dX4_copy_48 : decode cX4_copy 48 = .ok (.aload_n 0, 1) := by decide +kernel
theorem dX4_copy_49 : decode cX4_copy 49 = .ok (.aload_n 1, 1) := by decide +kernel
theorem dX4_copy_50 : decode cX4_copy 50 = .ok (.getfield 36, 3) := by decide +kernel
theorem dX4_copy_53 : decode cX4_copy 53 = .ok (.putfield 36, 3) := by decide +kernel
theorem dX4_copy_56 : decode cX4_copy 56 = .ok (.aload_n 0, 1) := by decide +kernel
theorem dX4_copy_57 : decode cX4_copy 57 = .ok (.aload_n 1, 1) := by decide +kernel
theorem dX4_copy_58 : decode cX4_copy 58 = .ok (.getfield 18, 3) := by decide +kernel
theorem dX4_copy_61 : decode cX4_copy 61 = .ok (.putfield 18, 3) := by decide +kernel
theorem dX4_copy_64 : decode cX4_copy 64 = .ok (.return_, 1) := by decide +kernel
theorem dX4_isKnitted_0 : decode cX4_isKnitted 0 = .ok (.aload_n 0, 1) := by decide +kernel
theorem dX4_isKnitted_1 : decode cX4_isKnitted 1 = .ok (.getfield 24, 3) := by decide +kernel
theorem dX4_isKnitted_4 : decode cX4_isKnitted 4 = .ok (.iconst (-1), 1) := by decide +kernel
theorem dX4_isKnitted_5 : decode cX4_isKnitted 5 = .ok (.if_icmp .eq 7, 3) := by decide +kernel
theorem dX4_isKnitted_8 : decode cX4_isKnitted 8 = .ok (.iconst 1, 1) := by decide +kernel
theorem dX4_isKnitted_9 : decode cX4_isKnitted 9 = .ok (.goto 4, 3) := by decide +kernel
theorem dX4_isKnitted_12 : decode cX4_isKnitted 12 = .ok (.iconst 0, 1) := by decide +kernel
theorem dX4_isKnitted_13 : decode cX4_isKnitted 13 = .ok (.ireturn, 1) := by decide +kernel
theorem dX4_isMixed_0 : decode cX4_isMixed 0 = .ok (.aload_n 0, 1) := by decide +kernel
theorem dX4_isMixed_1 : decode cX4_isMixed 1 = .ok (.getfield 27, 3) := by decide +kernel
theorem dX4_isMixed_4 : decode cX4_isMixed 4 = .ok (.iconst (-1), 1) := by decide +kernel
theorem dX4_isMixed_5 : decode cX4_isMixed 5 = .ok (.if_icmp .eq 7, 3) := by decide +kernel
theorem dX4_isMixed_8 : decode cX4_isMixed 8 = .ok (.iconst 1, 1) := by decide +kernel
theorem dX4_isMixed_9 : decode cX4_isMixed 9 = .ok (.goto 4, 3) := by decide +kernel
theorem dX4_isMixed_12 : decode cX4_isMixed 12 = .ok (.iconst 0, 1) := by decide +kernel
theorem dX4_isMixed_13 : decode cX4_isMixed 13 = .ok (.ireturn, 1) := by decide +kernel
theorem dX4_isOf_0 : decode cX4_isOf 0 = .ok (.iload_n 1, 1) := by decide +kernel
theorem dX4_isOf_1 : decode cX4_isOf 1 = .ok (.ifCond .eq 24, 3) := by decide +kernel
theorem dX4_isOf_4 : decode cX4_isOf 4 = .ok (.iload_n 1, 1) := by decide +kernel
theorem dX4_isOf_5 : decode cX4_isOf 5 = .ok (.aload_n 0, 1) := by decide +kernel
theorem dX4_isOf_6 : decode cX4_isOf 6 = .ok (.getfield 9, 3) := by decide +kernel
theorem dX4_isOf_9 : decode cX4_isOf 9 = .ok (.if_icmp .eq 16, 3) := by decide +kernel
theorem dX4_isOf_12 : decode cX4_isOf 12 = .ok (.aload_n 0, 1) := by decide +kernel
theorem dX4_isOf_13 : decode cX4_isOf 13 = .ok (.getfield 9, 3) := by decide +kernel
theorem dX4_isOf_16 : decode cX4_isOf 16 = .ok (.iconst 4, 1) := by decide +kernel
theorem dX4_isOf_17 : decode cX4_isOf 17 = .ok (.if_icmp .ne 12, 3) := by decide +kernel
theorem dX4_isOf_20 : decode cX4_isOf 20 = .ok (.iload_n 1, 1) := by decide +kernel
theorem dX4_isOf_21 : decode cX4_isOf 21 = .ok (.iconst 3, 1) := by decide +kernel
theorem dX4_isOf_22 : decode cX4_isOf 22 = .ok (.if_icmp .ne 7, 3) := by decide +kernel
theorem dX4_isOf_25 : decode cX4_isOf 25 = .ok (.iconst 1, 1) := by decide +kernel
theorem dX4_isOf_26 : decode cX4_isOf 26 = .ok (.goto 4, 3) := by decide +kernel
theorem dX4_isOf_29 : decode cX4_isOf 29 = .ok (.iconst 0, 1) := by decide +kernel
theorem dX4_isOf_30 : decode cX4_isOf 30 = .ok (.ireturn, 1) := by decide +kernel
theorem dX4_light_0 : decode cX4_light 0 = .ok (.aload_n 0, 1) := by decide +kernel
theorem dX4_light_1 : decode cX4_light 1 = .ok (.getfield 9, 3) := by decide +kernel
theorem dX4_light_4 : decode cX4_light 4 = .ok (.ifCond .lt 25, 3) := by decide +kernel
theorem dX4_light_7 : decode cX4_light 7 = .ok (.aload_n 0, 1) := by decide +kernel
theorem dX4_light_8 : decode cX4_light 8 = .ok (.getfield 9, 3) := by decide +kernel
theorem dX4_light_11 : decode cX4_light 11 = .ok (.getstatic 40, 3) := by decide +kernel
theorem dX4_light_14 : decode cX4_light 14 = .ok (.arraylength, 1) := by decide +kernel
theorem dX4_light_15 : decode cX4_light 15 = .ok (.if_icmp .ge 14, 3) := by decide +kernel
theorem dX4_light_18 : decode cX4_light 18 = .ok (.getstatic 40, 3) := by decide +kernel
theorem dX4_light_21 : decode cX4_light 21 = .ok (.aload_n 0, 1) := by decide +kernel
theorem dX4_light_22 : decode cX4_light 22 = .ok (.getfield 9, 3) := by decide +kernel
theorem dX4_light_25 : decode cX4_light 25 = .ok (.iaload, 1) := by decide +kernel
theorem dX4_light_26 : decode cX4_light 26 = .ok (.goto 4, 3) := by decide +kernel
theorem dX4_light_29 : decode cX4_light 29 = .ok (.iconst 0, 1) := by decide +kernel
theorem dX4_light_30 : decode cX4_light 30 = .ok (.ireturn, 1) := by decide +kernel
theorem dX5_init_0 : decode cX5_init 0 = .ok (.aload_n 0, 1) := by decide +kernel
theorem dX5_init_1 : decode cX5_init 1 = .ok (.invokespecial 3, 3) := by decide +kernel
theorem dX5_init_4 : decode cX5_init 4 = .ok (.aload_n 0, 1) := by decide +kernel
theorem dX5_init_5 : decode cX5_init 5 = .ok (.iconst 5, 1) := by decide +kernel
theorem dX5_init_6 : decode cX5_init 6 = .ok (.newarray .int, 2) := by decide +kernel
theorem dX5_init_8 : decode cX5_init 8 = .ok (.putfield 9, 3) := by decide +kernel
theorem dX5_init_11 : decode cX5_init 11 = .ok (.aload_n 0, 1) := by decide +kernel
theorem dX5_init_12 : decode cX5_init 12 = .ok (.iconst 5, 1) := by decide +kernel
theorem dX5_init_13 : decode cX5_init 13 = .ok (.newarray .int, 2) := by decide +kernel
theorem dX5_init_15 : decode cX5_init 15 = .ok (.putfield 15, 3) := by decide +kernel
theorem dX5_init_18 : decode cX5_init 18 = .ok (.aload_n 0, 1) := by decide +kernel
theorem dX5_init_19 : decode cX5_init 19 = .ok (.iconst 5, 1) := by decide +kernel
theorem dX5_init_20 : decode cX5_init 20 = .ok (.newarray .int, 2) := by decide +kernel
theorem dX5_init_22 : decode cX5_init 22 = .ok (.putfield 18, 3) := by decide +kernel
theorem dX5_init_25 : decode cX5_init 25 = .ok (.aload_n 0, 1) := by decide +kernel
theorem dX5_init_26 : decode cX5_init 26 = .ok (.iconst 3, 1) := by decide +kernel
theorem dX5_init_27 : decode cX5_init 27 = .ok (.newarray .int, 2) := by decide +kernel
theorem dX5_init_29 : decode cX5_init 29 = .ok (.putfield 21, 3) := by decide +kernel
theorem dX5_init_32 : decode cX5_init 32 = .ok (.return_, 1) := by decide +kernel
theorem dX5_search_0 : decode cX5_search 0 = .ok (.aload_n 0, 1) := by decide +kernel
theorem dX5_search_1 : decode cX5_search 1 = .ok (.iconst 0, 1) := by decide +kernel
theorem dX5_search_2 : decode cX5_search 2 = .ok (.putfield 24, 3) := by decide +kernel
theorem dX5_search_5 : decode cX5_search 5 = .ok (.aload_n 0, 1) := by decide +kernel
theorem dX5_search_6 : decode cX5_search 6 = .ok (.iconst 0, 1) := by decide +kernel
theorem dX5_search_7 : decode cX5_search 7 = .ok (.putfield 28, 3) := by decide +kernel
theorem dX5_search_10 : decode cX5_search 10 = .ok (.iconst 0, 1) := by decide +kernel
theorem dX5_search_11 : decode cX5_search 11 = .ok (.istore_n 2, 1) := by decide +kernel
theorem dX5_search_12 : decode cX5_search 12 = .ok (.iload_n 2, 1) := by decide +kernel
theorem dX5_search_13 : decode cX5_search 13 = .ok (.aload_n 1, 1) := by decide +kernel
theorem dX5_search_14 : decode cX5_search 14 = .ok (.getfield 32, 3) := by decide +kernel
theorem dX5_search_17 : decode cX5_search 17 = .ok (.if_icmp .ge 24, 3) := by decide +kernel
theorem dX5_search_20 : decode cX5_search 20 = .ok (.aload_n 0, 1) := by decide +kernel
theorem dX5_search_21 : decode cX5_search 21 = .ok (.getfield 21, 3) := by decide +kernel
theorem dX5_search_24 : decode cX5_search 24 = .ok (.iload_n 2, 1) := by decide +kernel
theorem dX5_search_25 : decode cX5_search 25 = .ok (.aload_n 1, 1) := by decide +kernel
theorem dX5_search_26 : decode cX5_search 26 = .ok (.getfield 37, 3) := by decide +kernel
theorem dX5_search_29 : decode cX5_search 29 = .ok (.iload_n 2, 1) := by decide +kernel
theorem dX5_search_30 : decode cX5_search 30 = .ok (.aaload, 1) := by decide +kernel
theorem dX5_search_31 : decode cX5_search 31 = .ok (.invokevirtual 41, 3) := by decide +kernel
theorem dX5_search_34 : decode cX5_search 34 = .ok (.iastore, 1) := by decide +kernel
theorem dX5_search_35 : decode cX5_search 35 = .ok (.iinc 2 1, 3) := by decide +kernel
theorem dX5_search_38 : decode cX5_search 38 = .ok (.goto (-26), 3) := by decide +kernel
theorem dX5_search_41 : decode cX5_search 41 = .ok (.aload_n 0, 1) := by decide +kernel
theorem dX5_search_42 : decode cX5_search 42 = .ok (.aload_n 1, 1) := by decide +kernel
theorem dX5_search_43 : decode cX5_search 43 = .ok (.iconst 0, 1) := by decide +kernel
theorem dX5_search_44 : decode cX5_search 44 = .ok (.iconst 0, 1) := by decide +kernel
theorem dX5_search_45 : decode cX5_search 45 = .ok (.invokestatic 47, 3) := by decide +kernel
theorem dX5_search_48 : decode cX5_search 48 = .ok (.return_, 1) := by decide +kernel
theorem dX5_choose_0 : decode cX5_choose 0 = .ok (.aload_n 0, 1) := by decide +kernel
theorem dX5_choose_1 : decode cX5_choose 1 = .ok (.getfield 24, 3) := by decide +kernel
theorem dX5_choose_4 : decode cX5_choose 4 = .ok (.ifCond .eq 12, 3) := by decide +kernel
theorem dX5_choose_7 : decode cX5_choose 7 = .ok (.iload_n 3, 1) := by decide +kernel
theorem dX5_choose_8 : decode cX5_choose 8 = .ok (.aload_n 0, 1) := by decide +kernel
theorem dX5_choose_9 : decode cX5_choose 9 = .ok (.getfield 28, 3) := by decide +kernel
theorem dX5_choose_12 : decode cX5_choose 12 = .ok (.if_icmp .lt 4, 3) := by decide +kernel
theorem dX5_choose_15 : decode cX5_choose 15 = .ok (.return_, 1) := by decide +kernel
theorem dX5_choose_16 : decode cX5_choose 16 = .ok (.iload_n 2, 1) := by decide +kernel
theorem dX5_choose_17 : decode cX5_choose 17 = .ok (.aload_n 1, 1) := by decide +kernel
theorem dX5_choose_18 : decode cX5_choose 18 = .ok (.getfield 51, 3) := by decide +kernel
theorem dX5_choose_21 : decode cX5_choose 21 = .ok (.if_icmp .ge 8, 3) := by decide +kernel
theorem dX5_choose_24 : decode cX5_choose 24 = .ok (.iload_n 2, 1) := by decide +kernel
theorem dX5_choose_25 : decode cX5_choose 25 = .ok (.iconst 5, 1) := by decide +kernel
theorem dX5_choose_26 : decode cX5_choose 26 = .ok (.if_icmp .lt 9, 3) := by decide +kernel
theorem dX5_choose_29 : decode cX5_choose 29 = .ok (.aload_n 0, 1) := by decide +kernel
theorem dX5_choose_30 : decode cX5_choose 30 = .ok (.iload_n 3, 1) := by decide +kernel
theorem dX5_choose_31 : decode cX5_choose 31 = .ok (.invokevirtual 54, 3) := by decide +kernel
theorem dX5_choose_34 : decode cX5_choose 34 = .ok (.return_, 1) := by decide +kernel
theorem dX5_choose_35 : decode cX5_choose 35 = .ok (.aload_n 1, 1) := by decide +kernel
theorem dX5_choose_36 : decode cX5_choose 36 = .ok (.getfield 58, 3) := by decide +kernel
theorem dX5_choose_39 : decode cX5_choose 39 = .ok (.iload_n 2, 1) := by decide +kernel
theorem dX5_choose_40 : decode cX5_choose 40 = .ok (.aaload, 1) := by decide +kernel
theorem dX5_choose_41 : decode cX5_choose 41 = .ok (.invokevirtual 62, 3) := by decide +kernel
theorem dX5_choose_44 : decode cX5_choose 44 = .ok (.ifCond .eq 23, 3) := by decide +kernel
theorem dX5_choose_47 : decode cX5_choose 47 = .ok (.aload_n 0, 1) := by decide +kernel
theorem dX5_choose_48 : decode cX5_choose 48 = .ok (.getfield 9, 3) := by decide +kernel
theorem dX5_choose_51 : decode cX5_choose 51 = .ok (.iload_n 2, 1) := by decide +kernel
theorem dX5_choose_52 : decode cX5_choose 52 = .ok (.iconst (-1), 1) := by decide +kernel
theorem dX5_choose_53 : decode cX5_choose 53 = .ok (.iastore, 1) := by decide +kernel
theorem dX5_choose_54 : decode cX5_choose 54 = .ok (.aload_n 0, 1) := by decide +kernel
theorem dX5_choose_55 : decode cX5_choose 55 = .ok (.aload_n 1, 1) := by decide +kernel
theorem dX5_choose_56 : decode cX5_choose 56 = .ok (.iload_n 2, 1) := by decide +kernel
theorem dX5_choose_57 : decode cX5_choose 57 = .ok (.aload_n 1, 1) := by decide +kernel
theorem dX5_choose_58 : decode cX5_choose 58 = .ok (.iload_n 2, 1) := by decide +kernel
theorem dX5_choose_59 : decode cX5_choose 59 = .ok (.invokevirtual 68, 3) := by decide +kernel
theorem dX5_choose_62 : decode cX5_choose 62 = .ok (.iload_n 3, 1) := by decide +kernel
theorem dX5_choose_63 : decode cX5_choose 63 = .ok (.invokestatic 72, 3) := by decide +kernel
theorem dX5_choose_66 : decode cX5_choose 66 = .ok (.return_, 1) := by decide +kernel
theorem dX5_choose_67 : decode cX5_choose 67 = .ok (.iconst 0, 1) := by decide +kernel
theorem dX5_choose_68 : decode cX5_choose 68 = .ok (.istore 4, 2) := by decide +kernel
theorem dX5_choose_70 : decode cX5_choose 70 = .ok (.iload 4, 2) := by decide +kernel
theorem dX5_choose_72 : decode cX5_choose 72 = .ok (.aload_n 1, 1) := by decide +kernel
theorem dX5_choose_73 : decode cX5_choose 73 = .ok (.getfield 32, 3) := by decide +kernel
theorem dX5_choose_76 : decode cX5_choose 76 = .ok (.if_icmp .ge 38, 3) := by decide +kernel
theorem dX5_choose_79 : decode cX5_choose 79 = .ok (.iconst 0, 1) := by decide +kernel
theorem dX5_choose_80 : decode cX5_choose 80 = .ok (.istore 5, 2) := by decide +kernel
theorem dX5_choose_82 : decode cX5_choose 82 = .ok (.iload 5, 2) := by decide +kernel
theorem dX5_choose_84 : decode cX5_choose 84 = .ok (.aload_n 1, 1) := by decide +kernel
theorem dX5_choose_85 : decode cX5_choose 85 = .ok (.getfield 32, 3) := by decide +kernel
theorem dX5_choose_88 : decode cX5_choose 88 = .ok (.if_icmp .ge 20, 3) := by decide +kernel
theorem dX5_choose_91 : decode cX5_choose 91 = .ok (.aload_n 0, 1) := by decide +kernel
theorem dX5_choose_92 : decode cX5_choose 92 = .ok (.aload_n 1, 1) := by decide +kernel
theorem dX5_choose_93 : decode cX5_choose 93 = .ok (.iload_n 2, 1) := by decide +kernel
theorem dX5_choose_94 : decode cX5_choose 94 = .ok (.iload 4, 2) := by decide +kernel
theorem dX5_choose_96 : decode cX5_choose 96 = .ok (.iload 5, 2) := by decide +kernel
theorem dX5_choose_98 : decode cX5_choose 98 = .ok (.iload_n 3, 1) := by decide +kernel
theorem dX5_choose_99 : decode cX5_choose 99 = .ok (.invokestatic 76, 3) := by decide +kernel
theorem dX5_choose_102 : decode cX5_choose 102 = .ok (.iinc 5 1, 3) := by decide +kernel
theorem dX5_choose_105 : decode cX5_choose 105 = .ok (.goto (-23), 3) := by decide +kernel
theorem dX5_choose_108 : decode cX5_choose 108 = .ok (.iinc 4 1, 3) := by decide +kernel
theorem dX5_choose_111 : decode cX5_choose 111 = .ok (.goto (-41), 3) := by decide +kernel
theorem dX5_choose_114 : decode cX5_choose 114 = .ok (.return_, 1) := by decide +kernel
theorem dX5_chooseOf_0 : decode cX5_chooseOf 0 = .ok (.aload_n 1, 1) := by decide +kernel
theorem dX5_chooseOf_1 : decode cX5_chooseOf 1 = .ok (.getfield 58, 3) := by decide +kernel
theorem dX5_chooseOf_4 : decode cX5_chooseOf 4 = .ok (.iload_n 2, 1) := by decide +kernel
theorem dX5_chooseOf_5 : decode cX5_chooseOf 5 = .ok (.aaload, 1) := by decide +kernel
theorem dX5_chooseOf_6 : decode cX5_chooseOf 6 = .ok (.getfield 80, 3) := by decide +kernel
theorem dX5_chooseOf_9 : decode cX5_chooseOf 9 = .ok (.istore 6, 2) := by decide +kernel
theorem dX5_chooseOf_11 : decode cX5_chooseOf 11 = .ok (.iload 6, 2) := by decide +kernel
theorem dX5_chooseOf_13 : decode cX5_chooseOf 13 = .ok (.iload_n 3, 1) := by decide +kernel
theorem dX5_chooseOf_14 : decode cX5_chooseOf 14 = .ok (.iload 4, 2) := by decide +kernel
theorem dX5_chooseOf_16 : decode cX5_chooseOf 16 = .ok (.invokestatic 82, 3) := by decide +kernel
theorem dX5_chooseOf_19 : decode cX5_chooseOf 19 = .ok (.istore 7, 2) := by decide +kernel
theorem dX5_chooseOf_21 : decode cX5_chooseOf 21 = .ok (.iload 6, 2) := by decide +kernel
theorem dX5_chooseOf_23 : decode cX5_chooseOf 23 = .ok (.iload 7, 2) := by decide +kernel
theorem dX5_chooseOf_25 : decode cX5_chooseOf 25 = .ok (.isub, 1) := by decide +kernel
theorem dX5_chooseOf_26 : decode cX5_chooseOf 26 = .ok (.istore 8, 2) := by decide +kernel
theorem dX5_chooseOf_28 : decode cX5_chooseOf 28 = .ok (.aload_n 0, 1) := by decide +kernel
theorem dX5_chooseOf_29 : decode cX5_chooseOf 29 = .ok (.getfield 21, 3) := by decide +kernel
theorem dX5_chooseOf_32 : decode cX5_chooseOf 32 = .ok (.iload_n 3, 1) := by decide +kernel
theorem dX5_chooseOf_33 : decode cX5_chooseOf 33 = .ok (.iaload, 1) := by decide +kernel
theorem dX5_chooseOf_34 : decode cX5_chooseOf 34 = .ok (.iload 7, 2) := by decide +kernel
theorem dX5_chooseOf_36 : decode cX5_chooseOf 36 = .ok (.if_icmp .lt 15, 3) := by decide +kernel
theorem dX5_chooseOf_39 : decode cX5_chooseOf 39 = .ok (.aload_n 0, 1) := by decide +kernel
theorem dX5_chooseOf_40 : decode cX5_chooseOf 40 = .ok (.getfield 21, 3) := by decide +kernel
theorem dX5_chooseOf_43 : decode cX5_chooseOf 43 = .ok (.iload 4, 2) := by decide +kernel
theorem dX5_chooseOf_45 : decode cX5_chooseOf 45 = .ok (.iaload, 1) := by decide +kernel
theorem dX5_chooseOf_46 : decode cX5_chooseOf 46 = .ok (.iload 8, 2) := by decide +kernel
theorem dX5_chooseOf_48 : decode cX5_chooseOf 48 = .ok (.if_icmp .ge 4, 3) := by decide +kernel
theorem dX5_chooseOf_51 : decode cX5_chooseOf 51 = .ok (.return_, 1) := by decide +kernel
theorem dX5_chooseOf_52 : decode cX5_chooseOf 52 = .ok (.aload_n 0, 1) := by decide +kernel
theorem dX5_chooseOf_53 : decode cX5_chooseOf 53 = .ok (.getfield 21, 3) := by decide +kernel
theorem dX5_chooseOf_56 : decode cX5_chooseOf 56 = .ok (.iload_n 3, 1) := by decide +kernel
theorem dX5_chooseOf_57 : decode cX5_chooseOf 57 = .ok (.dup2, 1) := by decide +kernel
theorem dX5_chooseOf_58 : decode cX5_chooseOf 58 = .ok (.iaload, 1) := by decide +kernel
theorem dX5_chooseOf_59 : decode cX5_chooseOf 59 = .ok (.iload 7, 2) := by decide +kernel
theorem dX5_chooseOf_61 : decode cX5_chooseOf 61 = .ok (.isub, 1) := by decide +kernel
theorem dX5_chooseOf_62 : decode cX5_chooseOf 62 = .ok (.iastore, 1) := by decide +kernel
theorem dX5_chooseOf_63 : decode cX5_chooseOf 63 = .ok (.aload_n 0, 1) := by decide +kernel
theorem dX5_chooseOf_64 : decode cX5_chooseOf 64 = .ok (.getfield 21, 3) := by decide +kernel
theorem dX5_chooseOf_67 : decode cX5_chooseOf 67 = .ok (.iload 4, 2) := by decide +kernel
theorem dX5_chooseOf_69 : decode cX5_chooseOf 69 = .ok (.dup2, 1) := by decide +kernel
theorem dX5_chooseOf_70 : decode cX5_chooseOf 70 = .ok (.iaload, 1) := by decide +kernel
theorem dX5_chooseOf_71 : decode cX5_chooseOf 71 = .ok (.iload 8, 2) := by decide +kernel
theorem dX5_chooseOf_73 : decode cX5_chooseOf 73 = .ok (.isub, 1) := by decide +kernel
theorem dX5_chooseOf_74 : decode cX5_chooseOf 74 = .ok (.iastore, 1) := by decide +kernel
theorem dX5_chooseOf_75 : decode cX5_chooseOf 75 = .ok (.aload_n 0, 1) := by decide +kernel
theorem dX5_chooseOf_76 : decode cX5_chooseOf 76 = .ok (.getfield 9, 3) := by decide +kernel
theorem dX5_chooseOf_79 : decode cX5_chooseOf 79 = .ok (.iload_n 2, 1) := by decide +kernel
theorem dX5_chooseOf_80 : decode cX5_chooseOf 80 = .ok (.iconst 4, 1) := by decide +kernel
theorem dX5_chooseOf_81 : decode cX5_chooseOf 81 = .ok (.iload_n 3, 1) := by decide +kernel
theorem dX5_chooseOf_82 : decode cX5_chooseOf 82 = .ok (.imul, 1) := by decide +kernel
theorem dX5_chooseOf_83 : decode cX5_chooseOf 83 = .ok (.iload 4, 2) := by decide +kernel
theorem dX5_chooseOf_85 : decode cX5_chooseOf 85 = .ok (.iadd, 1) := by decide +kernel
theorem dX5_chooseOf_86 : decode cX5_chooseOf 86 = .ok (.iastore, 1) := by decide +kernel
theorem dX5_chooseOf_87 : decode cX5_chooseOf 87 = .ok (.aload_n 0, 1) := by decide +kernel
theorem dX5_chooseOf_88 : decode cX5_chooseOf 88 = .ok (.aload_n 1, 1) := by decide +kernel
theorem dX5_chooseOf_89 : decode cX5_chooseOf 89 = .ok (.iload_n 2, 1) := by decide +kernel
theorem dX5_chooseOf_90 : decode cX5_chooseOf 90 = .ok (.aload_n 1, 1) := by decide +kernel
theorem dX5_chooseOf_91 : decode cX5_chooseOf 91 = .ok (.getfield 37, 3) := by decide +kernel
theorem dX5_chooseOf_94 : decode cX5_chooseOf 94 = .ok (.iload_n 3, 1) := by decide +kernel
theorem dX5_chooseOf_95 : decode cX5_chooseOf 95 = .ok (.aaload, 1) := by decide +kernel
theorem dX5_chooseOf_96 : decode cX5_chooseOf 96 = .ok (.getfield 86, 3) := by decide +kernel
theorem dX5_chooseOf_99 : decode cX5_chooseOf 99 = .ok (.aload_n 1, 1) := by decide +kernel
theorem dX5_chooseOf_100 : decode cX5_chooseOf 100 = .ok (.getfield 37, 3) := by decide +kernel
theorem dX5_chooseOf_103 : decode cX5_chooseOf 103 = .ok (.iload 4, 2) := by decide +kernel
theorem dX5_chooseOf_105 : decode cX5_chooseOf 105 = .ok (.aaload, 1) := by decide +kernel
theorem dX5_chooseOf_106 : decode cX5_chooseOf 106 = .ok (.getfield 86, 3) := by decide +kernel
theorem dX5_chooseOf_109 : decode cX5_chooseOf 109 = .ok (.iadd, 1) := by decide +kernel
theorem dX5_chooseOf_110 : decode cX5_chooseOf 110 = .ok (.iload 5, 2) := by decide +kernel
theorem dX5_chooseOf_112 : decode cX5_chooseOf 112 = .ok (.invokestatic 72, 3) := by decide +kernel
theorem dX5_chooseOf_115 : decode cX5_chooseOf 115 = .ok (.aload_n 0, 1) := by decide +kernel
theorem dX5_chooseOf_116 : decode cX5_chooseOf 116 = .ok (.getfield 21, 3) := by decide +kernel
theorem dX5_chooseOf_119 : decode cX5_chooseOf 119 = .ok (.iload_n 3, 1) := by decide +kernel
theorem dX5_chooseOf_120 : decode cX5_chooseOf 120 = .ok (.dup2, 1) := by decide +kernel
theorem dX5_chooseOf_121 : decode cX5_chooseOf 121 = .ok (.iaload, 1) := by decide +kernel
theorem dX5_chooseOf_122 : decode cX5_chooseOf 122 = .ok (.iload 7, 2) := by decide +kernel
theorem dX5_chooseOf_124 : decode cX5_chooseOf 124 = .ok (.iadd, 1) := by decide +kernel
theorem dX5_chooseOf_125 : decode cX5_chooseOf 125 = .ok (.iastore, 1) := by decide +kernel
theorem dX5_chooseOf_126 : decode cX5_chooseOf 126 = .ok (.aload_n 0, 1) := by decide +kernel
theorem dX5_chooseOf_127 : decode cX5_chooseOf 127 = .ok (.getfield 21, 3) := by decide +kernel
theorem dX5_chooseOf_130 : decode cX5_chooseOf 130 = .ok (.iload 4, 2) := by decide +kernel
theorem dX5_chooseOf_132 : decode cX5_chooseOf 132 = .ok (.dup2, 1) := by decide +kernel
theorem dX5_chooseOf_133 : decode cX5_chooseOf 133 = .ok (.iaload, 1) := by decide +kernel
theorem dX5_chooseOf_134 : decode cX5_chooseOf 134 = .ok (.iload 8, 2) := by decide +kernel
theorem dX5_chooseOf_136 : decode cX5_chooseOf 136 = .ok (.iadd, 1) := by decide +kernel
theorem dX5_chooseOf_137 : decode cX5_chooseOf 137 = .ok (.iastore, 1) := by decide +kernel
theorem dX5_chooseOf_138 : decode cX5_chooseOf 138 = .ok (.return_, 1) := by decide +kernel
theorem dX5_goOn_0 : decode cX5_goOn 0 = .ok (.aload_n 0, 1) := by decide +kernel
theorem dX5_goOn_1 : decode cX5_goOn 1 = .ok (.getfield 18, 3) := by decide +kernel
theorem dX5_goOn_4 : decode cX5_goOn 4 = .ok (.iload_n 2, 1) := by decide +kernel
theorem dX5_goOn_5 : decode cX5_goOn 5 = .ok (.iload_n 3, 1) := by decide +kernel
theorem dX5_goOn_6 : decode cX5_goOn 6 = .ok (.iastore, 1) := by decide +kernel
theorem dX5_goOn_7 : decode cX5_goOn 7 = .ok (.iload_n 2, 1) := by decide +kernel
theorem dX5_goOn_8 : decode cX5_goOn 8 = .ok (.ifCond .le 22, 3) := by decide +kernel
theorem dX5_goOn_11 : decode cX5_goOn 11 = .ok (.aload_n 1, 1) := by decide +kernel
theorem dX5_goOn_12 : decode cX5_goOn 12 = .ok (.iload_n 2, 1) := by decide +kernel
theorem dX5_goOn_13 : decode cX5_goOn 13 = .ok (.iconst 1, 1) := by decide +kernel
theorem dX5_goOn_14 : decode cX5_goOn 14 = .ok (.isub, 1) := by decide +kernel
theorem dX5_goOn_15 : decode cX5_goOn 15 = .ok (.aload_n 0, 1) := by decide +kernel
theorem dX5_goOn_16 : decode cX5_goOn 16 = .ok (.getfield 18, 3) := by decide +kernel
theorem dX5_goOn_19 : decode cX5_goOn 19 = .ok (.iload_n 2, 1) := by decide +kernel
theorem dX5_goOn_20 : decode cX5_goOn 20 = .ok (.iconst 1, 1) := by decide +kernel
theorem dX5_goOn_21 : decode cX5_goOn 21 = .ok (.isub, 1) := by decide +kernel
theorem dX5_goOn_22 : decode cX5_goOn 22 = .ok (.iaload, 1) := by decide +kernel
theorem dX5_goOn_23 : decode cX5_goOn 23 = .ok (.iload_n 3, 1) := by decide +kernel
theorem dX5_goOn_24 : decode cX5_goOn 24 = .ok (.invokevirtual 89, 3) := by decide +kernel
theorem dX5_goOn_27 : decode cX5_goOn 27 = .ok (.goto 4, 3) := by decide +kernel
theorem dX5_goOn_30 : decode cX5_goOn 30 = .ok (.iconst 0, 1) := by decide +kernel
theorem dX5_goOn_31 : decode cX5_goOn 31 = .ok (.istore 5, 2) := by decide +kernel
theorem dX5_goOn_33 : decode cX5_goOn 33 = .ok (.aload_n 0, 1) := by decide +kernel
theorem dX5_goOn_34 : decode cX5_goOn 34 = .ok (.aload_n 1, 1) := by decide +kernel
theorem dX5_goOn_35 : decode cX5_goOn 35 = .ok (.iload_n 2, 1) := by decide +kernel
theorem dX5_goOn_36 : decode cX5_goOn 36 = .ok (.iconst 1, 1) := by decide +kernel
theorem dX5_goOn_37 : decode cX5_goOn 37 = .ok (.iadd, 1) := by decide +kernel
theorem dX5_goOn_38 : decode cX5_goOn 38 = .ok (.iload 4, 2) := by decide +kernel
theorem dX5_goOn_40 : decode cX5_goOn 40 = .ok (.iload 5, 2) := by decide +kernel
theorem dX5_goOn_42 : decode cX5_goOn 42 = .ok (.iadd, 1) := by decide +kernel
theorem dX5_goOn_43 : decode cX5_goOn 43 = .ok (.invokestatic 47, 3) := by decide +kernel
theorem dX5_goOn_46 : decode cX5_goOn 46 = .ok (.return_, 1) := by decide +kernel
theorem dX5_keep_0 : decode cX5_keep 0 = .ok (.aload_n 0, 1) := by decide +kernel
theorem dX5_keep_1 : decode cX5_keep 1 = .ok (.iconst 1, 1) := by decide +kernel
theorem dX5_keep_2 : decode cX5_keep 2 = .ok (.putfield 24, 3) := by decide +kernel
theorem dX5_keep_5 : decode cX5_keep 5 = .ok (.aload_n 0, 1) := by decide +kernel
theorem dX5_keep_6 : decode cX5_keep 6 = .ok (.iload_n 1, 1) := by decide +kernel
theorem dX5_keep_7 : decode cX5_keep 7 = .ok (.putfield 28, 3) := by decide +kernel
theorem dX5_keep_10 : decode cX5_keep 10 = .ok (.aload_n 0, 1) := by decide +kernel
theorem dX5_keep_11 : decode cX5_keep 11 = .ok (.getfield 9, 3) := by decide +kernel
theorem dX5_keep_14 : decode cX5_keep 14 = .ok (.iconst 0, 1) := by decide +kernel
theorem dX5_keep_15 : decode cX5_keep 15 = .ok (.aload_n 0, 1) := by decide +kernel
theorem dX5_keep_16 : decode cX5_keep 16 = .ok (.getfield 15, 3) := by decide +kernel
theorem dX5_keep_19 : decode cX5_keep 19 = .ok (.iconst 0, 1) := by decide +kernel
theorem dX5_keep_20 : decode cX5_keep 20 = .ok (.iconst 5, 1) := by decide +kernel
theorem dX5_keep_21 : decode cX5_keep 21 = .ok (.invokestatic 92, 3) := by decide +kernel
theorem dX5_keep_24 : decode cX5_keep 24 = .ok (.return_, 1) := by decide +kernel
