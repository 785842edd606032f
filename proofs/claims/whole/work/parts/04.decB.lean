theorem dX6_init_0 : decode cX6_init 0 = .ok (.aload_n 0, 1) := by decide +kernel
theorem dX6_init_1 : decode cX6_init 1 = .ok (.invokespecial 3, 3) := by decide +kernel
theorem dX6_init_4 : decode cX6_init 4 = .ok (.aload_n 0, 1) := by decide +kernel
theorem dX6_init_5 : decode cX6_init 5 = .ok (.iconst 5, 1) := by decide +kernel
theorem dX6_init_6 : decode cX6_init 6 = .ok (.anewarray 9, 3) := by decide +kernel
theorem dX6_init_9 : decode cX6_init 9 = .ok (.putfield 11, 3) := by decide +kernel
theorem dX6_init_12 : decode cX6_init 12 = .ok (.aload_n 0, 1) := by decide +kernel
theorem dX6_init_13 : decode cX6_init 13 = .ok (.iconst 3, 1) := by decide +kernel
theorem dX6_init_14 : decode cX6_init 14 = .ok (.anewarray 17, 3) := by decide +kernel
theorem dX6_init_17 : decode cX6_init 17 = .ok (.putfield 19, 3) := by decide +kernel
theorem dX6_init_20 : decode cX6_init 20 = .ok (.iconst 0, 1) := by decide +kernel
theorem dX6_init_21 : decode cX6_init 21 = .ok (.istore_n 1, 1) := by decide +kernel
theorem dX6_init_22 : decode cX6_init 22 = .ok (.iload_n 1, 1) := by decide +kernel
theorem dX6_init_23 : decode cX6_init 23 = .ok (.aload_n 0, 1) := by decide +kernel
theorem dX6_init_24 : decode cX6_init 24 = .ok (.getfield 11, 3) := by decide +kernel
theorem dX6_init_27 : decode cX6_init 27 = .ok (.arraylength, 1) := by decide +kernel
theorem dX6_init_28 : decode cX6_init 28 = .ok (.if_icmp .ge 22, 3) := by decide +kernel
theorem dX6_init_31 : decode cX6_init 31 = .ok (.aload_n 0, 1) := by decide +kernel
theorem dX6_init_32 : decode cX6_init 32 = .ok (.getfield 11, 3) := by decide +kernel
theorem dX6_init_35 : decode cX6_init 35 = .ok (.iload_n 1, 1) := by decide +kernel
theorem dX6_init_36 : decode cX6_init 36 = .ok (.new 9, 3) := by decide +kernel
theorem dX6_init_39 : decode cX6_init 39 = .ok (.dup, 1) := by decide +kernel
theorem dX6_init_40 : decode cX6_init 40 = .ok (.invokespecial 23, 3) := by decide +kernel
theorem dX6_init_43 : decode cX6_init 43 = .ok (.aastore, 1) := by decide +kernel
theorem dX6_init_44 : decode cX6_init 44 = .ok (.iinc 1 1, 3) := by decide +kernel
theorem dX6_init_47 : decode cX6_init 47 = .ok (.goto (-25), 3) := by decide +kernel
theorem dX6_init_50 : decode cX6_init 50 = .ok (.iconst 0, 1) := by decide +kernel
theorem dX6_init_51 : decode cX6_init 51 = .ok (.istore_n 1, 1) := by decide +kernel
theorem dX6_init_52 : decode cX6_init 52 = .ok (.iload_n 1, 1) := by decide +kernel
theorem dX6_init_53 : decode cX6_init 53 = .ok (.aload_n 0, 1) := by decide +kernel
theorem dX6_init_54 : decode cX6_init 54 = .ok (.getfield 19, 3) := by decide +kernel
theorem dX6_init_57 : decode cX6_init 57 = .ok (.arraylength, 1) := by decide +kernel
theorem dX6_init_58 : decode cX6_init 58 = .ok (.if_icmp .ge 22, 3) := by decide +kernel
theorem dX6_init_61 : decode cX6_init 61 = .ok (.aload_n 0, 1) := by decide +kernel
theorem dX6_init_62 : decode cX6_init 62 = .ok (.getfield 19, 3) := by decide +kernel
theorem dX6_init_65 : decode cX6_init 65 = .ok (.iload_n 1, 1) := by decide +kernel
theorem dX6_init_66 : decode cX6_init 66 = .ok (.new 17, 3) := by decide +kernel
theorem dX6_init_69 : decode cX6_init 69 = .ok (.dup, 1) := by decide +kernel
theorem dX6_init_70 : decode cX6_init 70 = .ok (.invokespecial 24, 3) := by decide +kernel
theorem dX6_init_73 : decode cX6_init 73 = .ok (.aastore, 1) := by decide +kernel
theorem dX6_init_74 : decode cX6_init 74 = .ok (.iinc 1 1, 3) := by decide +kernel
theorem dX6_init_77 : decode cX6_init 77 = .ok (.goto (-25), 3) := by decide +kernel
theorem dX6_init_80 : decode cX6_init 80 = .ok (.return_, 1) := by decide +kernel
theorem dX6_begin_0 : decode cX6_begin 0 = .ok (.aload_n 0, 1) := by decide +kernel
theorem dX6_begin_1 : decode cX6_begin 1 = .ok (.iconst 5, 1) := by decide +kernel
theorem dX6_begin_2 : decode cX6_begin 2 = .ok (.aload_n 1, 1) := by decide +kernel
theorem dX6_begin_3 : decode cX6_begin 3 = .ok (.getfield 25, 3) := by decide +kernel
theorem dX6_begin_6 : decode cX6_begin 6 = .ok (.iconst 1, 1) := by decide +kernel
theorem dX6_begin_7 : decode cX6_begin 7 = .ok (.isub, 1) := by decide +kernel
theorem dX6_begin_8 : decode cX6_begin 8 = .ok (.iconst 3, 1) := by decide +kernel
theorem dX6_begin_9 : decode cX6_begin 9 = .ok (.idiv, 1) := by decide +kernel
theorem dX6_begin_10 : decode cX6_begin 10 = .ok (.invokestatic 31, 3) := by decide +kernel
theorem dX6_begin_13 : decode cX6_begin 13 = .ok (.putfield 37, 3) := by decide +kernel
theorem dX6_begin_16 : decode cX6_begin 16 = .ok (.aload_n 0, 1) := by decide +kernel
theorem dX6_begin_17 : decode cX6_begin 17 = .ok (.iconst 0, 1) := by decide +kernel
theorem dX6_begin_18 : decode cX6_begin 18 = .ok (.putfield 40, 3) := by decide +kernel
theorem dX6_begin_21 : decode cX6_begin 21 = .ok (.iconst 0, 1) := by decide +kernel
theorem dX6_begin_22 : decode cX6_begin 22 = .ok (.istore_n 2, 1) := by decide +kernel
theorem dX6_begin_23 : decode cX6_begin 23 = .ok (.iload_n 2, 1) := by decide +kernel
theorem dX6_begin_24 : decode cX6_begin 24 = .ok (.aload_n 0, 1) := by decide +kernel
theorem dX6_begin_25 : decode cX6_begin 25 = .ok (.getfield 37, 3) := by decide +kernel
theorem dX6_begin_28 : decode cX6_begin 28 = .ok (.if_icmp .ge 47, 3) := by decide +kernel
theorem dX6_begin_31 : decode cX6_begin 31 = .ok (.ldc 43, 2) := by decide +kernel
theorem dX6_begin_33 : decode cX6_begin 33 = .ok (.aload_n 1, 1) := by decide +kernel
theorem dX6_begin_34 : decode cX6_begin 34 = .ok (.getfield 45, 3) := by decide +kernel
theorem dX6_begin_37 : decode cX6_begin 37 = .ok (.iconst 3, 1) := by decide +kernel
theorem dX6_begin_38 : decode cX6_begin 38 = .ok (.iload_n 2, 1) := by decide +kernel
theorem dX6_begin_39 : decode cX6_begin 39 = .ok (.imul, 1) := by decide +kernel
theorem dX6_begin_40 : decode cX6_begin 40 = .ok (.iaload, 1) := by decide +kernel
theorem dX6_begin_41 : decode cX6_begin 41 = .ok (.i2c, 1) := by decide +kernel
theorem dX6_begin_42 : decode cX6_begin 42 = .ok (.invokevirtual 49, 3) := by decide +kernel
theorem dX6_begin_45 : decode cX6_begin 45 = .ok (.istore_n 3, 1) := by decide +kernel
theorem dX6_begin_46 : decode cX6_begin 46 = .ok (.aload_n 0, 1) := by decide +kernel
theorem dX6_begin_47 : decode cX6_begin 47 = .ok (.getfield 11, 3) := by decide +kernel
theorem dX6_begin_50 : decode cX6_begin 50 = .ok (.iload_n 2, 1) := by decide +kernel
theorem dX6_begin_51 : decode cX6_begin 51 = .ok (.aaload, 1) := by decide +kernel
theorem dX6_begin_52 : decode cX6_begin 52 = .ok (.iload_n 3, 1) := by decide +kernel
theorem dX6_begin_53 : decode cX6_begin 53 = .ok (.aload_n 1, 1) := by decide +kernel
theorem dX6_begin_54 : decode cX6_begin 54 = .ok (.getfield 45, 3) := by decide +kernel
theorem dX6_begin_57 : decode cX6_begin 57 = .ok (.iconst 3, 1) := by decide +kernel
theorem dX6_begin_58 : decode cX6_begin 58 = .ok (.iload_n 2, 1) := by decide +kernel
theorem dX6_begin_59 : decode cX6_begin 59 = .ok (.imul, 1) := by decide +kernel
theorem dX6_begin_60 : decode cX6_begin 60 = .ok (.iconst 1, 1) := by decide +kernel
theorem dX6_begin_61 : decode cX6_begin 61 = .ok (.iadd, 1) := by decide +kernel
theorem dX6_begin_62 : decode cX6_begin 62 = .ok (.iaload, 1) := by decide +kernel
theorem dX6_begin_63 : decode cX6_begin 63 = .ok (.bipush 48, 2) := by decide +kernel
theorem dX6_begin_65 : decode cX6_begin 65 = .ok (.isub, 1) := by decide +kernel
theorem dX6_begin_66 : decode cX6_begin 66 = .ok (.invokevirtual 55, 3) := by decide +kernel
theorem dX6_begin_69 : decode cX6_begin 69 = .ok (.iinc 2 1, 3) := by decide +kernel
theorem dX6_begin_72 : decode cX6_begin 72 = .ok (.goto (-49), 3) := by decide +kernel
theorem dX6_begin_75 : decode cX6_begin 75 = .ok (.aload_n 0, 1) := by decide +kernel
theorem dX6_begin_76 : decode cX6_begin 76 = .ok (.aload_n 1, 1) := by decide +kernel
theorem dX6_begin_77 : decode cX6_begin 77 = .ok (.getfield 45, 3) := by decide +kernel
theorem dX6_begin_80 : decode cX6_begin 80 = .ok (.iconst 3, 1) := by decide +kernel
theorem dX6_begin_81 : decode cX6_begin 81 = .ok (.aload_n 0, 1) := by decide +kernel
theorem dX6_begin_82 : decode cX6_begin 82 = .ok (.getfield 37, 3) := by decide +kernel
theorem dX6_begin_85 : decode cX6_begin 85 = .ok (.imul, 1) := by decide +kernel
theorem dX6_begin_86 : decode cX6_begin 86 = .ok (.iaload, 1) := by decide +kernel
theorem dX6_begin_87 : decode cX6_begin 87 = .ok (.bipush 48, 2) := by decide +kernel
theorem dX6_begin_89 : decode cX6_begin 89 = .ok (.isub, 1) := by decide +kernel
theorem dX6_begin_90 : decode cX6_begin 90 = .ok (.putfield 59, 3) := by decide +kernel
theorem dX6_begin_93 : decode cX6_begin 93 = .ok (.return_, 1) := by decide +kernel
theorem dX6_copy_0 : decode cX6_copy 0 = .ok (.aload_n 0, 1) := by decide +kernel
theorem dX6_copy_1 : decode cX6_copy 1 = .ok (.aload_n 1, 1) := by decide +kernel
theorem dX6_copy_2 : decode cX6_copy 2 = .ok (.getfield 37, 3) := by decide +kernel
theorem dX6_copy_5 : decode cX6_copy 5 = .ok (.putfield 37, 3) := by decide +kernel
theorem dX6_copy_8 : decode cX6_copy 8 = .ok (.aload_n 0, 1) := by decide +kernel
theorem dX6_copy_9 : decode cX6_copy 9 = .ok (.aload_n 1, 1) := by decide +kernel
theorem dX6_copy_10 : decode cX6_copy 10 = .ok (.getfield 40, 3) := by decide +kernel
theorem dX6_copy_13 : decode cX6_copy 13 = .ok (.putfield 40, 3) := by decide +kernel
theorem dX6_copy_16 : decode cX6_copy 16 = .ok (.aload_n 0, 1) := by decide +kernel
theorem dX6_copy_17 : decode cX6_copy 17 = .ok (.aload_n 1, 1) := by decide +kernel
theorem dX6_copy_18 : decode cX6_copy 18 = .ok (.getfield 59, 3) := by decide +kernel
theorem dX6_copy_21 : decode cX6_copy 21 = .ok (.putfield 59, 3) := by decide +kernel
theorem dX6_copy_24 : decode cX6_copy 24 = .ok (.iconst 0, 1) := by decide +kernel
theorem dX6_copy_25 : decode cX6_copy 25 = .ok (.istore_n 2, 1) := by decide +kernel
theorem dX6_copy_26 : decode cX6_copy 26 = .ok (.iload_n 2, 1) := by decide +kernel
theorem dX6_copy_27 : decode cX6_copy 27 = .ok (.iconst 5, 1) := by decide +kernel
theorem dX6_copy_28 : decode cX6_copy 28 = .ok (.if_icmp .ge 24, 3) := by decide +kernel
theorem dX6_copy_31 : decode cX6_copy 31 = .ok (.aload_n 0, 1) := by decide +kernel
theorem dX6_copy_32 : decode cX6_copy 32 = .ok (.getfield 11, 3) := by decide +kernel
theorem dX6_copy_35 : decode cX6_copy 35 = .ok (.iload_n 2, 1) := by decide +kernel
theorem dX6_copy_36 : decode cX6_copy 36 = .ok (.aaload, 1) := by decide +kernel
theorem dX6_copy_37 : decode cX6_copy 37 = .ok (.aload_n 1, 1) := by decide +kernel
theorem dX6_copy_38 : decode cX6_copy 38 = .ok (.getfield 11, 3) := by decide +kernel
theorem dX6_copy_41 : decode cX6_copy 41 = .ok (.iload_n 2, 1) := by decide +kernel
theorem dX6_copy_42 : decode cX6_copy 42 = .ok (.aaload, 1) := by decide +kernel
theorem dX6_copy_43 : decode cX6_copy 43 = .ok (.invokevirtual 62, 3) := by decide +kernel
theorem dX6_copy_46 : decode cX6_copy 46 = .ok (.iinc 2 1, 3) := by decide +kernel
theorem dX6_copy_49 : decode cX6_copy 49 = .ok (.goto (-23), 3) := by decide +kernel
theorem dX6_copy_52 : decode cX6_copy 52 = .ok (.iconst 0, 1) := by decide +kernel
theorem dX6_copy_53 : decode cX6_copy 53 = .ok (.istore_n 2, 1) := by decide +kernel
theorem dX6_copy_54 : decode cX6_copy 54 = .ok (.iload_n 2, 1) := by decide +kernel
theorem dX6_copy_55 : decode cX6_copy 55 = .ok (.iconst 3, 1) := by decide +kernel
theorem dX6_copy_56 : decode cX6_copy 56 = .ok (.if_icmp .ge 24, 3) := by decide +kernel
theorem dX6_copy_59 : decode cX6_copy 59 = .ok (.aload_n 0, 1) := by decide +kernel
theorem dX6_copy_60 : decode cX6_copy 60 = .ok (.getfield 19, 3) := by decide +kernel
theorem dX6_copy_63 : decode cX6_copy 63 = .ok (.iload_n 2, 1) := by decide +kernel
theorem dX6_copy_64 : decode cX6_copy 64 = .ok (.aaload, 1) := by decide +kernel
theorem dX6_copy_65 : decode cX6_copy 65 = .ok (.aload_n 1, 1) := by decide +kernel
theorem dX6_copy_66 : decode cX6_copy 66 = .ok (.getfield 19, 3) := by decide +kernel
theorem dX6_copy_69 : decode cX6_copy 69 = .ok (.iload_n 2, 1) := by decide +kernel
theorem dX6_copy_70 : decode cX6_copy 70 = .ok (.aaload, 1) := by decide +kernel
theorem dX6_copy_71 : decode cX6_copy 71 = .ok (.invokevirtual 66, 3) := by decide +kernel
theorem dX6_copy_74 : decode cX6_copy 74 = .ok (.iinc 2 1, 3) := by decide +kernel
theorem dX6_copy_77 : decode cX6_copy 77 = .ok (.goto (-23), 3) := by decide +kernel
theorem dX6_copy_80 : decode cX6_copy 80 = .ok (.return_, 1) := by decide +kernel
theorem dX6_hasPart_0 : decode cX6_hasPart 0 = .ok (.iload_n 1, 1) := by decide +kernel
theorem dX6_hasPart_1 : decode cX6_hasPart 1 = .ok (.ifCond .lt 15, 3) := by decide +kernel
theorem dX6_hasPart_4 : decode cX6_hasPart 4 = .ok (.iload_n 1, 1) := by decide +kernel
theorem dX6_hasPart_5 : decode cX6_hasPart 5 = .ok (.aload_n 0, 1) := by decide +kernel
theorem dX6_hasPart_6 : decode cX6_hasPart 6 = .ok (.getfield 37, 3) := by decide +kernel
theorem dX6_hasPart_9 : decode cX6_hasPart 9 = .ok (.if_icmp .ge 7, 3) := by decide +kernel
theorem dX6_hasPart_12 : decode cX6_hasPart 12 = .ok (.iconst 1, 1) := by decide +kernel
theorem dX6_hasPart_13 : decode cX6_hasPart 13 = .ok (.goto 4, 3) := by decide +kernel
theorem dX6_hasPart_16 : decode cX6_hasPart 16 = .ok (.iconst 0, 1) := by decide +kernel
theorem dX6_hasPart_17 : decode cX6_hasPart 17 = .ok (.ireturn, 1) := by decide +kernel
theorem dX6_hasLot_0 : decode cX6_hasLot 0 = .ok (.iload_n 1, 1) := by decide +kernel
theorem dX6_hasLot_1 : decode cX6_hasLot 1 = .ok (.ifCond .lt 15, 3) := by decide +kernel
theorem dX6_hasLot_4 : decode cX6_hasLot 4 = .ok (.iload_n 1, 1) := by decide +kernel
theorem dX6_hasLot_5 : decode cX6_hasLot 5 = .ok (.aload_n 0, 1) := by decide +kernel
theorem dX6_hasLot_6 : decode cX6_hasLot 6 = .ok (.getfield 40, 3) := by decide +kernel
theorem dX6_hasLot_9 : decode cX6_hasLot 9 = .ok (.if_icmp .ge 7, 3) := by decide +kernel
theorem dX6_hasLot_12 : decode cX6_hasLot 12 = .ok (.iconst 1, 1) := by decide +kernel
theorem dX6_hasLot_13 : decode cX6_hasLot 13 = .ok (.goto 4, 3) := by decide +kernel
theorem dX6_hasLot_16 : decode cX6_hasLot 16 = .ok (.iconst 0, 1) := by decide +kernel
theorem dX6_hasLot_17 : decode cX6_hasLot 17 = .ok (.ireturn, 1) := by decide +kernel
theorem dX6_canMake_0 : decode cX6_canMake 0 = .ok (.aload_n 0, 1) := by decide +kernel
theorem dX6_canMake_1 : decode cX6_canMake 1 = .ok (.getfield 11, 3) := by decide +kernel
theorem dX6_canMake_4 : decode cX6_canMake 4 = .ok (.iload_n 1, 1) := by decide +kernel
theorem dX6_canMake_5 : decode cX6_canMake 5 = .ok (.aaload, 1) := by decide +kernel
theorem dX6_canMake_6 : decode cX6_canMake 6 = .ok (.getfield 69, 3) := by decide +kernel
theorem dX6_canMake_9 : decode cX6_canMake 9 = .ok (.istore 4, 2) := by decide +kernel
theorem dX6_canMake_11 : decode cX6_canMake 11 = .ok (.iload 4, 2) := by decide +kernel
theorem dX6_canMake_13 : decode cX6_canMake 13 = .ok (.iload_n 2, 1) := by decide +kernel
theorem dX6_canMake_14 : decode cX6_canMake 14 = .ok (.iload_n 3, 1) := by decide +kernel
theorem dX6_canMake_15 : decode cX6_canMake 15 = .ok (.invokestatic 72, 3) := by decide +kernel
theorem dX6_canMake_18 : decode cX6_canMake 18 = .ok (.istore 5, 2) := by decide +kernel
theorem dX6_canMake_20 : decode cX6_canMake 20 = .ok (.aload_n 0, 1) := by decide +kernel
theorem dX6_canMake_21 : decode cX6_canMake 21 = .ok (.getfield 19, 3) := by decide +kernel
theorem dX6_canMake_24 : decode cX6_canMake 24 = .ok (.iload_n 2, 1) := by decide +kernel
theorem dX6_canMake_25 : decode cX6_canMake 25 = .ok (.aaload, 1) := by decide +kernel
theorem dX6_canMake_26 : decode cX6_canMake 26 = .ok (.invokevirtual 76, 3) := by decide +kernel
theorem dX6_canMake_29 : decode cX6_canMake 29 = .ok (.iload 5, 2) := by decide +kernel
theorem dX6_canMake_31 : decode cX6_canMake 31 = .ok (.if_icmp .lt 24, 3) := by decide +kernel
theorem dX6_canMake_34 : decode cX6_canMake 34 = .ok (.aload_n 0, 1) := by decide +kernel
theorem dX6_canMake_35 : decode cX6_canMake 35 = .ok (.getfield 19, 3) := by decide +kernel
theorem dX6_canMake_38 : decode cX6_canMake 38 = .ok (.iload_n 3, 1) := by decide +kernel
theorem dX6_canMake_39 : decode cX6_canMake 39 = .ok (.aaload, 1) := by decide +kernel
theorem dX6_canMake_40 : decode cX6_canMake 40 = .ok (.invokevirtual 76, 3) := by decide +kernel
theorem dX6_canMake_43 : decode cX6_canMake 43 = .ok (.iload 4, 2) := by decide +kernel
theorem dX6_canMake_45 : decode cX6_canMake 45 = .ok (.iload 5, 2) := by decide +kernel
theorem dX6_canMake_47 : decode cX6_canMake 47 = .ok (.isub, 1) := by decide +kernel
theorem dX6_canMake_48 : decode cX6_canMake 48 = .ok (.if_icmp .lt 7, 3) := by decide +kernel
theorem dX6_canMake_51 : decode cX6_canMake 51 = .ok (.iconst 1, 1) := by decide +kernel
theorem dX6_canMake_52 : decode cX6_canMake 52 = .ok (.goto 4, 3) := by decide +kernel
theorem dX6_canMake_55 : decode cX6_canMake 55 = .ok (.iconst 0, 1) := by decide +kernel
theorem dX6_canMake_56 : decode cX6_canMake 56 = .ok (.ireturn, 1) := by decide +kernel
theorem dX6_make_0 : decode cX6_make 0 = .ok (.aload_n 0, 1) := by decide +kernel
theorem dX6_make_1 : decode cX6_make 1 = .ok (.getfield 11, 3) := by decide +kernel
theorem dX6_make_4 : decode cX6_make 4 = .ok (.iload_n 1, 1) := by decide +kernel
theorem dX6_make_5 : decode cX6_make 5 = .ok (.aaload, 1) := by decide +kernel
theorem dX6_make_6 : decode cX6_make 6 = .ok (.astore 4, 2) := by decide +kernel
theorem dX6_make_8 : decode cX6_make 8 = .ok (.aload 4, 2) := by decide +kernel
theorem dX6_make_10 : decode cX6_make 10 = .ok (.iload_n 2, 1) := by decide +kernel
theorem dX6_make_11 : decode cX6_make 11 = .ok (.putfield 79, 3) := by decide +kernel
theorem dX6_make_14 : decode cX6_make 14 = .ok (.aload 4, 2) := by decide +kernel
theorem dX6_make_16 : decode cX6_make 16 = .ok (.iload_n 2, 1) := by decide +kernel
theorem dX6_make_17 : decode cX6_make 17 = .ok (.iload_n 3, 1) := by decide +kernel
theorem dX6_make_18 : decode cX6_make 18 = .ok (.if_icmp .ne 7, 3) := by decide +kernel
theorem dX6_make_21 : decode cX6_make 21 = .ok (.iconst (-1), 1) := by decide +kernel
theorem dX6_make_22 : decode cX6_make 22 = .ok (.goto 4, 3) := by decide +kernel
theorem dX6_make_25 : decode cX6_make 25 = .ok (.iload_n 3, 1) := by decide +kernel
theorem dX6_make_26 : decode cX6_make 26 = .ok (.putfield 82, 3) := by decide +kernel
theorem dX6_make_29 : decode cX6_make 29 = .ok (.aload 4, 2) := by decide +kernel
theorem dX6_make_31 : decode cX6_make 31 = .ok (.aload 4, 2) := by decide +kernel
theorem dX6_make_33 : decode cX6_make 33 = .ok (.getfield 69, 3) := by decide +kernel
theorem dX6_make_36 : decode cX6_make 36 = .ok (.iload_n 2, 1) := by decide +kernel
theorem dX6_make_37 : decode cX6_make 37 = .ok (.iload_n 3, 1) := by decide +kernel
theorem dX6_make_38 : decode cX6_make 38 = .ok (.invokestatic 72, 3) := by decide +kernel
theorem dX6_make_41 : decode cX6_make 41 = .ok (.putfield 85, 3) := by decide +kernel
theorem dX6_make_44 : decode cX6_make 44 = .ok (.aload 4, 2) := by decide +kernel
theorem dX6_make_46 : decode cX6_make 46 = .ok (.aload 4, 2) := by decide +kernel
theorem dX6_make_48 : decode cX6_make 48 = .ok (.getfield 69, 3) := by decide +kernel
theorem dX6_make_51 : decode cX6_make 51 = .ok (.aload 4, 2) := by decide +kernel
theorem dX6_make_53 : decode cX6_make 53 = .ok (.getfield 85, 3) := by decide +kernel
theorem dX6_make_56 : decode cX6_make 56 = .ok (.isub, 1) := by decide +kernel
theorem dX6_make_57 : decode cX6_make 57 = .ok (.putfield 88, 3) := by decide +kernel
theorem dX6_make_60 : decode cX6_make 60 = .ok (.aload_n 0, 1) := by decide +kernel
theorem dX6_make_61 : decode cX6_make 61 = .ok (.getfield 19, 3) := by decide +kernel
theorem dX6_make_64 : decode cX6_make 64 = .ok (.iload_n 2, 1) := by decide +kernel
theorem dX6_make_65 : decode cX6_make 65 = .ok (.aaload, 1) := by decide +kernel
theorem dX6_make_66 : decode cX6_make 66 = .ok (.aload 4, 2) := by decide +kernel
theorem dX6_make_68 : decode cX6_make 68 = .ok (.getfield 85, 3) := by decide +kernel
theorem dX6_make_71 : decode cX6_make 71 = .ok (.invokevirtual 91, 3) := by decide +kernel
theorem dX6_make_74 : decode cX6_make 74 = .ok (.aload_n 0, 1) := by decide +kernel
theorem dX6_make_75 : decode cX6_make 75 = .ok (.getfield 19, 3) := by decide +kernel
theorem dX6_make_78 : decode cX6_make 78 = .ok (.iload_n 3, 1) := by decide +kernel
theorem dX6_make_79 : decode cX6_make 79 = .ok (.aaload, 1) := by decide +kernel
theorem dX6_make_80 : decode cX6_make 80 = .ok (.aload 4, 2) := by decide +kernel
theorem dX6_make_82 : decode cX6_make 82 = .ok (.getfield 88, 3) := by decide +kernel
theorem dX6_make_85 : decode cX6_make 85 = .ok (.invokevirtual 91, 3) := by decide +kernel
theorem dX6_make_88 : decode cX6_make 88 = .ok (.return_, 1) := by decide +kernel
theorem dX6_unravel_0 : decode cX6_unravel 0 = .ok (.aload_n 0, 1) := by decide +kernel
theorem dX6_unravel_1 : decode cX6_unravel 1 = .ok (.getfield 11, 3) := by decide +kernel
theorem dX6_unravel_4 : decode cX6_unravel 4 = .ok (.iload_n 1, 1) := by decide +kernel
theorem dX6_unravel_5 : decode cX6_unravel 5 = .ok (.aaload, 1) := by decide +kernel
theorem dX6_unravel_6 : decode cX6_unravel 6 = .ok (.astore_n 2, 1) := by decide +kernel
theorem dX6_unravel_7 : decode cX6_unravel 7 = .ok (.iconst 0, 1) := by decide +kernel
theorem dX6_unravel_8 : decode cX6_unravel 8 = .ok (.istore_n 3, 1) := by decide +kernel
theorem dX6_unravel_9 : decode cX6_unravel 9 = .ok (.aload_n 0, 1) := by decide +kernel
theorem dX6_unravel_10 : decode cX6_unravel 10 = .ok (.aload_n 2, 1) := by decide +kernel
theorem dX6_unravel_11 : decode cX6_unravel 11 = .ok (.getfield 79, 3) := by decide +kernel
theorem dX6_unravel_14 : decode cX6_unravel 14 = .ok (.invokevirtual 95, 3) := by decide +kernel
theorem dX6_unravel_17 : decode cX6_unravel 17 = .ok (.ifCond .eq 22, 3) := by decide +kernel
theorem dX6_unravel_20 : decode cX6_unravel 20 = .ok (.iload_n 3, 1) := by decide +kernel
theorem dX6_unravel_21 : decode cX6_unravel 21 = .ok (.aload_n 0, 1) := by decide +kernel
theorem dX6_unravel_22 : decode cX6_unravel 22 = .ok (.getfield 19, 3) := by decide +kernel
theorem dX6_unravel_25 : decode cX6_unravel 25 = .ok (.aload_n 2, 1) := by decide +kernel
theorem dX6_unravel_26 : decode cX6_unravel 26 = .ok (.getfield 79, 3) := by decide +kernel
theorem dX6_unravel_29 : decode cX6_unravel 29 = .ok (.aaload, 1) := by decide +kernel
theorem dX6_unravel_30 : decode cX6_unravel 30 = .ok (.aload_n 2, 1) := by decide +kernel
theorem dX6_unravel_31 : decode cX6_unravel 31 = .ok (.getfield 85, 3) := by decide +kernel
theorem dX6_unravel_34 : decode cX6_unravel 34 = .ok (.invokevirtual 99, 3) := by decide +kernel
theorem dX6_unravel_37 : decode cX6_unravel 37 = .ok (.iadd, 1) := by decide +kernel
theorem dX6_unravel_38 : decode cX6_unravel 38 = .ok (.istore_n 3, 1) := by decide +kernel
theorem dX6_unravel_39 : decode cX6_unravel 39 = .ok (.aload_n 0, 1) := by decide +kernel
theorem dX6_unravel_40 : decode cX6_unravel 40 = .ok (.aload_n 2, 1) := by decide +kernel
theorem dX6_unravel_41 : decode cX6_unravel 41 = .ok (.getfield 82, 3) := by decide +kernel
theorem dX6_unravel_44 : decode cX6_unravel 44 = .ok (.invokevirtual 95, 3) := by decide +kernel
theorem dX6_unravel_47 : decode cX6_unravel 47 = .ok (.ifCond .eq 22, 3) := by decide +kernel
theorem dX6_unravel_50 : decode cX6_unravel 50 = .ok (.iload_n 3, 1) := by decide +kernel
theorem dX6_unravel_51 : decode cX6_unravel 51 = .ok (.aload_n 0, 1) := by decide +kernel
theorem dX6_unravel_52 : decode cX6_unravel 52 = .ok (.getfield 19, 3) := by decide +kernel
theorem dX6_unravel_55 : decode cX6_unravel 55 = .ok (.aload_n 2, 1) := by decide +kernel
theorem dX6_unravel_56 : decode cX6_unravel 56 = .ok (.getfield 82, 3) := by decide +kernel
theorem dX6_unravel_59 : decode cX6_unravel 59 = .ok (.aaload, 1) := by decide +kernel
theorem dX6_unravel_60 : decode cX6_unravel 60 = .ok (.aload_n 2, 1) := by decide +kernel
theorem dX6_unravel_61 : decode cX6_unravel 61 = .ok (.getfield 88, 3) := by decide +kernel
theorem dX6_unravel_64 : decode cX6_unravel 64 = .ok (.invokevirtual 99, 3) := by decide +kernel
theorem dX6_unravel_67 : decode cX6_unravel 67 = .ok (.iadd, 1) := by decide +kernel
theorem dX6_unravel_68 : decode cX6_unravel 68 = .ok (.istore_n 3, 1) := by decide +kernel
theorem dX6_unravel_69 : decode cX6_unravel 69 = .ok (.aload_n 2, 1) := by decide +kernel
theorem dX6_unravel_70 : decode cX6_unravel 70 = .ok (.invokevirtual 102, 3) := by decide +kernel
theorem dX6_unravel_73 : decode cX6_unravel 73 = .ok (.iload_n 3, 1) := by decide +kernel
theorem dX6_unravel_74 : decode cX6_unravel 74 = .ok (.ireturn, 1) := by decide +kernel
theorem dX6_tone_0 : decode cX6_tone 0 = .ok (.aload_n 0, 1) := by decide +kernel
theorem dX6_tone_1 : decode cX6_tone 1 = .ok (.getfield 11, 3) := by decide +kernel
theorem dX6_tone_4 : decode cX6_tone 4 = .ok (.iload_n 1, 1) := by decide +kernel
theorem dX6_tone_5 : decode cX6_tone 5 = .ok (.aaload, 1) := by decide +kernel
theorem dX6_tone_6 : decode cX6_tone 6 = .ok (.astore_n 2, 1) := by decide +kernel
theorem dX6_tone_7 : decode cX6_tone 7 = .ok (.aload_n 0, 1) := by decide +kernel
theorem dX6_tone_8 : decode cX6_tone 8 = .ok (.aload_n 2, 1) := by decide +kernel
theorem dX6_tone_9 : decode cX6_tone 9 = .ok (.getfield 79, 3) := by decide +kernel
theorem dX6_tone_12 : decode cX6_tone 12 = .ok (.invokevirtual 95, 3) := by decide +kernel
theorem dX6_tone_15 : decode cX6_tone 15 = .ok (.ifCond .ne 5, 3) := by decide +kernel
theorem dX6_tone_18 : decode cX6_tone 18 = .ok (.iconst (-1), 1) := by decide +kernel
theorem dX6_tone_19 : decode cX6_tone 19 = .ok (.ireturn, 1) := by decide +kernel
theorem dX6_tone_20 : decode cX6_tone 20 = .ok (.aload_n 0, 1) := by decide +kernel
theorem dX6_tone_21 : decode cX6_tone 21 = .ok (.aload_n 2, 1) := by decide +kernel
theorem dX6_tone_22 : decode cX6_tone 22 = .ok (.getfield 82, 3) := by decide +kernel
theorem dX6_tone_25 : decode cX6_tone 25 = .ok (.invokevirtual 95, 3) := by decide +kernel
theorem dX6_tone_28 : decode cX6_tone 28 = .ok (.ifCond .eq 10, 3) := by decide +kernel
theorem dX6_tone_31 : decode cX6_tone 31 = .ok (.aload_n 2, 1) := by decide +kernel
theorem dX6_tone_32 : decode cX6_tone 32 = .ok (.getfield 82, 3) := by decide +kernel
theorem dX6_tone_35 : decode cX6_tone 35 = .ok (.goto 7, 3) := by decide +kernel
theorem dX6_tone_38 : decode cX6_tone 38 = .ok (.aload_n 2, 1) := by decide +kernel
theorem dX6_tone_39 : decode cX6_tone 39 = .ok (.getfield 79, 3) := by decide +kernel
theorem dX6_tone_42 : decode cX6_tone 42 = .ok (.istore_n 3, 1) := by decide +kernel
theorem dX6_tone_43 : decode cX6_tone 43 = .ok (.aload_n 0, 1) := by decide +kernel
theorem dX6_tone_44 : decode cX6_tone 44 = .ok (.getfield 19, 3) := by decide +kernel
theorem dX6_tone_47 : decode cX6_tone 47 = .ok (.aload_n 2, 1) := by decide +kernel
theorem dX6_tone_48 : decode cX6_tone 48 = .ok (.getfield 79, 3) := by decide +kernel
theorem dX6_tone_51 : decode cX6_tone 51 = .ok (.aaload, 1) := by decide +kernel
theorem dX6_tone_52 : decode cX6_tone 52 = .ok (.getfield 105, 3) := by decide +kernel
theorem dX6_tone_55 : decode cX6_tone 55 = .ok (.aload_n 0, 1) := by decide +kernel
theorem dX6_tone_56 : decode cX6_tone 56 = .ok (.getfield 19, 3) := by decide +kernel
theorem dX6_tone_59 : decode cX6_tone 59 = .ok (.iload_n 3, 1) := by decide +kernel
theorem dX6_tone_60 : decode cX6_tone 60 = .ok (.aaload, 1) := by decide +kernel
theorem dX6_tone_61 : decode cX6_tone 61 = .ok (.getfield 105, 3) := by decide +kernel
theorem dX6_tone_64 : decode cX6_tone 64 = .ok (.iadd, 1) := by decide +kernel
theorem dX6_tone_65 : decode cX6_tone 65 = .ok (.ireturn, 1) := by decide +kernel
theorem dX6_seenWith_0 : decode cX6_seenWith 0 = .ok (.aload_n 0, 1) := by decide +kernel
theorem dX6_seenWith_1 : decode cX6_seenWith 1 = .ok (.iload_n 1, 1) := by decide +kernel
theorem dX6_seenWith_2 : decode cX6_seenWith 2 = .ok (.invokevirtual 108, 3) := by decide +kernel
theorem dX6_seenWith_5 : decode cX6_seenWith 5 = .ok (.ifCond .eq 13, 3) := by decide +kernel
theorem dX6_seenWith_8 : decode cX6_seenWith 8 = .ok (.aload_n 0, 1) := by decide +kernel
theorem dX6_seenWith_9 : decode cX6_seenWith 9 = .ok (.iload_n 1, 1) := by decide +kernel
theorem dX6_seenWith_10 : decode cX6_seenWith 10 = .ok (.iconst 1, 1) := by decide +kernel
theorem dX6_seenWith_11 : decode cX6_seenWith 11 = .ok (.iadd, 1) := by decide +kernel
theorem dX6_seenWith_12 : decode cX6_seenWith 12 = .ok (.invokevirtual 108, 3) := by decide +kernel
theorem dX6_seenWith_15 : decode cX6_seenWith 15 = .ok (.ifCond .ne 5, 3) := by decide +kernel
theorem dX6_seenWith_18 : decode cX6_seenWith 18 = .ok (.iconst 0, 1) := by decide +kernel
theorem dX6_seenWith_19 : decode cX6_seenWith 19 = .ok (.ireturn, 1) := by decide +kernel
theorem dX6_seenWith_20 : decode cX6_seenWith 20 = .ok (.aload_n 0, 1) := by decide +kernel
theorem dX6_seenWith_21 : decode cX6_seenWith 21 = .ok (.getfield 11, 3) := by decide +kernel
theorem dX6_seenWith_24 : decode cX6_seenWith 24 = .ok (.iload_n 1, 1) := by decide +kernel
theorem dX6_seenWith_25 : decode cX6_seenWith 25 = .ok (.aaload, 1) := by decide +kernel
theorem dX6_seenWith_26 : decode cX6_seenWith 26 = .ok (.astore 4, 2) := by decide +kernel
theorem dX6_seenWith_28 : decode cX6_seenWith 28 = .ok (.aload_n 0, 1) := by decide +kernel
theorem dX6_seenWith_29 : decode cX6_seenWith 29 = .ok (.getfield 11, 3) := by decide +kernel
theorem dX6_seenWith_32 : decode cX6_seenWith 32 = .ok (.iload_n 1, 1) := by decide +kernel
theorem dX6_seenWith_33 : decode cX6_seenWith 33 = .ok (.iconst 1, 1) := by decide +kernel
theorem dX6_seenWith_34 : decode cX6_seenWith 34 = .ok (.iadd, 1) := by decide +kernel
theorem dX6_seenWith_35 : decode cX6_seenWith 35 = .ok (.aaload, 1) := by decide +kernel
theorem dX6_seenWith_36 : decode cX6_seenWith 36 = .ok (.astore 5, 2) := by decide +kernel
theorem dX6_seenWith_38 : decode cX6_seenWith 38 = .ok (.iload_n 2, 1) := by decide +kernel
theorem dX6_seenWith_39 : decode cX6_seenWith 39 = .ok (.iload_n 3, 1) := by decide +kernel
theorem dX6_seenWith_40 : decode cX6_seenWith 40 = .ok (.isub, 1) := by decide +kernel
theorem dX6_seenWith_41 : decode cX6_seenWith 41 = .ok (.invokestatic 111, 3) := by decide +kernel
theorem dX6_seenWith_44 : decode cX6_seenWith 44 = .ok (.aload 4, 2) := by decide +kernel
theorem dX6_seenWith_46 : decode cX6_seenWith 46 = .ok (.invokevirtual 114, 3) := by decide +kernel
theorem dX6_seenWith_49 : decode cX6_seenWith 49 = .ok (.aload 5, 2) := by decide +kernel
theorem dX6_seenWith_51 : decode cX6_seenWith 51 = .ok (.invokevirtual 114, 3) := by decide +kernel
theorem dX6_seenWith_54 : decode cX6_seenWith 54 = .ok (.invokestatic 31, 3) := by decide +kernel
theorem dX6_seenWith_57 : decode cX6_seenWith 57 = .ok (.imul, 1) := by decide +kernel
theorem dX6_seenWith_58 : decode cX6_seenWith 58 = .ok (.istore 6, 2) := by decide +kernel
theorem dX6_seenWith_60 : decode cX6_seenWith 60 = .ok (.aload 4, 2) := by decide +kernel
theorem dX6_seenWith_62 : decode cX6_seenWith 62 = .ok (.getfield 117, 3) := by decide +kernel
theorem dX6_seenWith_65 : decode cX6_seenWith 65 = .ok (.iconst 2, 1) := by decide +kernel
theorem dX6_seenWith_66 : decode cX6_seenWith 66 = .ok (.if_icmp .ne 19, 3) := by decide +kernel
theorem dX6_seenWith_69 : decode cX6_seenWith 69 = .ok (.aload 5, 2) := by decide +kernel
theorem dX6_seenWith_71 : decode cX6_seenWith 71 = .ok (.getfield 117, 3) := by decide +kernel
theorem dX6_seenWith_74 : decode cX6_seenWith 74 = .ok (.iconst 2, 1) := by decide +kernel
theorem dX6_seenWith_75 : decode cX6_seenWith 75 = .ok (.if_icmp .ne 10, 3) := by decide +kernel
theorem dX6_seenWith_78 : decode cX6_seenWith 78 = .ok (.iconst 2, 1) := by decide +kernel
theorem dX6_seenWith_79 : decode cX6_seenWith 79 = .ok (.iload 6, 2) := by decide +kernel
theorem dX6_seenWith_81 : decode cX6_seenWith 81 = .ok (.imul, 1) := by decide +kernel
theorem dX6_seenWith_82 : decode cX6_seenWith 82 = .ok (.goto 5, 3) := by decide +kernel
theorem dX6_seenWith_85 : decode cX6_seenWith 85 = .ok (.iload 6, 2) := by decide +kernel
theorem dX6_seenWith_87 : decode cX6_seenWith 87 = .ok (.ireturn, 1) := by decide +kernel
theorem dX6_seenNext_0 : decode cX6_seenNext 0 = .ok (.aload_n 0, 1) := by decide +kernel
theorem dX6_seenNext_1 : decode cX6_seenNext 1 = .ok (.iload_n 1, 1) := by decide +kernel
theorem dX6_seenNext_2 : decode cX6_seenNext 2 = .ok (.invokevirtual 108, 3) := by decide +kernel
theorem dX6_seenNext_5 : decode cX6_seenNext 5 = .ok (.ifCond .eq 13, 3) := by decide +kernel
theorem dX6_seenNext_8 : decode cX6_seenNext 8 = .ok (.aload_n 0, 1) := by decide +kernel
theorem dX6_seenNext_9 : decode cX6_seenNext 9 = .ok (.iload_n 1, 1) := by decide +kernel
theorem dX6_seenNext_10 : decode cX6_seenNext 10 = .ok (.iconst 1, 1) := by decide +kernel
theorem dX6_seenNext_11 : decode cX6_seenNext 11 = .ok (.iadd, 1) := by decide +kernel
theorem dX6_seenNext_12 : decode cX6_seenNext 12 = .ok (.invokevirtual 108, 3) := by decide +kernel
theorem dX6_seenNext_15 : decode cX6_seenNext 15 = .ok (.ifCond .ne 5, 3) := by decide +kernel
theorem dX6_seenNext_18 : decode cX6_seenNext 18 = .ok (.iconst 0, 1) := by decide +kernel
theorem dX6_seenNext_19 : decode cX6_seenNext 19 = .ok (.ireturn, 1) := by decide +kernel
theorem dX6_seenNext_20 : decode cX6_seenNext 20 = .ok (.aload_n 0, 1) := by decide +kernel
theorem dX6_seenNext_21 : decode cX6_seenNext 21 = .ok (.getfield 11, 3) := by decide +kernel
theorem dX6_seenNext_24 : decode cX6_seenNext 24 = .ok (.iload_n 1, 1) := by decide +kernel
theorem dX6_seenNext_25 : decode cX6_seenNext 25 = .ok (.aaload, 1) := by decide +kernel
theorem dX6_seenNext_26 : decode cX6_seenNext 26 = .ok (.invokevirtual 120, 3) := by decide +kernel
theorem dX6_seenNext_29 : decode cX6_seenNext 29 = .ok (.ifCond .eq 17, 3) := by decide +kernel
theorem dX6_seenNext_32 : decode cX6_seenNext 32 = .ok (.aload_n 0, 1) := by decide +kernel
theorem dX6_seenNext_33 : decode cX6_seenNext 33 = .ok (.getfield 11, 3) := by decide +kernel
theorem dX6_seenNext_36 : decode cX6_seenNext 36 = .ok (.iload_n 1, 1) := by decide +kernel
theorem dX6_seenNext_37 : decode cX6_seenNext 37 = .ok (.iconst 1, 1) := by decide +kernel
theorem dX6_seenNext_38 : decode cX6_seenNext 38 = .ok (.iadd, 1) := by decide +kernel
theorem dX6_seenNext_39 : decode cX6_seenNext 39 = .ok (.aaload, 1) := by decide +kernel
theorem dX6_seenNext_40 : decode cX6_seenNext 40 = .ok (.invokevirtual 120, 3) := by decide +kernel
theorem dX6_seenNext_43 : decode cX6_seenNext 43 = .ok (.ifCond .ne 5, 3) := by decide +kernel
theorem dX6_seenNext_46 : decode cX6_seenNext 46 = .ok (.iconst 0, 1) := by decide +kernel
theorem dX6_seenNext_47 : decode cX6_seenNext 47 = .ok (.ireturn, 1) := by decide +kernel
theorem dX6_seenNext_48 : decode cX6_seenNext 48 = .ok (.aload_n 0, 1) := by decide +kernel
theorem dX6_seenNext_49 : decode cX6_seenNext 49 = .ok (.iload_n 1, 1) := by decide +kernel
theorem dX6_seenNext_50 : decode cX6_seenNext 50 = .ok (.aload_n 0, 1) := by decide +kernel
theorem dX6_seenNext_51 : decode cX6_seenNext 51 = .ok (.iload_n 1, 1) := by decide +kernel
theorem dX6_seenNext_52 : decode cX6_seenNext 52 = .ok (.invokevirtual 124, 3) := by decide +kernel
theorem dX6_seenNext_55 : decode cX6_seenNext 55 = .ok (.aload_n 0, 1) := by decide +kernel
theorem dX6_seenNext_56 : decode cX6_seenNext 56 = .ok (.iload_n 1, 1) := by decide +kernel
theorem dX6_seenNext_57 : decode cX6_seenNext 57 = .ok (.iconst 1, 1) := by decide +kernel
theorem dX6_seenNext_58 : decode cX6_seenNext 58 = .ok (.iadd, 1) := by decide +kernel
theorem dX6_seenNext_59 : decode cX6_seenNext 59 = .ok (.invokevirtual 124, 3) := by decide +kernel
theorem dX6_seenNext_62 : decode cX6_seenNext 62 = .ok (.invokevirtual 127, 3) := by decide +kernel
theorem dX6_seenNext_65 : decode cX6_seenNext 65 = .ok (.ireturn, 1) := by decide +kernel
theorem dX6_seenOfAll_0 : decode cX6_seenOfAll 0 = .ok (.iconst 0, 1) := by decide +kernel
theorem dX6_seenOfAll_1 : decode cX6_seenOfAll 1 = .ok (.istore_n 1, 1) := by decide +kernel
theorem dX6_seenOfAll_2 : decode cX6_seenOfAll 2 = .ok (.iconst 0, 1) := by decide +kernel
theorem dX6_seenOfAll_3 : decode cX6_seenOfAll 3 = .ok (.istore_n 2, 1) := by decide +kernel
theorem dX6_seenOfAll_4 : decode cX6_seenOfAll 4 = .ok (.iload_n 2, 1) := by decide +kernel
theorem dX6_seenOfAll_5 : decode cX6_seenOfAll 5 = .ok (.aload_n 0, 1) := by decide +kernel
theorem dX6_seenOfAll_6 : decode cX6_seenOfAll 6 = .ok (.getfield 37, 3) := by decide +kernel
theorem dX6_seenOfAll_9 : decode cX6_seenOfAll 9 = .ok (.if_icmp .ge 17, 3) := by decide +kernel
theorem dX6_seenOfAll_12 : decode cX6_seenOfAll 12 = .ok (.iload_n 1, 1) := by decide +kernel
theorem dX6_seenOfAll_13 : decode cX6_seenOfAll 13 = .ok (.aload_n 0, 1) := by decide +kernel
theorem dX6_seenOfAll_14 : decode cX6_seenOfAll 14 = .ok (.iload_n 2, 1) := by decide +kernel
theorem dX6_seenOfAll_15 : decode cX6_seenOfAll 15 = .ok (.invokevirtual 130, 3) := by decide +kernel
theorem dX6_seenOfAll_18 : decode cX6_seenOfAll 18 = .ok (.iadd, 1) := by decide +kernel
theorem dX6_seenOfAll_19 : decode cX6_seenOfAll 19 = .ok (.istore_n 1, 1) := by decide +kernel
theorem dX6_seenOfAll_20 : decode cX6_seenOfAll 20 = .ok (.iinc 2 1, 3) := by decide +kernel
theorem dX6_seenOfAll_23 : decode cX6_seenOfAll 23 = .ok (.goto (-19), 3) := by decide +kernel
theorem dX6_seenOfAll_26 : decode cX6_seenOfAll 26 = .ok (.iload_n 1, 1) := by decide +kernel
theorem dX6_seenOfAll_27 : decode cX6_seenOfAll 27 = .ok (.ireturn, 1) := by decide +kernel
theorem dX6_knittedCount_0 : decode cX6_knittedCount 0 = .ok (.iconst 0, 1) := by decide +kernel
theorem dX6_knittedCount_1 : decode cX6_knittedCount 1 = .ok (.istore_n 1, 1) := by decide +kernel
theorem dX6_knittedCount_2 : decode cX6_knittedCount 2 = .ok (.iconst 0, 1) := by decide +kernel
theorem dX6_knittedCount_3 : decode cX6_knittedCount 3 = .ok (.istore_n 2, 1) := by decide +kernel
theorem dX6_knittedCount_4 : decode cX6_knittedCount 4 = .ok (.iload_n 2, 1) := by decide +kernel
theorem dX6_knittedCount_5 : decode cX6_knittedCount 5 = .ok (.aload_n 0, 1) := by decide +kernel
theorem dX6_knittedCount_6 : decode cX6_knittedCount 6 = .ok (.getfield 37, 3) := by decide +kernel
theorem dX6_knittedCount_9 : decode cX6_knittedCount 9 = .ok (.if_icmp .ge 24, 3) := by decide +kernel
theorem dX6_knittedCount_12 : decode cX6_knittedCount 12 = .ok (.aload_n 0, 1) := by decide +kernel
theorem dX6_knittedCount_13 : decode cX6_knittedCount 13 = .ok (.getfield 11, 3) := by decide +kernel
theorem dX6_knittedCount_16 : decode cX6_knittedCount 16 = .ok (.iload_n 2, 1) := by decide +kernel
theorem dX6_knittedCount_17 : decode cX6_knittedCount 17 = .ok (.aaload, 1) := by decide +kernel
theorem dX6_knittedCount_18 : decode cX6_knittedCount 18 = .ok (.invokevirtual 120, 3) := by decide +kernel
theorem dX6_knittedCount_21 : decode cX6_knittedCount 21 = .ok (.ifCond .eq 6, 3) := by decide +kernel
theorem dX6_knittedCount_24 : decode cX6_knittedCount 24 = .ok (.iinc 1 1, 3) := by decide +kernel
theorem dX6_knittedCount_27 : decode cX6_knittedCount 27 = .ok (.iinc 2 1, 3) := by decide +kernel
theorem dX6_knittedCount_30 : decode cX6_knittedCount 30 = .ok (.goto (-26), 3) := by decide +kernel
theorem dX6_knittedCount_33 : decode cX6_knittedCount 33 = .ok (.iload_n 1, 1) := by decide +kernel
theorem dX6_knittedCount_34 : decode cX6_knittedCount 34 = .ok (.ireturn, 1) := by decide +kernel
theorem dX6_foundCount_0 : decode cX6_foundCount 0 = .ok (.iconst 0, 1) := by decide +kernel
theorem dX6_foundCount_1 : decode cX6_foundCount 1 = .ok (.istore_n 1, 1) := by decide +kernel
theorem dX6_foundCount_2 : decode cX6_foundCount 2 = .ok (.iconst 0, 1) := by decide +kernel
theorem dX6_foundCount_3 : decode cX6_foundCount 3 = .ok (.istore_n 2, 1) := by decide +kernel
theorem dX6_foundCount_4 : decode cX6_foundCount 4 = .ok (.iload_n 2, 1) := by decide +kernel
theorem dX6_foundCount_5 : decode cX6_foundCount 5 = .ok (.aload_n 0, 1) := by decide +kernel
theorem dX6_foundCount_6 : decode cX6_foundCount 6 = .ok (.getfield 37, 3) := by decide +kernel
theorem dX6_foundCount_9 : decode cX6_foundCount 9 = .ok (.if_icmp .ge 25, 3) := by decide +kernel
theorem dX6_foundCount_12 : decode cX6_foundCount 12 = .ok (.aload_n 0, 1) := by decide +kernel
theorem dX6_foundCount_13 : decode cX6_foundCount 13 = .ok (.getfield 11, 3) := by decide +kernel
theorem dX6_foundCount_16 : decode cX6_foundCount 16 = .ok (.iload_n 2, 1) := by decide +kernel
theorem dX6_foundCount_17 : decode cX6_foundCount 17 = .ok (.aaload, 1) := by decide +kernel
theorem dX6_foundCount_18 : decode cX6_foundCount 18 = .ok (.getfield 133, 3) := by decide +kernel
theorem dX6_foundCount_21 : decode cX6_foundCount 21 = .ok (.iconst (-1), 1) := by decide +kernel
theorem dX6_foundCount_22 : decode cX6_foundCount 22 = .ok (.if_icmp .eq 6, 3) := by decide +kernel
theorem dX6_foundCount_25 : decode cX6_foundCount 25 = .ok (.iinc 1 1, 3) := by decide +kernel
theorem dX6_foundCount_28 : decode cX6_foundCount 28 = .ok (.iinc 2 1, 3) := by decide +kernel
theorem dX6_foundCount_31 : decode cX6_foundCount 31 = .ok (.goto (-27), 3) := by decide +kernel
theorem dX6_foundCount_34 : decode cX6_foundCount 34 = .ok (.iload_n 1, 1) := by decide +kernel
theorem dX6_foundCount_35 : decode cX6_foundCount 35 = .ok (.ireturn, 1) := by decide +kernel
theorem dX6_sumOfLots_0 : decode cX6_sumOfLots 0 = .ok (.iconst 0, 1) := by decide +kernel
theorem dX6_sumOfLots_1 : decode cX6_sumOfLots 1 = .ok (.istore_n 2, 1) := by decide +kernel
theorem dX6_sumOfLots_2 : decode cX6_sumOfLots 2 = .ok (.iconst 0, 1) := by decide +kernel
theorem dX6_sumOfLots_3 : decode cX6_sumOfLots 3 = .ok (.istore_n 3, 1) := by decide +kernel
theorem dX6_sumOfLots_4 : decode cX6_sumOfLots 4 = .ok (.iload_n 3, 1) := by decide +kernel
theorem dX6_sumOfLots_5 : decode cX6_sumOfLots 5 = .ok (.aload_n 0, 1) := by decide +kernel
theorem dX6_sumOfLots_6 : decode cX6_sumOfLots 6 = .ok (.getfield 40, 3) := by decide +kernel
theorem dX6_sumOfLots_9 : decode cX6_sumOfLots 9 = .ok (.if_icmp .ge 22, 3) := by decide +kernel
theorem dX6_sumOfLots_12 : decode cX6_sumOfLots 12 = .ok (.iload_n 2, 1) := by decide +kernel
theorem dX6_sumOfLots_13 : decode cX6_sumOfLots 13 = .ok (.aload_n 0, 1) := by decide +kernel
theorem dX6_sumOfLots_14 : decode cX6_sumOfLots 14 = .ok (.getfield 19, 3) := by decide +kernel
theorem dX6_sumOfLots_17 : decode cX6_sumOfLots 17 = .ok (.iload_n 3, 1) := by decide +kernel
theorem dX6_sumOfLots_18 : decode cX6_sumOfLots 18 = .ok (.aaload, 1) := by decide +kernel
theorem dX6_sumOfLots_19 : decode cX6_sumOfLots 19 = .ok (.iload_n 1, 1) := by decide +kernel
theorem dX6_sumOfLots_20 : decode cX6_sumOfLots 20 = .ok (.invokevirtual 136, 3) := by decide +kernel
theorem dX6_sumOfLots_23 : decode cX6_sumOfLots 23 = .ok (.iadd, 1) := by decide +kernel
theorem dX6_sumOfLots_24 : decode cX6_sumOfLots 24 = .ok (.istore_n 2, 1) := by decide +kernel
theorem dX6_sumOfLots_25 : decode cX6_sumOfLots 25 = .ok (.iinc 3 1, 3) := by decide +kernel
theorem dX6_sumOfLots_28 : decode cX6_sumOfLots 28 = .ok (.goto (-24), 3) := by decide +kernel
theorem dX6_sumOfLots_31 : decode cX6_sumOfLots 31 = .ok (.iload_n 2, 1) := by decide +kernel
theorem dX6_sumOfLots_32 : decode cX6_sumOfLots 32 = .ok (.ireturn, 1) := by decide +kernel
theorem dX6_ballsWanted_0 : decode cX6_ballsWanted 0 = .ok (.iconst 0, 1) := by decide +kernel
theorem dX6_ballsWanted_1 : decode cX6_ballsWanted 1 = .ok (.istore_n 3, 1) := by decide +kernel
theorem dX6_ballsWanted_2 : decode cX6_ballsWanted 2 = .ok (.iconst 0, 1) := by decide +kernel
theorem dX6_ballsWanted_3 : decode cX6_ballsWanted 3 = .ok (.istore 4, 2) := by decide +kernel
theorem dX6_ballsWanted_5 : decode cX6_ballsWanted 5 = .ok (.iconst 0, 1) := by decide +kernel
theorem dX6_ballsWanted_6 : decode cX6_ballsWanted 6 = .ok (.istore 5, 2) := by decide +kernel
theorem dX6_ballsWanted_8 : decode cX6_ballsWanted 8 = .ok (.iconst 0, 1) := by decide +kernel
theorem dX6_ballsWanted_9 : decode cX6_ballsWanted 9 = .ok (.istore 6, 2) := by decide +kernel
theorem dX6_ballsWanted_11 : decode cX6_ballsWanted 11 = .ok (.iload 6, 2) := by decide +kernel
theorem dX6_ballsWanted_13 : decode cX6_ballsWanted 13 = .ok (.aload_n 0, 1) := by decide +kernel
theorem dX6_ballsWanted_14 : decode cX6_ballsWanted 14 = .ok (.getfield 37, 3) := by decide +kernel
theorem dX6_ballsWanted_17 : decode cX6_ballsWanted 17 = .ok (.if_icmp .ge 65, 3) := by decide +kernel
theorem dX6_ballsWanted_20 : decode cX6_ballsWanted 20 = .ok (.aload_n 0, 1) := by decide +kernel
theorem dX6_ballsWanted_21 : decode cX6_ballsWanted 21 = .ok (.getfield 11, 3) := by decide +kernel
theorem dX6_ballsWanted_24 : decode cX6_ballsWanted 24 = .ok (.iload 6, 2) := by decide +kernel
theorem dX6_ballsWanted_26 : decode cX6_ballsWanted 26 = .ok (.aaload, 1) := by decide +kernel
theorem dX6_ballsWanted_27 : decode cX6_ballsWanted 27 = .ok (.astore 7, 2) := by decide +kernel
theorem dX6_ballsWanted_29 : decode cX6_ballsWanted 29 = .ok (.aload 7, 2) := by decide +kernel
theorem dX6_ballsWanted_31 : decode cX6_ballsWanted 31 = .ok (.invokevirtual 120, 3) := by decide +kernel
theorem dX6_ballsWanted_34 : decode cX6_ballsWanted 34 = .ok (.ifCond .ne 14, 3) := by decide +kernel
theorem dX6_ballsWanted_37 : decode cX6_ballsWanted 37 = .ok (.iload_n 3, 1) := by decide +kernel
theorem dX6_ballsWanted_38 : decode cX6_ballsWanted 38 = .ok (.aload 7, 2) := by decide +kernel
theorem dX6_ballsWanted_40 : decode cX6_ballsWanted 40 = .ok (.getfield 69, 3) := by decide +kernel
theorem dX6_ballsWanted_43 : decode cX6_ballsWanted 43 = .ok (.iadd, 1) := by decide +kernel
theorem dX6_ballsWanted_44 : decode cX6_ballsWanted 44 = .ok (.istore_n 3, 1) := by decide +kernel
theorem dX6_ballsWanted_45 : decode cX6_ballsWanted 45 = .ok (.goto 31, 3) := by decide +kernel
theorem dX6_ballsWanted_48 : decode cX6_ballsWanted 48 = .ok (.aload 7, 2) := by decide +kernel
theorem dX6_ballsWanted_50 : decode cX6_ballsWanted 50 = .ok (.getfield 139, 3) := by decide +kernel
theorem dX6_ballsWanted_53 : decode cX6_ballsWanted 53 = .ok (.ifCond .eq 23, 3) := by decide +kernel
theorem dX6_ballsWanted_56 : decode cX6_ballsWanted 56 = .ok (.iload 4, 2) := by decide +kernel
theorem dX6_ballsWanted_58 : decode cX6_ballsWanted 58 = .ok (.aload 7, 2) := by decide +kernel
theorem dX6_ballsWanted_60 : decode cX6_ballsWanted 60 = .ok (.getfield 85, 3) := by decide +kernel
theorem dX6_ballsWanted_63 : decode cX6_ballsWanted 63 = .ok (.iadd, 1) := by decide +kernel
theorem dX6_ballsWanted_64 : decode cX6_ballsWanted 64 = .ok (.istore 4, 2) := by decide +kernel
theorem dX6_ballsWanted_66 : decode cX6_ballsWanted 66 = .ok (.iload 5, 2) := by decide +kernel
theorem dX6_ballsWanted_68 : decode cX6_ballsWanted 68 = .ok (.aload 7, 2) := by decide +kernel
theorem dX6_ballsWanted_70 : decode cX6_ballsWanted 70 = .ok (.getfield 69, 3) := by decide +kernel
theorem dX6_ballsWanted_73 : decode cX6_ballsWanted 73 = .ok (.iadd, 1) := by decide +kernel
theorem dX6_ballsWanted_74 : decode cX6_ballsWanted 74 = .ok (.istore 5, 2) := by decide +kernel
theorem dX6_ballsWanted_76 : decode cX6_ballsWanted 76 = .ok (.iinc 6 1, 3) := by decide +kernel
theorem dX6_ballsWanted_79 : decode cX6_ballsWanted 79 = .ok (.goto (-68), 3) := by decide +kernel
theorem dX6_ballsWanted_82 : decode cX6_ballsWanted 82 = .ok (.iload_n 2, 1) := by decide +kernel
theorem dX6_ballsWanted_83 : decode cX6_ballsWanted 83 = .ok (.ifCond .eq 21, 3) := by decide +kernel
theorem dX6_ballsWanted_86 : decode cX6_ballsWanted 86 = .ok (.iload 5, 2) := by decide +kernel
theorem dX6_ballsWanted_88 : decode cX6_ballsWanted 88 = .ok (.ifCond .le 16, 3) := by decide +kernel
theorem dX6_ballsWanted_91 : decode cX6_ballsWanted 91 = .ok (.iload_n 3, 1) := by decide +kernel
theorem dX6_ballsWanted_92 : decode cX6_ballsWanted 92 = .ok (.iload 4, 2) := by decide +kernel
theorem dX6_ballsWanted_94 : decode cX6_ballsWanted 94 = .ok (.imul, 1) := by decide +kernel
theorem dX6_ballsWanted_95 : decode cX6_ballsWanted 95 = .ok (.iload 5, 2) := by decide +kernel
theorem dX6_ballsWanted_97 : decode cX6_ballsWanted 97 = .ok (.iadd, 1) := by decide +kernel
theorem dX6_ballsWanted_98 : decode cX6_ballsWanted 98 = .ok (.iconst 1, 1) := by decide +kernel
theorem dX6_ballsWanted_99 : decode cX6_ballsWanted 99 = .ok (.isub, 1) := by decide +kernel
theorem dX6_ballsWanted_100 : decode cX6_ballsWanted 100 = .ok (.iload 5, 2) := by decide +kernel
theorem dX6_ballsWanted_102 : decode cX6_ballsWanted 102 = .ok (.idiv, 1) := by decide +kernel
theorem dX6_ballsWanted_103 : decode cX6_ballsWanted 103 = .ok (.istore_n 3, 1) := by decide +kernel
theorem dX6_ballsWanted_104 : decode cX6_ballsWanted 104 = .ok (.iconst 0, 1) := by decide +kernel
theorem dX6_ballsWanted_105 : decode cX6_ballsWanted 105 = .ok (.iload_n 3, 1) := by decide +kernel
theorem dX6_ballsWanted_106 : decode cX6_ballsWanted 106 = .ok (.aload_n 0, 1) := by decide +kernel
theorem dX6_ballsWanted_107 : decode cX6_ballsWanted 107 = .ok (.getfield 19, 3) := by decide +kernel
theorem dX6_ballsWanted_110 : decode cX6_ballsWanted 110 = .ok (.iload_n 1, 1) := by decide +kernel
theorem dX6_ballsWanted_111 : decode cX6_ballsWanted 111 = .ok (.aaload, 1) := by decide +kernel
theorem dX6_ballsWanted_112 : decode cX6_ballsWanted 112 = .ok (.invokevirtual 76, 3) := by decide +kernel
theorem dX6_ballsWanted_115 : decode cX6_ballsWanted 115 = .ok (.isub, 1) := by decide +kernel
theorem dX6_ballsWanted_116 : decode cX6_ballsWanted 116 = .ok (.invokestatic 143, 3) := by decide +kernel
theorem dX6_ballsWanted_119 : decode cX6_ballsWanted 119 = .ok (.istore 6, 2) := by decide +kernel
theorem dX6_ballsWanted_121 : decode cX6_ballsWanted 121 = .ok (.iload 6, 2) := by decide +kernel
theorem dX6_ballsWanted_123 : decode cX6_ballsWanted 123 = .ok (.iconst 4, 1) := by decide +kernel
theorem dX6_ballsWanted_124 : decode cX6_ballsWanted 124 = .ok (.iadd, 1) := by decide +kernel
theorem dX6_ballsWanted_125 : decode cX6_ballsWanted 125 = .ok (.iconst 1, 1) := by decide +kernel
theorem dX6_ballsWanted_126 : decode cX6_ballsWanted 126 = .ok (.isub, 1) := by decide +kernel
theorem dX6_ballsWanted_127 : decode cX6_ballsWanted 127 = .ok (.iconst 4, 1) := by decide +kernel
theorem dX6_ballsWanted_128 : decode cX6_ballsWanted 128 = .ok (.idiv, 1) := by decide +kernel
theorem dX6_ballsWanted_129 : decode cX6_ballsWanted 129 = .ok (.ireturn, 1) := by decide +kernel
theorem dX6_tellPart_0 : decode cX6_tellPart 0 = .ok (.aload_n 0, 1) := by decide +kernel
theorem dX6_tellPart_1 : decode cX6_tellPart 1 = .ok (.getfield 11, 3) := by decide +kernel
theorem dX6_tellPart_4 : decode cX6_tellPart 4 = .ok (.iload_n 1, 1) := by decide +kernel
theorem dX6_tellPart_5 : decode cX6_tellPart 5 = .ok (.aaload, 1) := by decide +kernel
theorem dX6_tellPart_6 : decode cX6_tellPart 6 = .ok (.astore_n 3, 1) := by decide +kernel
theorem dX6_tellPart_7 : decode cX6_tellPart 7 = .ok (.iload_n 2, 1) := by decide +kernel
theorem dX6_tellPart_8 : decode cX6_tellPart 8 = .ok (.tableswitch 95 0 7 #[48, 53, 58, 63, 68, 73, 79, 85], 48) := by decide +kernel
theorem dX6_tellPart_56 : decode cX6_tellPart 56 = .ok (.aload_n 3, 1) := by decide +kernel
theorem dX6_tellPart_57 : decode cX6_tellPart 57 = .ok (.getfield 117, 3) := by decide +kernel
theorem dX6_tellPart_60 : decode cX6_tellPart 60 = .ok (.ireturn, 1) := by decide +kernel
theorem dX6_tellPart_61 : decode cX6_tellPart 61 = .ok (.aload_n 3, 1) := by decide +kernel
theorem dX6_tellPart_62 : decode cX6_tellPart 62 = .ok (.getfield 69, 3) := by decide +kernel
theorem dX6_tellPart_65 : decode cX6_tellPart 65 = .ok (.ireturn, 1) := by decide +kernel
theorem dX6_tellPart_66 : decode cX6_tellPart 66 = .ok (.aload_n 3, 1) := by decide +kernel
theorem dX6_tellPart_67 : decode cX6_tellPart 67 = .ok (.invokevirtual 114, 3) := by decide +kernel
theorem dX6_tellPart_70 : decode cX6_tellPart 70 = .ok (.ireturn, 1) := by decide +kernel
theorem dX6_tellPart_71 : decode cX6_tellPart 71 = .ok (.aload_n 3, 1) := by decide +kernel
theorem dX6_tellPart_72 : decode cX6_tellPart 72 = .ok (.getfield 79, 3) := by decide +kernel
theorem dX6_tellPart_75 : decode cX6_tellPart 75 = .ok (.ireturn, 1) := by decide +kernel
theorem dX6_tellPart_76 : decode cX6_tellPart 76 = .ok (.aload_n 3, 1) := by decide +kernel
theorem dX6_tellPart_77 : decode cX6_tellPart 77 = .ok (.getfield 82, 3) := by decide +kernel
theorem dX6_tellPart_80 : decode cX6_tellPart 80 = .ok (.ireturn, 1) := by decide +kernel
theorem dX6_tellPart_81 : decode cX6_tellPart 81 = .ok (.aload_n 0, 1) := by decide +kernel
theorem dX6_tellPart_82 : decode cX6_tellPart 82 = .ok (.iload_n 1, 1) := by decide +kernel
theorem dX6_tellPart_83 : decode cX6_tellPart 83 = .ok (.invokevirtual 124, 3) := by decide +kernel
theorem dX6_tellPart_86 : decode cX6_tellPart 86 = .ok (.ireturn, 1) := by decide +kernel
theorem dX6_tellPart_87 : decode cX6_tellPart 87 = .ok (.aload_n 0, 1) := by decide +kernel
theorem dX6_tellPart_88 : decode cX6_tellPart 88 = .ok (.iload_n 1, 1) := by decide +kernel
theorem dX6_tellPart_89 : decode cX6_tellPart 89 = .ok (.invokevirtual 130, 3) := by decide +kernel
theorem dX6_tellPart_92 : decode cX6_tellPart 92 = .ok (.ireturn, 1) := by decide +kernel
theorem dX6_tellPart_93 : decode cX6_tellPart 93 = .ok (.aload_n 3, 1) := by decide +kernel
theorem dX6_tellPart_94 : decode cX6_tellPart 94 = .ok (.getfield 85, 3) := by decide +kernel
theorem dX6_tellPart_97 : decode cX6_tellPart 97 = .ok (.aload_n 3, 1) := by decide +kernel
theorem dX6_tellPart_98 : decode cX6_tellPart 98 = .ok (.getfield 88, 3) := by decide +kernel
theorem dX6_tellPart_101 : decode cX6_tellPart 101 = .ok (.iadd, 1) := by decide +kernel
theorem dX6_tellPart_102 : decode cX6_tellPart 102 = .ok (.ireturn, 1) := by decide +kernel
theorem dX6_tellPart_103 : decode cX6_tellPart 103 = .ok (.aload_n 3, 1) := by decide +kernel
theorem dX6_tellPart_104 : decode cX6_tellPart 104 = .ok (.getfield 133, 3) := by decide +kernel
theorem dX6_tellPart_107 : decode cX6_tellPart 107 = .ok (.ireturn, 1) := by decide +kernel
theorem dX6_tellAll_0 : decode cX6_tellAll 0 = .ok (.iload_n 1, 1) := by decide +kernel
theorem dX6_tellAll_1 : decode cX6_tellAll 1 = .ok (.tableswitch 80 0 6 #[43, 48, 53, 58, 63, 68, 74], 43) := by decide +kernel
theorem dX6_tellAll_44 : decode cX6_tellAll 44 = .ok (.aload_n 0, 1) := by decide +kernel
theorem dX6_tellAll_45 : decode cX6_tellAll 45 = .ok (.getfield 37, 3) := by decide +kernel
theorem dX6_tellAll_48 : decode cX6_tellAll 48 = .ok (.ireturn, 1) := by decide +kernel
theorem dX6_tellAll_49 : decode cX6_tellAll 49 = .ok (.aload_n 0, 1) := by decide +kernel
theorem dX6_tellAll_50 : decode cX6_tellAll 50 = .ok (.getfield 59, 3) := by decide +kernel
theorem dX6_tellAll_53 : decode cX6_tellAll 53 = .ok (.ireturn, 1) := by decide +kernel
theorem dX6_tellAll_54 : decode cX6_tellAll 54 = .ok (.aload_n 0, 1) := by decide +kernel
theorem dX6_tellAll_55 : decode cX6_tellAll 55 = .ok (.getfield 40, 3) := by decide +kernel
theorem dX6_tellAll_58 : decode cX6_tellAll 58 = .ok (.ireturn, 1) := by decide +kernel
theorem dX6_tellAll_59 : decode cX6_tellAll 59 = .ok (.aload_n 0, 1) := by decide +kernel
theorem dX6_tellAll_60 : decode cX6_tellAll 60 = .ok (.invokevirtual 146, 3) := by decide +kernel
theorem dX6_tellAll_63 : decode cX6_tellAll 63 = .ok (.ireturn, 1) := by decide +kernel
theorem dX6_tellAll_64 : decode cX6_tellAll 64 = .ok (.aload_n 0, 1) := by decide +kernel
theorem dX6_tellAll_65 : decode cX6_tellAll 65 = .ok (.invokevirtual 149, 3) := by decide +kernel
theorem dX6_tellAll_68 : decode cX6_tellAll 68 = .ok (.ireturn, 1) := by decide +kernel
theorem dX6_tellAll_69 : decode cX6_tellAll 69 = .ok (.aload_n 0, 1) := by decide +kernel
theorem dX6_tellAll_70 : decode cX6_tellAll 70 = .ok (.iconst 1, 1) := by decide +kernel
theorem dX6_tellAll_71 : decode cX6_tellAll 71 = .ok (.invokevirtual 152, 3) := by decide +kernel
theorem dX6_tellAll_74 : decode cX6_tellAll 74 = .ok (.ireturn, 1) := by decide +kernel
theorem dX6_tellAll_75 : decode cX6_tellAll 75 = .ok (.aload_n 0, 1) := by decide +kernel
theorem dX6_tellAll_76 : decode cX6_tellAll 76 = .ok (.iconst 2, 1) := by decide +kernel
theorem dX6_tellAll_77 : decode cX6_tellAll 77 = .ok (.invokevirtual 152, 3) := by decide +kernel
theorem dX6_tellAll_80 : decode cX6_tellAll 80 = .ok (.ireturn, 1) := by decide +kernel
theorem dX6_tellAll_81 : decode cX6_tellAll 81 = .ok (.aload_n 0, 1) := by decide +kernel
theorem dX6_tellAll_82 : decode cX6_tellAll 82 = .ok (.invokevirtual 155, 3) := by decide +kernel
theorem dX6_tellAll_85 : decode cX6_tellAll 85 = .ok (.ireturn, 1) := by decide +kernel
theorem dX7_init_0 : decode cX7_init 0 = .ok (.aload_n 0, 1) := by decide +kernel
theorem dX7_init_1 : decode cX7_init 1 = .ok (.invokespecial 1, 3) := by decide +kernel
theorem dX7_init_4 : decode cX7_init 4 = .ok (.aload_n 0, 1) := by decide +kernel
theorem dX7_init_5 : decode cX7_init 5 = .ok (.new 7, 3) := by decide +kernel
theorem dX7_init_8 : decode cX7_init 8 = .ok (.dup, 1) := by decide +kernel
theorem dX7_init_9 : decode cX7_init 9 = .ok (.invokespecial 9, 3) := by decide +kernel
theorem dX7_init_12 : decode cX7_init 12 = .ok (.putfield 10, 3) := by decide +kernel
theorem dX7_init_15 : decode cX7_init 15 = .ok (.aload_n 0, 1) := by decide +kernel
theorem dX7_init_16 : decode cX7_init 16 = .ok (.new 16, 3) := by decide +kernel
theorem dX7_init_19 : decode cX7_init 19 = .ok (.dup, 1) := by decide +kernel
theorem dX7_init_20 : decode cX7_init 20 = .ok (.invokespecial 18, 3) := by decide +kernel
theorem dX7_init_23 : decode cX7_init 23 = .ok (.putfield 19, 3) := by decide +kernel
theorem dX7_init_26 : decode cX7_init 26 = .ok (.aload_n 0, 1) := by decide +kernel
theorem dX7_init_27 : decode cX7_init 27 = .ok (.new 16, 3) := by decide +kernel
theorem dX7_init_30 : decode cX7_init 30 = .ok (.dup, 1) := by decide +kernel
theorem dX7_init_31 : decode cX7_init 31 = .ok (.invokespecial 18, 3) := by decide +kernel
theorem dX7_init_34 : decode cX7_init 34 = .ok (.putfield 23, 3) := by decide +kernel
theorem dX7_init_37 : decode cX7_init 37 = .ok (.aload_n 0, 1) := by decide +kernel
theorem dX7_init_38 : decode cX7_init 38 = .ok (.new 26, 3) := by decide +kernel
theorem dX7_init_41 : decode cX7_init 41 = .ok (.dup, 1) := by decide +kernel
theorem dX7_init_42 : decode cX7_init 42 = .ok (.invokespecial 28, 3) := by decide +kernel
theorem dX7_init_45 : decode cX7_init 45 = .ok (.putfield 29, 3) := by decide +kernel
theorem dX7_init_48 : decode cX7_init 48 = .ok (.aload_n 0, 1) := by decide +kernel
theorem dX7_init_49 : decode cX7_init 49 = .ok (.new 33, 3) := by decide +kernel
theorem dX7_init_52 : decode cX7_init 52 = .ok (.dup, 1) := by decide +kernel
theorem dX7_init_53 : decode cX7_init 53 = .ok (.invokespecial 35, 3) := by decide +kernel
theorem dX7_init_56 : decode cX7_init 56 = .ok (.putfield 36, 3) := by decide +kernel
theorem dX7_init_59 : decode cX7_init 59 = .ok (.aload_n 0, 1) := by decide +kernel
theorem dX7_init_60 : decode cX7_init 60 = .ok (.new 40, 3) := by decide +kernel
theorem dX7_init_63 : decode cX7_init 63 = .ok (.dup, 1) := by decide +kernel
theorem dX7_init_64 : decode cX7_init 64 = .ok (.invokespecial 42, 3) := by decide +kernel
theorem dX7_init_67 : decode cX7_init 67 = .ok (.putfield 43, 3) := by decide +kernel
theorem dX7_init_70 : decode cX7_init 70 = .ok (.return_, 1) := by decide +kernel
theorem dX7_letter_0 : decode cX7_letter 0 = .ok (.iload_n 1, 1) := by decide +kernel
theorem dX7_letter_1 : decode cX7_letter 1 = .ok (.bipush 32, 2) := by decide +kernel
theorem dX7_letter_3 : decode cX7_letter 3 = .ok (.if_icmp .lt 9, 3) := by decide +kernel
theorem dX7_letter_6 : decode cX7_letter 6 = .ok (.iload_n 1, 1) := by decide +kernel
theorem dX7_letter_7 : decode cX7_letter 7 = .ok (.bipush 126, 2) := by decide +kernel
theorem dX7_letter_9 : decode cX7_letter 9 = .ok (.if_icmp .le 6, 3) := by decide +kernel
theorem dX7_letter_12 : decode cX7_letter 12 = .ok (.bipush (-102), 2) := by decide +kernel
theorem dX7_letter_14 : decode cX7_letter 14 = .ok (.ireturn, 1) := by decide +kernel
theorem dX7_letter_15 : decode cX7_letter 15 = .ok (.aload_n 0, 1) := by decide +kernel
theorem dX7_letter_16 : decode cX7_letter 16 = .ok (.getfield 10, 3) := by decide +kernel
theorem dX7_letter_19 : decode cX7_letter 19 = .ok (.getfield 47, 3) := by decide +kernel
theorem dX7_letter_22 : decode cX7_letter 22 = .ok (.bipush 18, 2) := by decide +kernel
theorem dX7_letter_24 : decode cX7_letter 24 = .ok (.if_icmp .lt 6, 3) := by decide +kernel
theorem dX7_letter_27 : decode cX7_letter 27 = .ok (.bipush (-104), 2) := by decide +kernel
theorem dX7_letter_29 : decode cX7_letter 29 = .ok (.ireturn, 1) := by decide +kernel
theorem dX7_letter_30 : decode cX7_letter 30 = .ok (.aload_n 0, 1) := by decide +kernel
theorem dX7_letter_31 : decode cX7_letter 31 = .ok (.getfield 10, 3) := by decide +kernel
theorem dX7_letter_34 : decode cX7_letter 34 = .ok (.iload_n 1, 1) := by decide +kernel
theorem dX7_letter_35 : decode cX7_letter 35 = .ok (.invokevirtual 51, 3) := by decide +kernel
theorem dX7_letter_38 : decode cX7_letter 38 = .ok (.aload_n 0, 1) := by decide +kernel
theorem dX7_letter_39 : decode cX7_letter 39 = .ok (.getfield 10, 3) := by decide +kernel
theorem dX7_letter_42 : decode cX7_letter 42 = .ok (.getfield 47, 3) := by decide +kernel
theorem dX7_letter_45 : decode cX7_letter 45 = .ok (.ireturn, 1) := by decide +kernel
theorem dX7_blank_0 : decode cX7_blank 0 = .ok (.aload_n 0, 1) := by decide +kernel
theorem dX7_blank_1 : decode cX7_blank 1 = .ok (.getfield 10, 3) := by decide +kernel
theorem dX7_blank_4 : decode cX7_blank 4 = .ok (.getfield 47, 3) := by decide +kernel
theorem dX7_blank_7 : decode cX7_blank 7 = .ok (.istore_n 1, 1) := by decide +kernel
theorem dX7_blank_8 : decode cX7_blank 8 = .ok (.aload_n 0, 1) := by decide +kernel
theorem dX7_blank_9 : decode cX7_blank 9 = .ok (.getfield 10, 3) := by decide +kernel
theorem dX7_blank_12 : decode cX7_blank 12 = .ok (.iconst 0, 1) := by decide +kernel
theorem dX7_blank_13 : decode cX7_blank 13 = .ok (.putfield 47, 3) := by decide +kernel
theorem dX7_blank_16 : decode cX7_blank 16 = .ok (.iload_n 1, 1) := by decide +kernel
theorem dX7_blank_17 : decode cX7_blank 17 = .ok (.ireturn, 1) := by decide +kernel
theorem dX7_fault_0 : decode cX7_fault 0 = .ok (.aload_n 0, 1) := by decide +kernel
theorem dX7_fault_1 : decode cX7_fault 1 = .ok (.getfield 10, 3) := by decide +kernel
theorem dX7_fault_4 : decode cX7_fault 4 = .ok (.invokevirtual 55, 3) := by decide +kernel
theorem dX7_fault_7 : decode cX7_fault 7 = .ok (.ireturn, 1) := by decide +kernel
theorem dX7_garment_0 : decode cX7_garment 0 = .ok (.aload_n 0, 1) := by decide +kernel
theorem dX7_garment_1 : decode cX7_garment 1 = .ok (.getfield 10, 3) := by decide +kernel
theorem dX7_garment_4 : decode cX7_garment 4 = .ok (.invokevirtual 59, 3) := by decide +kernel
theorem dX7_garment_7 : decode cX7_garment 7 = .ok (.ifCond .ne 6, 3) := by decide +kernel
theorem dX7_garment_10 : decode cX7_garment 10 = .ok (.bipush (-103), 2) := by decide +kernel
theorem dX7_garment_12 : decode cX7_garment 12 = .ok (.ireturn, 1) := by decide +kernel
theorem dX7_garment_13 : decode cX7_garment 13 = .ok (.aload_n 0, 1) := by decide +kernel
theorem dX7_garment_14 : decode cX7_garment 14 = .ok (.getfield 19, 3) := by decide +kernel
theorem dX7_garment_17 : decode cX7_garment 17 = .ok (.aload_n 0, 1) := by decide +kernel
theorem dX7_garment_18 : decode cX7_garment 18 = .ok (.getfield 10, 3) := by decide +kernel
theorem dX7_garment_21 : decode cX7_garment 21 = .ok (.invokevirtual 63, 3) := by decide +kernel
theorem dX7_garment_24 : decode cX7_garment 24 = .ok (.aload_n 0, 1) := by decide +kernel
theorem dX7_garment_25 : decode cX7_garment 25 = .ok (.getfield 10, 3) := by decide +kernel
theorem dX7_garment_28 : decode cX7_garment 28 = .ok (.iconst 0, 1) := by decide +kernel
theorem dX7_garment_29 : decode cX7_garment 29 = .ok (.putfield 47, 3) := by decide +kernel
theorem dX7_garment_32 : decode cX7_garment 32 = .ok (.aload_n 0, 1) := by decide +kernel
theorem dX7_garment_33 : decode cX7_garment 33 = .ok (.iconst 0, 1) := by decide +kernel
theorem dX7_garment_34 : decode cX7_garment 34 = .ok (.putfield 67, 3) := by decide +kernel
theorem dX7_garment_37 : decode cX7_garment 37 = .ok (.aload_n 0, 1) := by decide +kernel
theorem dX7_garment_38 : decode cX7_garment 38 = .ok (.dup, 1) := by decide +kernel
theorem dX7_garment_39 : decode cX7_garment 39 = .ok (.getfield 71, 3) := by decide +kernel
theorem dX7_garment_42 : decode cX7_garment 42 = .ok (.iconst 1, 1) := by decide +kernel
theorem dX7_garment_43 : decode cX7_garment 43 = .ok (.iadd, 1) := by decide +kernel
theorem dX7_garment_44 : decode cX7_garment 44 = .ok (.putfield 71, 3) := by decide +kernel
theorem dX7_garment_47 : decode cX7_garment 47 = .ok (.aload_n 0, 1) := by decide +kernel
theorem dX7_garment_48 : decode cX7_garment 48 = .ok (.getfield 19, 3) := by decide +kernel
theorem dX7_garment_51 : decode cX7_garment 51 = .ok (.getfield 74, 3) := by decide +kernel
theorem dX7_garment_54 : decode cX7_garment 54 = .ok (.ireturn, 1) := by decide +kernel
theorem dX7_about_0 : decode cX7_about 0 = .ok (.aload_n 0, 1) := by decide +kernel
theorem dX7_about_1 : decode cX7_about 1 = .ok (.getfield 19, 3) := by decide +kernel
theorem dX7_about_4 : decode cX7_about 4 = .ok (.iload_n 1, 1) := by decide +kernel
theorem dX7_about_5 : decode cX7_about 5 = .ok (.invokevirtual 77, 3) := by decide +kernel
theorem dX7_about_8 : decode cX7_about 8 = .ok (.ifCond .ne 6, 3) := by decide +kernel
theorem dX7_about_11 : decode cX7_about 11 = .ok (.bipush (-101), 2) := by decide +kernel
theorem dX7_about_13 : decode cX7_about 13 = .ok (.ireturn, 1) := by decide +kernel
theorem dX7_about_14 : decode cX7_about 14 = .ok (.iload_n 2, 1) := by decide +kernel
theorem dX7_about_15 : decode cX7_about 15 = .ok (.ifCond .lt 9, 3) := by decide +kernel
theorem dX7_about_18 : decode cX7_about 18 = .ok (.iload_n 2, 1) := by decide +kernel
theorem dX7_about_19 : decode cX7_about 19 = .ok (.bipush 8, 2) := by decide +kernel
theorem dX7_about_21 : decode cX7_about 21 = .ok (.if_icmp .le 6, 3) := by decide +kernel
theorem dX7_about_24 : decode cX7_about 24 = .ok (.bipush (-102), 2) := by decide +kernel
theorem dX7_about_26 : decode cX7_about 26 = .ok (.ireturn, 1) := by decide +kernel
theorem dX7_about_27 : decode cX7_about 27 = .ok (.aload_n 0, 1) := by decide +kernel
theorem dX7_about_28 : decode cX7_about 28 = .ok (.getfield 19, 3) := by decide +kernel
theorem dX7_about_31 : decode cX7_about 31 = .ok (.iload_n 1, 1) := by decide +kernel
theorem dX7_about_32 : decode cX7_about 32 = .ok (.iload_n 2, 1) := by decide +kernel
theorem dX7_about_33 : decode cX7_about 33 = .ok (.invokevirtual 81, 3) := by decide +kernel
theorem dX7_about_36 : decode cX7_about 36 = .ok (.ireturn, 1) := by decide +kernel
theorem dX7_as_0 : decode cX7_as 0 = .ok (.aload_n 0, 1) := by decide +kernel
theorem dX7_as_1 : decode cX7_as 1 = .ok (.getfield 19, 3) := by decide +kernel
theorem dX7_as_4 : decode cX7_as 4 = .ok (.iload_n 1, 1) := by decide +kernel
theorem dX7_as_5 : decode cX7_as 5 = .ok (.invokevirtual 77, 3) := by decide +kernel
theorem dX7_as_8 : decode cX7_as 8 = .ok (.ifCond .ne 6, 3) := by decide +kernel
theorem dX7_as_11 : decode cX7_as 11 = .ok (.bipush (-101), 2) := by decide +kernel
theorem dX7_as_13 : decode cX7_as 13 = .ok (.ireturn, 1) := by decide +kernel
theorem dX7_as_14 : decode cX7_as 14 = .ok (.iload_n 2, 1) := by decide +kernel
theorem dX7_as_15 : decode cX7_as 15 = .ok (.ifCond .lt 11, 3) := by decide +kernel
theorem dX7_as_18 : decode cX7_as 18 = .ok (.iload_n 2, 1) := by decide +kernel
theorem dX7_as_19 : decode cX7_as 19 = .ok (.getstatic 85, 3) := by decide +kernel
theorem dX7_as_22 : decode cX7_as 22 = .ok (.arraylength, 1) := by decide +kernel
theorem dX7_as_23 : decode cX7_as 23 = .ok (.if_icmp .lt 6, 3) := by decide +kernel
theorem dX7_as_26 : decode cX7_as 26 = .ok (.bipush (-102), 2) := by decide +kernel
theorem dX7_as_28 : decode cX7_as 28 = .ok (.ireturn, 1) := by decide +kernel
theorem dX7_as_29 : decode cX7_as 29 = .ok (.aload_n 0, 1) := by decide +kernel
theorem dX7_as_30 : decode cX7_as 30 = .ok (.getfield 19, 3) := by decide +kernel
theorem dX7_as_33 : decode cX7_as 33 = .ok (.getfield 89, 3) := by decide +kernel
theorem dX7_as_36 : decode cX7_as 36 = .ok (.iload_n 1, 1) := by decide +kernel
theorem dX7_as_37 : decode cX7_as 37 = .ok (.aaload, 1) := by decide +kernel
theorem dX7_as_38 : decode cX7_as 38 = .ok (.iload_n 2, 1) := by decide +kernel
theorem dX7_as_39 : decode cX7_as 39 = .ok (.invokevirtual 93, 3) := by decide +kernel
theorem dX7_as_42 : decode cX7_as 42 = .ok (.ifCond .eq 7, 3) := by decide +kernel
theorem dX7_as_45 : decode cX7_as 45 = .ok (.iload_n 1, 1) := by decide +kernel
theorem dX7_as_46 : decode cX7_as 46 = .ok (.goto 4, 3) := by decide +kernel
theorem dX7_as_49 : decode cX7_as 49 = .ok (.iconst (-1), 1) := by decide +kernel
theorem dX7_as_50 : decode cX7_as 50 = .ok (.ireturn, 1) := by decide +kernel
theorem dX7_lot_0 : decode cX7_lot 0 = .ok (.iload_n 1, 1) := by decide +kernel
theorem dX7_lot_1 : decode cX7_lot 1 = .ok (.ifCond .lt 9, 3) := by decide +kernel
theorem dX7_lot_4 : decode cX7_lot 4 = .ok (.iload_n 1, 1) := by decide +kernel
theorem dX7_lot_5 : decode cX7_lot 5 = .ok (.bipush 20, 2) := by decide +kernel
theorem dX7_lot_7 : decode cX7_lot 7 = .ok (.if_icmp .le 6, 3) := by decide +kernel
theorem dX7_lot_10 : decode cX7_lot 10 = .ok (.bipush (-102), 2) := by decide +kernel
theorem dX7_lot_12 : decode cX7_lot 12 = .ok (.ireturn, 1) := by decide +kernel
theorem dX7_lot_13 : decode cX7_lot 13 = .ok (.aload_n 0, 1) := by decide +kernel
theorem dX7_lot_14 : decode cX7_lot 14 = .ok (.getfield 19, 3) := by decide +kernel
theorem dX7_lot_17 : decode cX7_lot 17 = .ok (.getfield 74, 3) := by decide +kernel
theorem dX7_lot_20 : decode cX7_lot 20 = .ok (.ifCond .ne 6, 3) := by decide +kernel
theorem dX7_lot_23 : decode cX7_lot 23 = .ok (.bipush (-103), 2) := by decide +kernel
theorem dX7_lot_25 : decode cX7_lot 25 = .ok (.ireturn, 1) := by decide +kernel
theorem dX7_lot_26 : decode cX7_lot 26 = .ok (.aload_n 0, 1) := by decide +kernel
theorem dX7_lot_27 : decode cX7_lot 27 = .ok (.getfield 19, 3) := by decide +kernel
theorem dX7_lot_30 : decode cX7_lot 30 = .ok (.getfield 98, 3) := by decide +kernel
theorem dX7_lot_33 : decode cX7_lot 33 = .ok (.iconst 3, 1) := by decide +kernel
theorem dX7_lot_34 : decode cX7_lot 34 = .ok (.if_icmp .lt 6, 3) := by decide +kernel
theorem dX7_lot_37 : decode cX7_lot 37 = .ok (.bipush (-104), 2) := by decide +kernel
theorem dX7_lot_39 : decode cX7_lot 39 = .ok (.ireturn, 1) := by decide +kernel
theorem dX7_lot_40 : decode cX7_lot 40 = .ok (.aload_n 0, 1) := by decide +kernel
theorem dX7_lot_41 : decode cX7_lot 41 = .ok (.getfield 19, 3) := by decide +kernel
theorem dX7_lot_44 : decode cX7_lot 44 = .ok (.getfield 101, 3) := by decide +kernel
theorem dX7_lot_47 : decode cX7_lot 47 = .ok (.aload_n 0, 1) := by decide +kernel
theorem dX7_lot_48 : decode cX7_lot 48 = .ok (.getfield 19, 3) := by decide +kernel
theorem dX7_lot_51 : decode cX7_lot 51 = .ok (.getfield 98, 3) := by decide +kernel
theorem dX7_lot_54 : decode cX7_lot 54 = .ok (.aaload, 1) := by decide +kernel
theorem dX7_lot_55 : decode cX7_lot 55 = .ok (.iload_n 1, 1) := by decide +kernel
theorem dX7_lot_56 : decode cX7_lot 56 = .ok (.invokevirtual 105, 3) := by decide +kernel
theorem dX7_lot_59 : decode cX7_lot 59 = .ok (.aload_n 0, 1) := by decide +kernel
theorem dX7_lot_60 : decode cX7_lot 60 = .ok (.getfield 19, 3) := by decide +kernel
theorem dX7_lot_63 : decode cX7_lot 63 = .ok (.dup, 1) := by decide +kernel
theorem dX7_lot_64 : decode cX7_lot 64 = .ok (.getfield 98, 3) := by decide +kernel
theorem dX7_lot_67 : decode cX7_lot 67 = .ok (.iconst 1, 1) := by decide +kernel
theorem dX7_lot_68 : decode cX7_lot 68 = .ok (.iadd, 1) := by decide +kernel
theorem dX7_lot_69 : decode cX7_lot 69 = .ok (.putfield 98, 3) := by decide +kernel
theorem dX7_lot_72 : decode cX7_lot 72 = .ok (.aload_n 0, 1) := by decide +kernel
theorem dX7_lot_73 : decode cX7_lot 73 = .ok (.getfield 19, 3) := by decide +kernel
theorem dX7_lot_76 : decode cX7_lot 76 = .ok (.getfield 98, 3) := by decide +kernel
theorem dX7_lot_79 : decode cX7_lot 79 = .ok (.iconst 1, 1) := by decide +kernel
theorem dX7_lot_80 : decode cX7_lot 80 = .ok (.isub, 1) := by decide +kernel
theorem dX7_lot_81 : decode cX7_lot 81 = .ok (.ireturn, 1) := by decide +kernel
theorem dX7_lotOf_0 : decode cX7_lotOf 0 = .ok (.aload_n 0, 1) := by decide +kernel
theorem dX7_lotOf_1 : decode cX7_lotOf 1 = .ok (.getfield 19, 3) := by decide +kernel
theorem dX7_lotOf_4 : decode cX7_lotOf 4 = .ok (.iload_n 1, 1) := by decide +kernel
theorem dX7_lotOf_5 : decode cX7_lotOf 5 = .ok (.invokevirtual 109, 3) := by decide +kernel
theorem dX7_lotOf_8 : decode cX7_lotOf 8 = .ok (.ifCond .ne 6, 3) := by decide +kernel
theorem dX7_lotOf_11 : decode cX7_lotOf 11 = .ok (.bipush (-101), 2) := by decide +kernel
theorem dX7_lotOf_13 : decode cX7_lotOf 13 = .ok (.ireturn, 1) := by decide +kernel
theorem dX7_lotOf_14 : decode cX7_lotOf 14 = .ok (.iload_n 2, 1) := by decide +kernel
theorem dX7_lotOf_15 : decode cX7_lotOf 15 = .ok (.ifCond .lt 8, 3) := by decide +kernel
theorem dX7_lotOf_18 : decode cX7_lotOf 18 = .ok (.iload_n 2, 1) := by decide +kernel
theorem dX7_lotOf_19 : decode cX7_lotOf 19 = .ok (.iconst 2, 1) := by decide +kernel
theorem dX7_lotOf_20 : decode cX7_lotOf 20 = .ok (.if_icmp .le 6, 3) := by decide +kernel
theorem dX7_lotOf_23 : decode cX7_lotOf 23 = .ok (.bipush (-102), 2) := by decide +kernel
theorem dX7_lotOf_25 : decode cX7_lotOf 25 = .ok (.ireturn, 1) := by decide +kernel
theorem dX7_lotOf_26 : decode cX7_lotOf 26 = .ok (.aload_n 0, 1) := by decide +kernel
theorem dX7_lotOf_27 : decode cX7_lotOf 27 = .ok (.getfield 19, 3) := by decide +kernel
theorem dX7_lotOf_30 : decode cX7_lotOf 30 = .ok (.getfield 101, 3) := by decide +kernel
theorem dX7_lotOf_33 : decode cX7_lotOf 33 = .ok (.iload_n 1, 1) := by decide +kernel
theorem dX7_lotOf_34 : decode cX7_lotOf 34 = .ok (.aaload, 1) := by decide +kernel
theorem dX7_lotOf_35 : decode cX7_lotOf 35 = .ok (.iload_n 2, 1) := by decide +kernel
theorem dX7_lotOf_36 : decode cX7_lotOf 36 = .ok (.invokevirtual 112, 3) := by decide +kernel
theorem dX7_lotOf_39 : decode cX7_lotOf 39 = .ok (.ireturn, 1) := by decide +kernel
theorem dX7_buy_0 : decode cX7_buy 0 = .ok (.aload_n 0, 1) := by decide +kernel
theorem dX7_buy_1 : decode cX7_buy 1 = .ok (.getfield 19, 3) := by decide +kernel
theorem dX7_buy_4 : decode cX7_buy 4 = .ok (.iload_n 1, 1) := by decide +kernel
theorem dX7_buy_5 : decode cX7_buy 5 = .ok (.invokevirtual 109, 3) := by decide +kernel
theorem dX7_buy_8 : decode cX7_buy 8 = .ok (.ifCond .ne 6, 3) := by decide +kernel
theorem dX7_buy_11 : decode cX7_buy 11 = .ok (.bipush (-101), 2) := by decide +kernel
theorem dX7_buy_13 : decode cX7_buy 13 = .ok (.ireturn, 1) := by decide +kernel
theorem dX7_buy_14 : decode cX7_buy 14 = .ok (.iload_n 2, 1) := by decide +kernel
theorem dX7_buy_15 : decode cX7_buy 15 = .ok (.iconst 1, 1) := by decide +kernel
theorem dX7_buy_16 : decode cX7_buy 16 = .ok (.if_icmp .lt 9, 3) := by decide +kernel
theorem dX7_buy_19 : decode cX7_buy 19 = .ok (.iload_n 2, 1) := by decide +kernel
theorem dX7_buy_20 : decode cX7_buy 20 = .ok (.bipush 9, 2) := by decide +kernel
theorem dX7_buy_22 : decode cX7_buy 22 = .ok (.if_icmp .le 6, 3) := by decide +kernel
theorem dX7_buy_25 : decode cX7_buy 25 = .ok (.bipush (-102), 2) := by decide +kernel
theorem dX7_buy_27 : decode cX7_buy 27 = .ok (.ireturn, 1) := by decide +kernel
theorem dX7_buy_28 : decode cX7_buy 28 = .ok (.aload_n 0, 1) := by decide +kernel
theorem dX7_buy_29 : decode cX7_buy 29 = .ok (.getfield 19, 3) := by decide +kernel
theorem dX7_buy_32 : decode cX7_buy 32 = .ok (.getfield 101, 3) := by decide +kernel
theorem dX7_buy_35 : decode cX7_buy 35 = .ok (.iload_n 1, 1) := by decide +kernel
theorem dX7_buy_36 : decode cX7_buy 36 = .ok (.aaload, 1) := by decide +kernel
theorem dX7_buy_37 : decode cX7_buy 37 = .ok (.astore_n 3, 1) := by decide +kernel
theorem dX7_buy_38 : decode cX7_buy 38 = .ok (.aload_n 3, 1) := by decide +kernel
theorem dX7_buy_39 : decode cX7_buy 39 = .ok (.getfield 116, 3) := by decide +kernel
theorem dX7_buy_42 : decode cX7_buy 42 = .ok (.iload_n 2, 1) := by decide +kernel
theorem dX7_buy_43 : decode cX7_buy 43 = .ok (.iadd, 1) := by decide +kernel
theorem dX7_buy_44 : decode cX7_buy 44 = .ok (.bipush 40, 2) := by decide +kernel
theorem dX7_buy_46 : decode cX7_buy 46 = .ok (.if_icmp .le 6, 3) := by decide +kernel
theorem dX7_buy_49 : decode cX7_buy 49 = .ok (.bipush (-104), 2) := by decide +kernel
theorem dX7_buy_51 : decode cX7_buy 51 = .ok (.ireturn, 1) := by decide +kernel
theorem dX7_buy_52 : decode cX7_buy 52 = .ok (.aload_n 3, 1) := by decide +kernel
theorem dX7_buy_53 : decode cX7_buy 53 = .ok (.dup, 1) := by decide +kernel
theorem dX7_buy_54 : decode cX7_buy 54 = .ok (.getfield 116, 3) := by decide +kernel
theorem dX7_buy_57 : decode cX7_buy 57 = .ok (.iload_n 2, 1) := by decide +kernel
theorem dX7_buy_58 : decode cX7_buy 58 = .ok (.iadd, 1) := by decide +kernel
theorem dX7_buy_59 : decode cX7_buy 59 = .ok (.putfield 116, 3) := by decide +kernel
theorem dX7_buy_62 : decode cX7_buy 62 = .ok (.aload_n 3, 1) := by decide +kernel
theorem dX7_buy_63 : decode cX7_buy 63 = .ok (.getfield 116, 3) := by decide +kernel
theorem dX7_buy_66 : decode cX7_buy 66 = .ok (.ireturn, 1) := by decide +kernel
theorem dX7_back_0 : decode cX7_back 0 = .ok (.aload_n 0, 1) := by decide +kernel
theorem dX7_back_1 : decode cX7_back 1 = .ok (.getfield 19, 3) := by decide +kernel
theorem dX7_back_4 : decode cX7_back 4 = .ok (.iload_n 1, 1) := by decide +kernel
theorem dX7_back_5 : decode cX7_back 5 = .ok (.invokevirtual 109, 3) := by decide +kernel
theorem dX7_back_8 : decode cX7_back 8 = .ok (.ifCond .ne 6, 3) := by decide +kernel
theorem dX7_back_11 : decode cX7_back 11 = .ok (.bipush (-101), 2) := by decide +kernel
theorem dX7_back_13 : decode cX7_back 13 = .ok (.ireturn, 1) := by decide +kernel
theorem dX7_back_14 : decode cX7_back 14 = .ok (.iload_n 2, 1) := by decide +kernel
theorem dX7_back_15 : decode cX7_back 15 = .ok (.iconst 1, 1) := by decide +kernel
theorem dX7_back_16 : decode cX7_back 16 = .ok (.if_icmp .lt 9, 3) := by decide +kernel
theorem dX7_back_19 : decode cX7_back 19 = .ok (.iload_n 2, 1) := by decide +kernel
theorem dX7_back_20 : decode cX7_back 20 = .ok (.bipush 9, 2) := by decide +kernel
theorem dX7_back_22 : decode cX7_back 22 = .ok (.if_icmp .le 6, 3) := by decide +kernel
theorem dX7_back_25 : decode cX7_back 25 = .ok (.bipush (-102), 2) := by decide +kernel
theorem dX7_back_27 : decode cX7_back 27 = .ok (.ireturn, 1) := by decide +kernel
theorem dX7_back_28 : decode cX7_back 28 = .ok (.aload_n 0, 1) := by decide +kernel
theorem dX7_back_29 : decode cX7_back 29 = .ok (.getfield 19, 3) := by decide +kernel
theorem dX7_back_32 : decode cX7_back 32 = .ok (.getfield 101, 3) := by decide +kernel
theorem dX7_back_35 : decode cX7_back 35 = .ok (.iload_n 1, 1) := by decide +kernel
theorem dX7_back_36 : decode cX7_back 36 = .ok (.aaload, 1) := by decide +kernel
theorem dX7_back_37 : decode cX7_back 37 = .ok (.astore_n 3, 1) := by decide +kernel
theorem dX7_back_38 : decode cX7_back 38 = .ok (.aload_n 3, 1) := by decide +kernel
theorem dX7_back_39 : decode cX7_back 39 = .ok (.getfield 116, 3) := by decide +kernel
theorem dX7_back_42 : decode cX7_back 42 = .ok (.iload_n 2, 1) := by decide +kernel
theorem dX7_back_43 : decode cX7_back 43 = .ok (.if_icmp .ge 6, 3) := by decide +kernel
theorem dX7_back_46 : decode cX7_back 46 = .ok (.bipush (-103), 2) := by decide +kernel
theorem dX7_back_48 : decode cX7_back 48 = .ok (.ireturn, 1) := by decide +kernel
theorem dX7_back_49 : decode cX7_back 49 = .ok (.aload_n 3, 1) := by decide +kernel
theorem dX7_back_50 : decode cX7_back 50 = .ok (.dup, 1) := by decide +kernel
theorem dX7_back_51 : decode cX7_back 51 = .ok (.getfield 116, 3) := by decide +kernel
theorem dX7_back_54 : decode cX7_back 54 = .ok (.iload_n 2, 1) := by decide +kernel
theorem dX7_back_55 : decode cX7_back 55 = .ok (.isub, 1) := by decide +kernel
theorem dX7_back_56 : decode cX7_back 56 = .ok (.putfield 116, 3) := by decide +kernel
theorem dX7_back_59 : decode cX7_back 59 = .ok (.aload_n 3, 1) := by decide +kernel
theorem dX7_back_60 : decode cX7_back 60 = .ok (.getfield 116, 3) := by decide +kernel
theorem dX7_back_63 : decode cX7_back 63 = .ok (.ireturn, 1) := by decide +kernel
theorem dX7_knit_0 : decode cX7_knit 0 = .ok (.aload_n 0, 1) := by decide +kernel
theorem dX7_knit_1 : decode cX7_knit 1 = .ok (.getfield 19, 3) := by decide +kernel
theorem dX7_knit_4 : decode cX7_knit 4 = .ok (.iload_n 1, 1) := by decide +kernel
theorem dX7_knit_5 : decode cX7_knit 5 = .ok (.invokevirtual 77, 3) := by decide +kernel
theorem dX7_knit_8 : decode cX7_knit 8 = .ok (.ifCond .eq 25, 3) := by decide +kernel
theorem dX7_knit_11 : decode cX7_knit 11 = .ok (.aload_n 0, 1) := by decide +kernel
theorem dX7_knit_12 : decode cX7_knit 12 = .ok (.getfield 19, 3) := by decide +kernel
theorem dX7_knit_15 : decode cX7_knit 15 = .ok (.iload_n 2, 1) := by decide +kernel
theorem dX7_knit_16 : decode cX7_knit 16 = .ok (.invokevirtual 109, 3) := by decide +kernel
theorem dX7_knit_19 : decode cX7_knit 19 = .ok (.ifCond .eq 14, 3) := by decide +kernel
theorem dX7_knit_22 : decode cX7_knit 22 = .ok (.aload_n 0, 1) := by decide +kernel
theorem dX7_knit_23 : decode cX7_knit 23 = .ok (.getfield 19, 3) := by decide +kernel
theorem dX7_knit_26 : decode cX7_knit 26 = .ok (.iload_n 3, 1) := by decide +kernel
theorem dX7_knit_27 : decode cX7_knit 27 = .ok (.invokevirtual 109, 3) := by decide +kernel
theorem dX7_knit_30 : decode cX7_knit 30 = .ok (.ifCond .ne 6, 3) := by decide +kernel
theorem dX7_knit_33 : decode cX7_knit 33 = .ok (.bipush (-101), 2) := by decide +kernel
theorem dX7_knit_35 : decode cX7_knit 35 = .ok (.ireturn, 1) := by decide +kernel
theorem dX7_knit_36 : decode cX7_knit 36 = .ok (.aload_n 0, 1) := by decide +kernel
theorem dX7_knit_37 : decode cX7_knit 37 = .ok (.getfield 19, 3) := by decide +kernel
theorem dX7_knit_40 : decode cX7_knit 40 = .ok (.getfield 89, 3) := by decide +kernel
theorem dX7_knit_43 : decode cX7_knit 43 = .ok (.iload_n 1, 1) := by decide +kernel
theorem dX7_knit_44 : decode cX7_knit 44 = .ok (.aaload, 1) := by decide +kernel
theorem dX7_knit_45 : decode cX7_knit 45 = .ok (.invokevirtual 119, 3) := by decide +kernel
theorem dX7_knit_48 : decode cX7_knit 48 = .ok (.ifCond .ne 16, 3) := by decide +kernel
theorem dX7_knit_51 : decode cX7_knit 51 = .ok (.aload_n 0, 1) := by decide +kernel
theorem dX7_knit_52 : decode cX7_knit 52 = .ok (.getfield 19, 3) := by decide +kernel
theorem dX7_knit_55 : decode cX7_knit 55 = .ok (.iload_n 1, 1) := by decide +kernel
theorem dX7_knit_56 : decode cX7_knit 56 = .ok (.iload_n 2, 1) := by decide +kernel
theorem dX7_knit_57 : decode cX7_knit 57 = .ok (.iload_n 3, 1) := by decide +kernel
theorem dX7_knit_58 : decode cX7_knit 58 = .ok (.invokevirtual 122, 3) := by decide +kernel
theorem dX7_knit_61 : decode cX7_knit 61 = .ok (.ifCond .ne 6, 3) := by decide +kernel
theorem dX7_knit_64 : decode cX7_knit 64 = .ok (.bipush (-103), 2) := by decide +kernel
theorem dX7_knit_66 : decode cX7_knit 66 = .ok (.ireturn, 1) := by decide +kernel
theorem dX7_knit_67 : decode cX7_knit 67 = .ok (.aload_n 0, 1) := by decide +kernel
theorem dX7_knit_68 : decode cX7_knit 68 = .ok (.getfield 19, 3) := by decide +kernel
theorem dX7_knit_71 : decode cX7_knit 71 = .ok (.iload_n 1, 1) := by decide +kernel
theorem dX7_knit_72 : decode cX7_knit 72 = .ok (.iload_n 2, 1) := by decide +kernel
theorem dX7_knit_73 : decode cX7_knit 73 = .ok (.iload_n 3, 1) := by decide +kernel
theorem dX7_knit_74 : decode cX7_knit 74 = .ok (.invokevirtual 126, 3) := by decide +kernel
theorem dX7_knit_77 : decode cX7_knit 77 = .ok (.aload_n 0, 1) := by decide +kernel
theorem dX7_knit_78 : decode cX7_knit 78 = .ok (.getfield 19, 3) := by decide +kernel
theorem dX7_knit_81 : decode cX7_knit 81 = .ok (.invokevirtual 130, 3) := by decide +kernel
theorem dX7_knit_84 : decode cX7_knit 84 = .ok (.ireturn, 1) := by decide +kernel
theorem dX7_undo_0 : decode cX7_undo 0 = .ok (.aload_n 0, 1) := by decide +kernel
theorem dX7_undo_1 : decode cX7_undo 1 = .ok (.getfield 19, 3) := by decide +kernel
theorem dX7_undo_4 : decode cX7_undo 4 = .ok (.iload_n 1, 1) := by decide +kernel
theorem dX7_undo_5 : decode cX7_undo 5 = .ok (.invokevirtual 77, 3) := by decide +kernel
theorem dX7_undo_8 : decode cX7_undo 8 = .ok (.ifCond .ne 6, 3) := by decide +kernel
theorem dX7_undo_11 : decode cX7_undo 11 = .ok (.bipush (-101), 2) := by decide +kernel
theorem dX7_undo_13 : decode cX7_undo 13 = .ok (.ireturn, 1) := by decide +kernel
theorem dX7_undo_14 : decode cX7_undo 14 = .ok (.aload_n 0, 1) := by decide +kernel
theorem dX7_undo_15 : decode cX7_undo 15 = .ok (.getfield 19, 3) := by decide +kernel
theorem dX7_undo_18 : decode cX7_undo 18 = .ok (.getfield 89, 3) := by decide +kernel
theorem dX7_undo_21 : decode cX7_undo 21 = .ok (.iload_n 1, 1) := by decide +kernel
theorem dX7_undo_22 : decode cX7_undo 22 = .ok (.aaload, 1) := by decide +kernel
theorem dX7_undo_23 : decode cX7_undo 23 = .ok (.invokevirtual 119, 3) := by decide +kernel
theorem dX7_undo_26 : decode cX7_undo 26 = .ok (.ifCond .ne 6, 3) := by decide +kernel
theorem dX7_undo_29 : decode cX7_undo 29 = .ok (.bipush (-103), 2) := by decide +kernel
theorem dX7_undo_31 : decode cX7_undo 31 = .ok (.ireturn, 1) := by decide +kernel
theorem dX7_undo_32 : decode cX7_undo 32 = .ok (.aload_n 0, 1) := by decide +kernel
theorem dX7_undo_33 : decode cX7_undo 33 = .ok (.getfield 19, 3) := by decide +kernel
theorem dX7_undo_36 : decode cX7_undo 36 = .ok (.iload_n 1, 1) := by decide +kernel
theorem dX7_undo_37 : decode cX7_undo 37 = .ok (.invokevirtual 133, 3) := by decide +kernel
theorem dX7_undo_40 : decode cX7_undo 40 = .ok (.ireturn, 1) := by decide +kernel
theorem dX7_gauge_0 : decode cX7_gauge 0 = .ok (.aload_n 0, 1) := by decide +kernel
theorem dX7_gauge_1 : decode cX7_gauge 1 = .ok (.getfield 19, 3) := by decide +kernel
theorem dX7_gauge_4 : decode cX7_gauge 4 = .ok (.iload_n 1, 1) := by decide +kernel
theorem dX7_gauge_5 : decode cX7_gauge 5 = .ok (.invokevirtual 77, 3) := by decide +kernel
theorem dX7_gauge_8 : decode cX7_gauge 8 = .ok (.ifCond .ne 6, 3) := by decide +kernel
theorem dX7_gauge_11 : decode cX7_gauge 11 = .ok (.bipush (-101), 2) := by decide +kernel
theorem dX7_gauge_13 : decode cX7_gauge 13 = .ok (.ireturn, 1) := by decide +kernel
theorem dX7_gauge_14 : decode cX7_gauge 14 = .ok (.iload_n 2, 1) := by decide +kernel
theorem dX7_gauge_15 : decode cX7_gauge 15 = .ok (.iconst 1, 1) := by decide +kernel
theorem dX7_gauge_16 : decode cX7_gauge 16 = .ok (.if_icmp .lt 9, 3) := by decide +kernel
theorem dX7_gauge_19 : decode cX7_gauge 19 = .ok (.iload_n 2, 1) := by decide +kernel
theorem dX7_gauge_20 : decode cX7_gauge 20 = .ok (.bipush 18, 2) := by decide +kernel
theorem dX7_gauge_22 : decode cX7_gauge 22 = .ok (.if_icmp .le 6, 3) := by decide +kernel
theorem dX7_gauge_25 : decode cX7_gauge 25 = .ok (.bipush (-102), 2) := by decide +kernel
theorem dX7_gauge_27 : decode cX7_gauge 27 = .ok (.ireturn, 1) := by decide +kernel
theorem dX7_gauge_28 : decode cX7_gauge 28 = .ok (.aload_n 0, 1) := by decide +kernel
theorem dX7_gauge_29 : decode cX7_gauge 29 = .ok (.getfield 19, 3) := by decide +kernel
theorem dX7_gauge_32 : decode cX7_gauge 32 = .ok (.getfield 89, 3) := by decide +kernel
theorem dX7_gauge_35 : decode cX7_gauge 35 = .ok (.iload_n 1, 1) := by decide +kernel
theorem dX7_gauge_36 : decode cX7_gauge 36 = .ok (.aaload, 1) := by decide +kernel
theorem dX7_gauge_37 : decode cX7_gauge 37 = .ok (.astore_n 3, 1) := by decide +kernel
theorem dX7_gauge_38 : decode cX7_gauge 38 = .ok (.aload_n 0, 1) := by decide +kernel
theorem dX7_gauge_39 : decode cX7_gauge 39 = .ok (.getfield 19, 3) := by decide +kernel
theorem dX7_gauge_42 : decode cX7_gauge 42 = .ok (.aload_n 3, 1) := by decide +kernel
theorem dX7_gauge_43 : decode cX7_gauge 43 = .ok (.getfield 136, 3) := by decide +kernel
theorem dX7_gauge_46 : decode cX7_gauge 46 = .ok (.invokevirtual 109, 3) := by decide +kernel
theorem dX7_gauge_49 : decode cX7_gauge 49 = .ok (.ifCond .eq 10, 3) := by decide +kernel
theorem dX7_gauge_52 : decode cX7_gauge 52 = .ok (.aload_n 3, 1) := by decide +kernel
theorem dX7_gauge_53 : decode cX7_gauge 53 = .ok (.invokevirtual 139, 3) := by decide +kernel
theorem dX7_gauge_56 : decode cX7_gauge 56 = .ok (.ifCond .eq 6, 3) := by decide +kernel
theorem dX7_gauge_59 : decode cX7_gauge 59 = .ok (.bipush (-103), 2) := by decide +kernel
theorem dX7_gauge_61 : decode cX7_gauge 61 = .ok (.ireturn, 1) := by decide +kernel
theorem dX7_gauge_62 : decode cX7_gauge 62 = .ok (.iload_n 2, 1) := by decide +kernel
theorem dX7_gauge_63 : decode cX7_gauge 63 = .ok (.aload_n 3, 1) := by decide +kernel
theorem dX7_gauge_64 : decode cX7_gauge 64 = .ok (.getfield 142, 3) := by decide +kernel
theorem dX7_gauge_67 : decode cX7_gauge 67 = .ok (.isub, 1) := by decide +kernel
theorem dX7_gauge_68 : decode cX7_gauge 68 = .ok (.istore 4, 2) := by decide +kernel
theorem dX7_gauge_70 : decode cX7_gauge 70 = .ok (.aload_n 0, 1) := by decide +kernel
theorem dX7_gauge_71 : decode cX7_gauge 71 = .ok (.getfield 19, 3) := by decide +kernel
theorem dX7_gauge_74 : decode cX7_gauge 74 = .ok (.getfield 101, 3) := by decide +kernel
theorem dX7_gauge_77 : decode cX7_gauge 77 = .ok (.aload_n 3, 1) := by decide +kernel
theorem dX7_gauge_78 : decode cX7_gauge 78 = .ok (.getfield 136, 3) := by decide +kernel
theorem dX7_gauge_81 : decode cX7_gauge 81 = .ok (.aaload, 1) := by decide +kernel
theorem dX7_gauge_82 : decode cX7_gauge 82 = .ok (.astore 5, 2) := by decide +kernel
theorem dX7_gauge_84 : decode cX7_gauge 84 = .ok (.aload 5, 2) := by decide +kernel
theorem dX7_gauge_86 : decode cX7_gauge 86 = .ok (.invokevirtual 145, 3) := by decide +kernel
theorem dX7_gauge_89 : decode cX7_gauge 89 = .ok (.iload 4, 2) := by decide +kernel
theorem dX7_gauge_91 : decode cX7_gauge 91 = .ok (.if_icmp .ge 6, 3) := by decide +kernel
theorem dX7_gauge_94 : decode cX7_gauge 94 = .ok (.bipush (-103), 2) := by decide +kernel
theorem dX7_gauge_96 : decode cX7_gauge 96 = .ok (.ireturn, 1) := by decide +kernel
theorem dX7_gauge_97 : decode cX7_gauge 97 = .ok (.aload 5, 2) := by decide +kernel
theorem dX7_gauge_99 : decode cX7_gauge 99 = .ok (.iload 4, 2) := by decide +kernel
theorem dX7_gauge_101 : decode cX7_gauge 101 = .ok (.invokevirtual 148, 3) := by decide +kernel
theorem dX7_gauge_104 : decode cX7_gauge 104 = .ok (.aload_n 3, 1) := by decide +kernel
theorem dX7_gauge_105 : decode cX7_gauge 105 = .ok (.iload_n 2, 1) := by decide +kernel
theorem dX7_gauge_106 : decode cX7_gauge 106 = .ok (.putfield 142, 3) := by decide +kernel
theorem dX7_gauge_109 : decode cX7_gauge 109 = .ok (.aload_n 3, 1) := by decide +kernel
theorem dX7_gauge_110 : decode cX7_gauge 110 = .ok (.iconst 1, 1) := by decide +kernel
theorem dX7_gauge_111 : decode cX7_gauge 111 = .ok (.putfield 151, 3) := by decide +kernel
theorem dX7_gauge_114 : decode cX7_gauge 114 = .ok (.iload 4, 2) := by decide +kernel
theorem dX7_gauge_116 : decode cX7_gauge 116 = .ok (.ireturn, 1) := by decide +kernel
theorem dX7_wash_0 : decode cX7_wash 0 = .ok (.aload_n 0, 1) := by decide +kernel
theorem dX7_wash_1 : decode cX7_wash 1 = .ok (.getfield 19, 3) := by decide +kernel
theorem dX7_wash_4 : decode cX7_wash 4 = .ok (.getfield 74, 3) := by decide +kernel
theorem dX7_wash_7 : decode cX7_wash 7 = .ok (.ifCond .ne 6, 3) := by decide +kernel
theorem dX7_wash_10 : decode cX7_wash 10 = .ok (.bipush (-103), 2) := by decide +kernel
theorem dX7_wash_12 : decode cX7_wash 12 = .ok (.ireturn, 1) := by decide +kernel
theorem dX7_wash_13 : decode cX7_wash 13 = .ok (.iconst 0, 1) := by decide +kernel
theorem dX7_wash_14 : decode cX7_wash 14 = .ok (.istore_n 1, 1) := by decide +kernel
theorem dX7_wash_15 : decode cX7_wash 15 = .ok (.iload_n 1, 1) := by decide +kernel
theorem dX7_wash_16 : decode cX7_wash 16 = .ok (.aload_n 0, 1) := by decide +kernel
theorem dX7_wash_17 : decode cX7_wash 17 = .ok (.getfield 19, 3) := by decide +kernel
theorem dX7_wash_20 : decode cX7_wash 20 = .ok (.getfield 98, 3) := by decide +kernel
theorem dX7_wash_23 : decode cX7_wash 23 = .ok (.if_icmp .ge 43, 3) := by decide +kernel
theorem dX7_wash_26 : decode cX7_wash 26 = .ok (.aload_n 0, 1) := by decide +kernel
theorem dX7_wash_27 : decode cX7_wash 27 = .ok (.getfield 19, 3) := by decide +kernel
theorem dX7_wash_30 : decode cX7_wash 30 = .ok (.getfield 101, 3) := by decide +kernel
theorem dX7_wash_33 : decode cX7_wash 33 = .ok (.iload_n 1, 1) := by decide +kernel
theorem dX7_wash_34 : decode cX7_wash 34 = .ok (.aaload, 1) := by decide +kernel
theorem dX7_wash_35 : decode cX7_wash 35 = .ok (.aload_n 0, 1) := by decide +kernel
theorem dX7_wash_36 : decode cX7_wash 36 = .ok (.getfield 19, 3) := by decide +kernel
theorem dX7_wash_39 : decode cX7_wash 39 = .ok (.getfield 101, 3) := by decide +kernel
theorem dX7_wash_42 : decode cX7_wash 42 = .ok (.iload_n 1, 1) := by decide +kernel
theorem dX7_wash_43 : decode cX7_wash 43 = .ok (.aaload, 1) := by decide +kernel
theorem dX7_wash_44 : decode cX7_wash 44 = .ok (.getfield 154, 3) := by decide +kernel
theorem dX7_wash_47 : decode cX7_wash 47 = .ok (.aload_n 0, 1) := by decide +kernel
theorem dX7_wash_48 : decode cX7_wash 48 = .ok (.getfield 19, 3) := by decide +kernel
theorem dX7_wash_51 : decode cX7_wash 51 = .ok (.getfield 157, 3) := by decide +kernel
theorem dX7_wash_54 : decode cX7_wash 54 = .ok (.invokestatic 160, 3) := by decide +kernel
theorem dX7_wash_57 : decode cX7_wash 57 = .ok (.putfield 154, 3) := by decide +kernel
theorem dX7_wash_60 : decode cX7_wash 60 = .ok (.iinc 1 1, 3) := by decide +kernel
theorem dX7_wash_63 : decode cX7_wash 63 = .ok (.goto (-48), 3) := by decide +kernel
theorem dX7_wash_66 : decode cX7_wash 66 = .ok (.aload_n 0, 1) := by decide +kernel
theorem dX7_wash_67 : decode cX7_wash 67 = .ok (.getfield 19, 3) := by decide +kernel
theorem dX7_wash_70 : decode cX7_wash 70 = .ok (.invokevirtual 130, 3) := by decide +kernel
theorem dX7_wash_73 : decode cX7_wash 73 = .ok (.ireturn, 1) := by decide +kernel
theorem dX7_least_0 : decode cX7_least 0 = .ok (.iload_n 1, 1) := by decide +kernel
theorem dX7_least_1 : decode cX7_least 1 = .ok (.bipush 10, 2) := by decide +kernel
theorem dX7_least_3 : decode cX7_least 3 = .ok (.isub, 1) := by decide +kernel
theorem dX7_least_4 : decode cX7_least 4 = .ok (.istore_n 2, 1) := by decide +kernel
theorem dX7_least_5 : decode cX7_least 5 = .ok (.iload_n 1, 1) := by decide +kernel
theorem dX7_least_6 : decode cX7_least 6 = .ok (.ifCond .eq 17, 3) := by decide +kernel
theorem dX7_least_9 : decode cX7_least 9 = .ok (.iload_n 1, 1) := by decide +kernel
theorem dX7_least_10 : decode cX7_least 10 = .ok (.bipush 10, 2) := by decide +kernel
theorem dX7_least_12 : decode cX7_least 12 = .ok (.if_icmp .lt 8, 3) := by decide +kernel
theorem dX7_least_15 : decode cX7_least 15 = .ok (.iload_n 2, 1) := by decide +kernel
theorem dX7_least_16 : decode cX7_least 16 = .ok (.iconst 5, 1) := by decide +kernel
theorem dX7_least_17 : decode cX7_least 17 = .ok (.if_icmp .lt 6, 3) := by decide +kernel
theorem dX7_least_20 : decode cX7_least 20 = .ok (.bipush (-102), 2) := by decide +kernel
theorem dX7_least_22 : decode cX7_least 22 = .ok (.ireturn, 1) := by decide +kernel
theorem dX7_least_23 : decode cX7_least 23 = .ok (.aload_n 0, 1) := by decide +kernel
theorem dX7_least_24 : decode cX7_least 24 = .ok (.getfield 19, 3) := by decide +kernel
theorem dX7_least_27 : decode cX7_least 27 = .ok (.getfield 74, 3) := by decide +kernel
theorem dX7_least_30 : decode cX7_least 30 = .ok (.ifCond .eq 12, 3) := by decide +kernel
theorem dX7_least_33 : decode cX7_least 33 = .ok (.aload_n 0, 1) := by decide +kernel
theorem dX7_least_34 : decode cX7_least 34 = .ok (.getfield 163, 3) := by decide +kernel
theorem dX7_least_37 : decode cX7_least 37 = .ok (.bipush 20, 2) := by decide +kernel
theorem dX7_least_39 : decode cX7_least 39 = .ok (.if_icmp .lt 6, 3) := by decide +kernel
theorem dX7_least_42 : decode cX7_least 42 = .ok (.bipush (-103), 2) := by decide +kernel
theorem dX7_least_44 : decode cX7_least 44 = .ok (.ireturn, 1) := by decide +kernel
theorem dX7_least_45 : decode cX7_least 45 = .ok (.aload_n 0, 1) := by decide +kernel
theorem dX7_least_46 : decode cX7_least 46 = .ok (.dup, 1) := by decide +kernel
theorem dX7_least_47 : decode cX7_least 47 = .ok (.getfield 163, 3) := by decide +kernel
theorem dX7_least_50 : decode cX7_least 50 = .ok (.iconst 1, 1) := by decide +kernel
theorem dX7_least_51 : decode cX7_least 51 = .ok (.iadd, 1) := by decide +kernel
theorem dX7_least_52 : decode cX7_least 52 = .ok (.putfield 163, 3) := by decide +kernel
theorem dX7_least_55 : decode cX7_least 55 = .ok (.aload_n 0, 1) := by decide +kernel
theorem dX7_least_56 : decode cX7_least 56 = .ok (.getfield 29, 3) := by decide +kernel
theorem dX7_least_59 : decode cX7_least 59 = .ok (.aload_n 0, 1) := by decide +kernel
theorem dX7_least_60 : decode cX7_least 60 = .ok (.getfield 19, 3) := by decide +kernel
theorem dX7_least_63 : decode cX7_least 63 = .ok (.invokevirtual 166, 3) := by decide +kernel
theorem dX7_least_66 : decode cX7_least 66 = .ok (.aload_n 0, 1) := by decide +kernel
theorem dX7_least_67 : decode cX7_least 67 = .ok (.getfield 29, 3) := by decide +kernel
theorem dX7_least_70 : decode cX7_least 70 = .ok (.getfield 170, 3) := by decide +kernel
theorem dX7_least_73 : decode cX7_least 73 = .ok (.ifCond .ne 5, 3) := by decide +kernel
theorem dX7_least_76 : decode cX7_least 76 = .ok (.iconst (-1), 1) := by decide +kernel
theorem dX7_least_77 : decode cX7_least 77 = .ok (.ireturn, 1) := by decide +kernel
theorem dX7_least_78 : decode cX7_least 78 = .ok (.iload_n 1, 1) := by decide +kernel
theorem dX7_least_79 : decode cX7_least 79 = .ok (.ifCond .ne 11, 3) := by decide +kernel
theorem dX7_least_82 : decode cX7_least 82 = .ok (.aload_n 0, 1) := by decide +kernel
theorem dX7_least_83 : decode cX7_least 83 = .ok (.getfield 29, 3) := by decide +kernel
theorem dX7_least_86 : decode cX7_least 86 = .ok (.getfield 173, 3) := by decide +kernel
theorem dX7_least_89 : decode cX7_least 89 = .ok (.ireturn, 1) := by decide +kernel
theorem dX7_least_90 : decode cX7_least 90 = .ok (.aload_n 0, 1) := by decide +kernel
theorem dX7_least_91 : decode cX7_least 91 = .ok (.getfield 19, 3) := by decide +kernel
theorem dX7_least_94 : decode cX7_least 94 = .ok (.iload_n 2, 1) := by decide +kernel
theorem dX7_least_95 : decode cX7_least 95 = .ok (.invokevirtual 77, 3) := by decide +kernel
theorem dX7_least_98 : decode cX7_least 98 = .ok (.ifCond .eq 15, 3) := by decide +kernel
theorem dX7_least_101 : decode cX7_least 101 = .ok (.aload_n 0, 1) := by decide +kernel
theorem dX7_least_102 : decode cX7_least 102 = .ok (.getfield 29, 3) := by decide +kernel
theorem dX7_least_105 : decode cX7_least 105 = .ok (.getfield 176, 3) := by decide +kernel
theorem dX7_least_108 : decode cX7_least 108 = .ok (.iload_n 2, 1) := by decide +kernel
theorem dX7_least_109 : decode cX7_least 109 = .ok (.iaload, 1) := by decide +kernel
theorem dX7_least_110 : decode cX7_least 110 = .ok (.goto 4, 3) := by decide +kernel
theorem dX7_least_113 : decode cX7_least 113 = .ok (.iconst (-1), 1) := by decide +kernel
theorem dX7_least_114 : decode cX7_least 114 = .ok (.ireturn, 1) := by decide +kernel
theorem dX7_wanted_0 : decode cX7_wanted 0 = .ok (.aload_n 0, 1) := by decide +kernel
theorem dX7_wanted_1 : decode cX7_wanted 1 = .ok (.getfield 19, 3) := by decide +kernel
theorem dX7_wanted_4 : decode cX7_wanted 4 = .ok (.iload_n 1, 1) := by decide +kernel
theorem dX7_wanted_5 : decode cX7_wanted 5 = .ok (.invokevirtual 109, 3) := by decide +kernel
theorem dX7_wanted_8 : decode cX7_wanted 8 = .ok (.ifCond .ne 6, 3) := by decide +kernel
theorem dX7_wanted_11 : decode cX7_wanted 11 = .ok (.bipush (-101), 2) := by decide +kernel
theorem dX7_wanted_13 : decode cX7_wanted 13 = .ok (.ireturn, 1) := by decide +kernel
theorem dX7_wanted_14 : decode cX7_wanted 14 = .ok (.iload_n 2, 1) := by decide +kernel
theorem dX7_wanted_15 : decode cX7_wanted 15 = .ok (.ifCond .lt 8, 3) := by decide +kernel
theorem dX7_wanted_18 : decode cX7_wanted 18 = .ok (.iload_n 2, 1) := by decide +kernel
theorem dX7_wanted_19 : decode cX7_wanted 19 = .ok (.iconst 1, 1) := by decide +kernel
theorem dX7_wanted_20 : decode cX7_wanted 20 = .ok (.if_icmp .le 6, 3) := by decide +kernel
theorem dX7_wanted_23 : decode cX7_wanted 23 = .ok (.bipush (-102), 2) := by decide +kernel
theorem dX7_wanted_25 : decode cX7_wanted 25 = .ok (.ireturn, 1) := by decide +kernel
theorem dX7_wanted_26 : decode cX7_wanted 26 = .ok (.aload_n 0, 1) := by decide +kernel
theorem dX7_wanted_27 : decode cX7_wanted 27 = .ok (.getfield 19, 3) := by decide +kernel
theorem dX7_wanted_30 : decode cX7_wanted 30 = .ok (.iload_n 1, 1) := by decide +kernel
theorem dX7_wanted_31 : decode cX7_wanted 31 = .ok (.iload_n 2, 1) := by decide +kernel
theorem dX7_wanted_32 : decode cX7_wanted 32 = .ok (.iconst 1, 1) := by decide +kernel
theorem dX7_wanted_33 : decode cX7_wanted 33 = .ok (.if_icmp .ne 7, 3) := by decide +kernel
theorem dX7_wanted_36 : decode cX7_wanted 36 = .ok (.iconst 1, 1) := by decide +kernel
theorem dX7_wanted_37 : decode cX7_wanted 37 = .ok (.goto 4, 3) := by decide +kernel
theorem dX7_wanted_40 : decode cX7_wanted 40 = .ok (.iconst 0, 1) := by decide +kernel
theorem dX7_wanted_41 : decode cX7_wanted 41 = .ok (.invokevirtual 179, 3) := by decide +kernel
theorem dX7_wanted_44 : decode cX7_wanted 44 = .ok (.ireturn, 1) := by decide +kernel
theorem dX7_found_0 : decode cX7_found 0 = .ok (.aload_n 0, 1) := by decide +kernel
theorem dX7_found_1 : decode cX7_found 1 = .ok (.getfield 19, 3) := by decide +kernel
theorem dX7_found_4 : decode cX7_found 4 = .ok (.iload_n 1, 1) := by decide +kernel
theorem dX7_found_5 : decode cX7_found 5 = .ok (.invokevirtual 77, 3) := by decide +kernel
theorem dX7_found_8 : decode cX7_found 8 = .ok (.ifCond .eq 16, 3) := by decide +kernel
theorem dX7_found_11 : decode cX7_found 11 = .ok (.aload_n 0, 1) := by decide +kernel
theorem dX7_found_12 : decode cX7_found 12 = .ok (.getfield 19, 3) := by decide +kernel
theorem dX7_found_15 : decode cX7_found 15 = .ok (.iload_n 1, 1) := by decide +kernel
theorem dX7_found_16 : decode cX7_found 16 = .ok (.iconst 1, 1) := by decide +kernel
theorem dX7_found_17 : decode cX7_found 17 = .ok (.iadd, 1) := by decide +kernel
theorem dX7_found_18 : decode cX7_found 18 = .ok (.invokevirtual 77, 3) := by decide +kernel
theorem dX7_found_21 : decode cX7_found 21 = .ok (.ifCond .ne 6, 3) := by decide +kernel
theorem dX7_found_24 : decode cX7_found 24 = .ok (.bipush (-101), 2) := by decide +kernel
theorem dX7_found_26 : decode cX7_found 26 = .ok (.ireturn, 1) := by decide +kernel
theorem dX7_found_27 : decode cX7_found 27 = .ok (.iload_n 2, 1) := by decide +kernel
theorem dX7_found_28 : decode cX7_found 28 = .ok (.iconst (-1), 1) := by decide +kernel
theorem dX7_found_29 : decode cX7_found 29 = .ok (.if_icmp .lt 10, 3) := by decide +kernel
theorem dX7_found_32 : decode cX7_found 32 = .ok (.iload_n 2, 1) := by decide +kernel
theorem dX7_found_33 : decode cX7_found 33 = .ok (.sipush 320, 3) := by decide +kernel
theorem dX7_found_36 : decode cX7_found 36 = .ok (.if_icmp .le 6, 3) := by decide +kernel
theorem dX7_found_39 : decode cX7_found 39 = .ok (.bipush (-102), 2) := by decide +kernel
theorem dX7_found_41 : decode cX7_found 41 = .ok (.ireturn, 1) := by decide +kernel
theorem dX7_found_42 : decode cX7_found 42 = .ok (.aload_n 0, 1) := by decide +kernel
theorem dX7_found_43 : decode cX7_found 43 = .ok (.getfield 19, 3) := by decide +kernel
theorem dX7_found_46 : decode cX7_found 46 = .ok (.getfield 89, 3) := by decide +kernel
theorem dX7_found_49 : decode cX7_found 49 = .ok (.iload_n 1, 1) := by decide +kernel
theorem dX7_found_50 : decode cX7_found 50 = .ok (.aaload, 1) := by decide +kernel
theorem dX7_found_51 : decode cX7_found 51 = .ok (.astore_n 3, 1) := by decide +kernel
theorem dX7_found_52 : decode cX7_found 52 = .ok (.aload_n 3, 1) := by decide +kernel
theorem dX7_found_53 : decode cX7_found 53 = .ok (.getfield 183, 3) := by decide +kernel
theorem dX7_found_56 : decode cX7_found 56 = .ok (.istore 4, 2) := by decide +kernel
theorem dX7_found_58 : decode cX7_found 58 = .ok (.aload_n 3, 1) := by decide +kernel
theorem dX7_found_59 : decode cX7_found 59 = .ok (.iload_n 2, 1) := by decide +kernel
theorem dX7_found_60 : decode cX7_found 60 = .ok (.putfield 183, 3) := by decide +kernel
theorem dX7_found_63 : decode cX7_found 63 = .ok (.iload 4, 2) := by decide +kernel
theorem dX7_found_65 : decode cX7_found 65 = .ok (.ireturn, 1) := by decide +kernel
theorem dX7_fits_0 : decode cX7_fits 0 = .ok (.aload_n 0, 1) := by decide +kernel
theorem dX7_fits_1 : decode cX7_fits 1 = .ok (.getfield 19, 3) := by decide +kernel
theorem dX7_fits_4 : decode cX7_fits 4 = .ok (.getfield 74, 3) := by decide +kernel
theorem dX7_fits_7 : decode cX7_fits 7 = .ok (.ifCond .ne 6, 3) := by decide +kernel
theorem dX7_fits_10 : decode cX7_fits 10 = .ok (.bipush (-103), 2) := by decide +kernel
theorem dX7_fits_12 : decode cX7_fits 12 = .ok (.ireturn, 1) := by decide +kernel
theorem dX7_fits_13 : decode cX7_fits 13 = .ok (.aload_n 0, 1) := by decide +kernel
theorem dX7_fits_14 : decode cX7_fits 14 = .ok (.getfield 36, 3) := by decide +kernel
theorem dX7_fits_17 : decode cX7_fits 17 = .ok (.aload_n 0, 1) := by decide +kernel
theorem dX7_fits_18 : decode cX7_fits 18 = .ok (.getfield 19, 3) := by decide +kernel
theorem dX7_fits_21 : decode cX7_fits 21 = .ok (.invokevirtual 186, 3) := by decide +kernel
theorem dX7_fits_24 : decode cX7_fits 24 = .ok (.aload_n 0, 1) := by decide +kernel
theorem dX7_fits_25 : decode cX7_fits 25 = .ok (.getfield 36, 3) := by decide +kernel
theorem dX7_fits_28 : decode cX7_fits 28 = .ok (.invokevirtual 189, 3) := by decide +kernel
theorem dX7_fits_31 : decode cX7_fits 31 = .ok (.ireturn, 1) := by decide +kernel
theorem dX7_sure_0 : decode cX7_sure 0 = .ok (.aload_n 0, 1) := by decide +kernel
theorem dX7_sure_1 : decode cX7_sure 1 = .ok (.getfield 19, 3) := by decide +kernel
theorem dX7_sure_4 : decode cX7_sure 4 = .ok (.iload_n 1, 1) := by decide +kernel
theorem dX7_sure_5 : decode cX7_sure 5 = .ok (.invokevirtual 77, 3) := by decide +kernel
theorem dX7_sure_8 : decode cX7_sure 8 = .ok (.ifCond .ne 6, 3) := by decide +kernel
theorem dX7_sure_11 : decode cX7_sure 11 = .ok (.bipush (-101), 2) := by decide +kernel
theorem dX7_sure_13 : decode cX7_sure 13 = .ok (.ireturn, 1) := by decide +kernel
theorem dX7_sure_14 : decode cX7_sure 14 = .ok (.aload_n 0, 1) := by decide +kernel
theorem dX7_sure_15 : decode cX7_sure 15 = .ok (.getfield 36, 3) := by decide +kernel
theorem dX7_sure_18 : decode cX7_sure 18 = .ok (.aload_n 0, 1) := by decide +kernel
theorem dX7_sure_19 : decode cX7_sure 19 = .ok (.getfield 19, 3) := by decide +kernel
theorem dX7_sure_22 : decode cX7_sure 22 = .ok (.invokevirtual 186, 3) := by decide +kernel
theorem dX7_sure_25 : decode cX7_sure 25 = .ok (.aload_n 0, 1) := by decide +kernel
theorem dX7_sure_26 : decode cX7_sure 26 = .ok (.getfield 36, 3) := by decide +kernel
theorem dX7_sure_29 : decode cX7_sure 29 = .ok (.iload_n 1, 1) := by decide +kernel
theorem dX7_sure_30 : decode cX7_sure 30 = .ok (.invokevirtual 192, 3) := by decide +kernel
theorem dX7_sure_33 : decode cX7_sure 33 = .ok (.ireturn, 1) := by decide +kernel
theorem dX7_years_0 : decode cX7_years 0 = .ok (.iload_n 1, 1) := by decide +kernel
theorem dX7_years_1 : decode cX7_years 1 = .ok (.iconst 1, 1) := by decide +kernel
theorem dX7_years_2 : decode cX7_years 2 = .ok (.if_icmp .lt 22, 3) := by decide +kernel
theorem dX7_years_5 : decode cX7_years 5 = .ok (.iload_n 1, 1) := by decide +kernel
theorem dX7_years_6 : decode cX7_years 6 = .ok (.bipush 30, 2) := by decide +kernel
theorem dX7_years_8 : decode cX7_years 8 = .ok (.if_icmp .gt 16, 3) := by decide +kernel
theorem dX7_years_11 : decode cX7_years 11 = .ok (.iload_n 2, 1) := by decide +kernel
theorem dX7_years_12 : decode cX7_years 12 = .ok (.ifCond .lt 12, 3) := by decide +kernel
theorem dX7_years_15 : decode cX7_years 15 = .ok (.iload_n 3, 1) := by decide +kernel
theorem dX7_years_16 : decode cX7_years 16 = .ok (.ifCond .lt 8, 3) := by decide +kernel
theorem dX7_years_19 : decode cX7_years 19 = .ok (.iload_n 3, 1) := by decide +kernel
theorem dX7_years_20 : decode cX7_years 20 = .ok (.iconst 1, 1) := by decide +kernel
theorem dX7_years_21 : decode cX7_years 21 = .ok (.if_icmp .le 6, 3) := by decide +kernel
theorem dX7_years_24 : decode cX7_years 24 = .ok (.bipush (-102), 2) := by decide +kernel
theorem dX7_years_26 : decode cX7_years 26 = .ok (.ireturn, 1) := by decide +kernel
theorem dX7_years_27 : decode cX7_years 27 = .ok (.aload_n 0, 1) := by decide +kernel
theorem dX7_years_28 : decode cX7_years 28 = .ok (.getfield 19, 3) := by decide +kernel
theorem dX7_years_31 : decode cX7_years 31 = .ok (.getfield 98, 3) := by decide +kernel
theorem dX7_years_34 : decode cX7_years 34 = .ok (.ifCond .ne 6, 3) := by decide +kernel
theorem dX7_years_37 : decode cX7_years 37 = .ok (.bipush (-103), 2) := by decide +kernel
theorem dX7_years_39 : decode cX7_years 39 = .ok (.ireturn, 1) := by decide +kernel
theorem dX7_years_40 : decode cX7_years 40 = .ok (.aload_n 0, 1) := by decide +kernel
theorem dX7_years_41 : decode cX7_years 41 = .ok (.getfield 43, 3) := by decide +kernel
theorem dX7_years_44 : decode cX7_years 44 = .ok (.iload_n 2, 1) := by decide +kernel
theorem dX7_years_45 : decode cX7_years 45 = .ok (.i2l, 1) := by decide +kernel
theorem dX7_years_46 : decode cX7_years 46 = .ok (.putfield 195, 3) := by decide +kernel
theorem dX7_years_49 : decode cX7_years 49 = .ok (.iconst 0, 1) := by decide +kernel
theorem dX7_years_50 : decode cX7_years 50 = .ok (.istore 4, 2) := by decide +kernel
theorem dX7_years_52 : decode cX7_years 52 = .ok (.iconst 0, 1) := by decide +kernel
theorem dX7_years_53 : decode cX7_years 53 = .ok (.istore 5, 2) := by decide +kernel
theorem dX7_years_55 : decode cX7_years 55 = .ok (.iload 5, 2) := by decide +kernel
theorem dX7_years_57 : decode cX7_years 57 = .ok (.iload_n 1, 1) := by decide +kernel
theorem dX7_years_58 : decode cX7_years 58 = .ok (.if_icmp .ge 25, 3) := by decide +kernel
theorem dX7_years_61 : decode cX7_years 61 = .ok (.iload 4, 2) := by decide +kernel
theorem dX7_years_63 : decode cX7_years 63 = .ok (.aload_n 0, 1) := by decide +kernel
theorem dX7_years_64 : decode cX7_years 64 = .ok (.getfield 43, 3) := by decide +kernel
theorem dX7_years_67 : decode cX7_years 67 = .ok (.aload_n 0, 1) := by decide +kernel
theorem dX7_years_68 : decode cX7_years 68 = .ok (.getfield 19, 3) := by decide +kernel
theorem dX7_years_71 : decode cX7_years 71 = .ok (.invokevirtual 199, 3) := by decide +kernel
theorem dX7_years_74 : decode cX7_years 74 = .ok (.iadd, 1) := by decide +kernel
theorem dX7_years_75 : decode cX7_years 75 = .ok (.istore 4, 2) := by decide +kernel
theorem dX7_years_77 : decode cX7_years 77 = .ok (.iinc 5 1, 3) := by decide +kernel
theorem dX7_years_80 : decode cX7_years 80 = .ok (.goto (-25), 3) := by decide +kernel
theorem dX7_years_83 : decode cX7_years 83 = .ok (.iload_n 3, 1) := by decide +kernel
theorem dX7_years_84 : decode cX7_years 84 = .ok (.ifCond .ne 8, 3) := by decide +kernel
theorem dX7_years_87 : decode cX7_years 87 = .ok (.iload 4, 2) := by decide +kernel
theorem dX7_years_89 : decode cX7_years 89 = .ok (.goto 11, 3) := by decide +kernel
theorem dX7_years_92 : decode cX7_years 92 = .ok (.aload_n 0, 1) := by decide +kernel
theorem dX7_years_93 : decode cX7_years 93 = .ok (.getfield 43, 3) := by decide +kernel
theorem dX7_years_96 : decode cX7_years 96 = .ok (.getfield 195, 3) := by decide +kernel
theorem dX7_years_99 : decode cX7_years 99 = .ok (.l2i, 1) := by decide +kernel
theorem dX7_years_100 : decode cX7_years 100 = .ok (.ireturn, 1) := by decide +kernel
theorem dX7_image_0 : decode cX7_image 0 = .ok (.aload_n 0, 1) := by decide +kernel
theorem dX7_image_1 : decode cX7_image 1 = .ok (.getfield 19, 3) := by decide +kernel
theorem dX7_image_4 : decode cX7_image 4 = .ok (.getfield 74, 3) := by decide +kernel
theorem dX7_image_7 : decode cX7_image 7 = .ok (.ifCond .ne 6, 3) := by decide +kernel
theorem dX7_image_10 : decode cX7_image 10 = .ok (.bipush (-103), 2) := by decide +kernel
theorem dX7_image_12 : decode cX7_image 12 = .ok (.ireturn, 1) := by decide +kernel
theorem dX7_image_13 : decode cX7_image 13 = .ok (.aload_n 0, 1) := by decide +kernel
theorem dX7_image_14 : decode cX7_image 14 = .ok (.getfield 23, 3) := by decide +kernel
theorem dX7_image_17 : decode cX7_image 17 = .ok (.aload_n 0, 1) := by decide +kernel
theorem dX7_image_18 : decode cX7_image 18 = .ok (.getfield 19, 3) := by decide +kernel
theorem dX7_image_21 : decode cX7_image 21 = .ok (.invokevirtual 203, 3) := by decide +kernel
theorem dX7_image_24 : decode cX7_image 24 = .ok (.aload_n 0, 1) := by decide +kernel
theorem dX7_image_25 : decode cX7_image 25 = .ok (.iconst 1, 1) := by decide +kernel
theorem dX7_image_26 : decode cX7_image 26 = .ok (.putfield 67, 3) := by decide +kernel
theorem dX7_image_29 : decode cX7_image 29 = .ok (.aload_n 0, 1) := by decide +kernel
theorem dX7_image_30 : decode cX7_image 30 = .ok (.getfield 19, 3) := by decide +kernel
theorem dX7_image_33 : decode cX7_image 33 = .ok (.invokevirtual 206, 3) := by decide +kernel
theorem dX7_image_36 : decode cX7_image 36 = .ok (.ireturn, 1) := by decide +kernel
theorem dX7_restore_0 : decode cX7_restore 0 = .ok (.aload_n 0, 1) := by decide +kernel
theorem dX7_restore_1 : decode cX7_restore 1 = .ok (.getfield 67, 3) := by decide +kernel
theorem dX7_restore_4 : decode cX7_restore 4 = .ok (.ifCond .ne 6, 3) := by decide +kernel
theorem dX7_restore_7 : decode cX7_restore 7 = .ok (.bipush (-103), 2) := by decide +kernel
theorem dX7_restore_9 : decode cX7_restore 9 = .ok (.ireturn, 1) := by decide +kernel
theorem dX7_restore_10 : decode cX7_restore 10 = .ok (.aload_n 0, 1) := by decide +kernel
theorem dX7_restore_11 : decode cX7_restore 11 = .ok (.getfield 19, 3) := by decide +kernel
theorem dX7_restore_14 : decode cX7_restore 14 = .ok (.aload_n 0, 1) := by decide +kernel
theorem dX7_restore_15 : decode cX7_restore 15 = .ok (.getfield 23, 3) := by decide +kernel
theorem dX7_restore_18 : decode cX7_restore 18 = .ok (.invokevirtual 203, 3) := by decide +kernel
theorem dX7_restore_21 : decode cX7_restore 21 = .ok (.aload_n 0, 1) := by decide +kernel
theorem dX7_restore_22 : decode cX7_restore 22 = .ok (.getfield 19, 3) := by decide +kernel
theorem dX7_restore_25 : decode cX7_restore 25 = .ok (.invokevirtual 206, 3) := by decide +kernel
theorem dX7_restore_28 : decode cX7_restore 28 = .ok (.ireturn, 1) := by decide +kernel
theorem dX7_count_0 : decode cX7_count 0 = .ok (.iload_n 1, 1) := by decide +kernel
theorem dX7_count_1 : decode cX7_count 1 = .ok (.ifCond .lt 9, 3) := by decide +kernel
theorem dX7_count_4 : decode cX7_count 4 = .ok (.iload_n 1, 1) := by decide +kernel
theorem dX7_count_5 : decode cX7_count 5 = .ok (.bipush 10, 2) := by decide +kernel
theorem dX7_count_7 : decode cX7_count 7 = .ok (.if_icmp .le 6, 3) := by decide +kernel
theorem dX7_count_10 : decode cX7_count 10 = .ok (.bipush (-102), 2) := by decide +kernel
theorem dX7_count_12 : decode cX7_count 12 = .ok (.ireturn, 1) := by decide +kernel
theorem dX7_count_13 : decode cX7_count 13 = .ok (.iload_n 1, 1) := by decide +kernel
theorem dX7_count_14 : decode cX7_count 14 = .ok (.tableswitch 44 8 10 #[26, 34, 39], 26) := by decide +kernel
theorem dX7_count_40 : decode cX7_count 40 = .ok (.aload_n 0, 1) := by decide +kernel
theorem dX7_count_41 : decode cX7_count 41 = .ok (.getfield 10, 3) := by decide +kernel
theorem dX7_count_44 : decode cX7_count 44 = .ok (.getfield 47, 3) := by decide +kernel
theorem dX7_count_47 : decode cX7_count 47 = .ok (.ireturn, 1) := by decide +kernel
theorem dX7_count_48 : decode cX7_count 48 = .ok (.aload_n 0, 1) := by decide +kernel
theorem dX7_count_49 : decode cX7_count 49 = .ok (.getfield 71, 3) := by decide +kernel
theorem dX7_count_52 : decode cX7_count 52 = .ok (.ireturn, 1) := by decide +kernel
theorem dX7_count_53 : decode cX7_count 53 = .ok (.aload_n 0, 1) := by decide +kernel
theorem dX7_count_54 : decode cX7_count 54 = .ok (.getfield 163, 3) := by decide +kernel
theorem dX7_count_57 : decode cX7_count 57 = .ok (.ireturn, 1) := by decide +kernel
theorem dX7_count_58 : decode cX7_count 58 = .ok (.aload_n 0, 1) := by decide +kernel
theorem dX7_count_59 : decode cX7_count 59 = .ok (.getfield 19, 3) := by decide +kernel
theorem dX7_count_62 : decode cX7_count 62 = .ok (.iload_n 1, 1) := by decide +kernel
theorem dX7_count_63 : decode cX7_count 63 = .ok (.invokevirtual 209, 3) := by decide +kernel
theorem dX7_count_66 : decode cX7_count 66 = .ok (.ireturn, 1) := by decide +kernel
theorem dX7_digest_0 : decode cX7_digest 0 = .ok (.ldc2_w 212, 3) := by decide +kernel
theorem dX7_digest_3 : decode cX7_digest 3 = .ok (.lstore_n 1, 1) := by decide +kernel
theorem dX7_digest_4 : decode cX7_digest 4 = .ok (.aload_n 0, 1) := by decide +kernel
theorem dX7_digest_5 : decode cX7_digest 5 = .ok (.getfield 36, 3) := by decide +kernel
theorem dX7_digest_8 : decode cX7_digest 8 = .ok (.aload_n 0, 1) := by decide +kernel
theorem dX7_digest_9 : decode cX7_digest 9 = .ok (.getfield 19, 3) := by decide +kernel
theorem dX7_digest_12 : decode cX7_digest 12 = .ok (.invokevirtual 186, 3) := by decide +kernel
theorem dX7_digest_15 : decode cX7_digest 15 = .ok (.iconst 0, 1) := by decide +kernel
theorem dX7_digest_16 : decode cX7_digest 16 = .ok (.istore_n 3, 1) := by decide +kernel
theorem dX7_digest_17 : decode cX7_digest 17 = .ok (.iload_n 3, 1) := by decide +kernel
theorem dX7_digest_18 : decode cX7_digest 18 = .ok (.aload_n 0, 1) := by decide +kernel
theorem dX7_digest_19 : decode cX7_digest 19 = .ok (.getfield 19, 3) := by decide +kernel
theorem dX7_digest_22 : decode cX7_digest 22 = .ok (.getfield 74, 3) := by decide +kernel
theorem dX7_digest_25 : decode cX7_digest 25 = .ok (.if_icmp .ge 59, 3) := by decide +kernel
theorem dX7_digest_28 : decode cX7_digest 28 = .ok (.iconst 0, 1) := by decide +kernel
theorem dX7_digest_29 : decode cX7_digest 29 = .ok (.istore 4, 2) := by decide +kernel
theorem dX7_digest_31 : decode cX7_digest 31 = .ok (.iload 4, 2) := by decide +kernel
theorem dX7_digest_33 : decode cX7_digest 33 = .ok (.bipush 8, 2) := by decide +kernel
theorem dX7_digest_35 : decode cX7_digest 35 = .ok (.if_icmp .gt 27, 3) := by decide +kernel
theorem dX7_digest_38 : decode cX7_digest 38 = .ok (.ldc2_w 214, 3) := by decide +kernel
theorem dX7_digest_41 : decode cX7_digest 41 = .ok (.lload_n 1, 1) := by decide +kernel
theorem dX7_digest_42 : decode cX7_digest 42 = .ok (.lmul, 1) := by decide +kernel
theorem dX7_digest_43 : decode cX7_digest 43 = .ok (.aload_n 0, 1) := by decide +kernel
theorem dX7_digest_44 : decode cX7_digest 44 = .ok (.getfield 19, 3) := by decide +kernel
theorem dX7_digest_47 : decode cX7_digest 47 = .ok (.iload_n 3, 1) := by decide +kernel
theorem dX7_digest_48 : decode cX7_digest 48 = .ok (.iload 4, 2) := by decide +kernel
theorem dX7_digest_50 : decode cX7_digest 50 = .ok (.invokevirtual 81, 3) := by decide +kernel
theorem dX7_digest_53 : decode cX7_digest 53 = .ok (.i2l, 1) := by decide +kernel
theorem dX7_digest_54 : decode cX7_digest 54 = .ok (.ladd, 1) := by decide +kernel
theorem dX7_digest_55 : decode cX7_digest 55 = .ok (.lstore_n 1, 1) := by decide +kernel
theorem dX7_digest_56 : decode cX7_digest 56 = .ok (.iinc 4 1, 3) := by decide +kernel
theorem dX7_digest_59 : decode cX7_digest 59 = .ok (.goto (-28), 3) := by decide +kernel
theorem dX7_digest_62 : decode cX7_digest 62 = .ok (.ldc2_w 214, 3) := by decide +kernel
theorem dX7_digest_65 : decode cX7_digest 65 = .ok (.lload_n 1, 1) := by decide +kernel
theorem dX7_digest_66 : decode cX7_digest 66 = .ok (.lmul, 1) := by decide +kernel
theorem dX7_digest_67 : decode cX7_digest 67 = .ok (.aload_n 0, 1) := by decide +kernel
theorem dX7_digest_68 : decode cX7_digest 68 = .ok (.getfield 36, 3) := by decide +kernel
theorem dX7_digest_71 : decode cX7_digest 71 = .ok (.iload_n 3, 1) := by decide +kernel
theorem dX7_digest_72 : decode cX7_digest 72 = .ok (.invokevirtual 192, 3) := by decide +kernel
theorem dX7_digest_75 : decode cX7_digest 75 = .ok (.i2l, 1) := by decide +kernel
theorem dX7_digest_76 : decode cX7_digest 76 = .ok (.ladd, 1) := by decide +kernel
theorem dX7_digest_77 : decode cX7_digest 77 = .ok (.lstore_n 1, 1) := by decide +kernel
theorem dX7_digest_78 : decode cX7_digest 78 = .ok (.iinc 3 1, 3) := by decide +kernel
theorem dX7_digest_81 : decode cX7_digest 81 = .ok (.goto (-64), 3) := by decide +kernel
theorem dX7_digest_84 : decode cX7_digest 84 = .ok (.iconst 0, 1) := by decide +kernel
theorem dX7_digest_85 : decode cX7_digest 85 = .ok (.istore_n 3, 1) := by decide +kernel
theorem dX7_digest_86 : decode cX7_digest 86 = .ok (.iload_n 3, 1) := by decide +kernel
theorem dX7_digest_87 : decode cX7_digest 87 = .ok (.aload_n 0, 1) := by decide +kernel
theorem dX7_digest_88 : decode cX7_digest 88 = .ok (.getfield 19, 3) := by decide +kernel
theorem dX7_digest_91 : decode cX7_digest 91 = .ok (.getfield 98, 3) := by decide +kernel
theorem dX7_digest_94 : decode cX7_digest 94 = .ok (.if_icmp .ge 80, 3) := by decide +kernel
theorem dX7_digest_97 : decode cX7_digest 97 = .ok (.iconst 0, 1) := by decide +kernel
theorem dX7_digest_98 : decode cX7_digest 98 = .ok (.istore 4, 2) := by decide +kernel
theorem dX7_digest_100 : decode cX7_digest 100 = .ok (.iload 4, 2) := by decide +kernel
theorem dX7_digest_102 : decode cX7_digest 102 = .ok (.iconst 2, 1) := by decide +kernel
theorem dX7_digest_103 : decode cX7_digest 103 = .ok (.if_icmp .gt 31, 3) := by decide +kernel
theorem dX7_digest_106 : decode cX7_digest 106 = .ok (.ldc2_w 214, 3) := by decide +kernel
theorem dX7_digest_109 : decode cX7_digest 109 = .ok (.lload_n 1, 1) := by decide +kernel
theorem dX7_digest_110 : decode cX7_digest 110 = .ok (.lmul, 1) := by decide +kernel
theorem dX7_digest_111 : decode cX7_digest 111 = .ok (.aload_n 0, 1) := by decide +kernel
theorem dX7_digest_112 : decode cX7_digest 112 = .ok (.getfield 19, 3) := by decide +kernel
theorem dX7_digest_115 : decode cX7_digest 115 = .ok (.getfield 101, 3) := by decide +kernel
theorem dX7_digest_118 : decode cX7_digest 118 = .ok (.iload_n 3, 1) := by decide +kernel
theorem dX7_digest_119 : decode cX7_digest 119 = .ok (.aaload, 1) := by decide +kernel
theorem dX7_digest_120 : decode cX7_digest 120 = .ok (.iload 4, 2) := by decide +kernel
theorem dX7_digest_122 : decode cX7_digest 122 = .ok (.invokevirtual 112, 3) := by decide +kernel
theorem dX7_digest_125 : decode cX7_digest 125 = .ok (.i2l, 1) := by decide +kernel
theorem dX7_digest_126 : decode cX7_digest 126 = .ok (.ladd, 1) := by decide +kernel
theorem dX7_digest_127 : decode cX7_digest 127 = .ok (.lstore_n 1, 1) := by decide +kernel
theorem dX7_digest_128 : decode cX7_digest 128 = .ok (.iinc 4 1, 3) := by decide +kernel
theorem dX7_digest_131 : decode cX7_digest 131 = .ok (.goto (-31), 3) := by decide +kernel
theorem dX7_digest_134 : decode cX7_digest 134 = .ok (.ldc2_w 214, 3) := by decide +kernel
theorem dX7_digest_137 : decode cX7_digest 137 = .ok (.lload_n 1, 1) := by decide +kernel
theorem dX7_digest_138 : decode cX7_digest 138 = .ok (.lmul, 1) := by decide +kernel
theorem dX7_digest_139 : decode cX7_digest 139 = .ok (.aload_n 0, 1) := by decide +kernel
theorem dX7_digest_140 : decode cX7_digest 140 = .ok (.getfield 19, 3) := by decide +kernel
theorem dX7_digest_143 : decode cX7_digest 143 = .ok (.iload_n 3, 1) := by decide +kernel
theorem dX7_digest_144 : decode cX7_digest 144 = .ok (.iconst 0, 1) := by decide +kernel
theorem dX7_digest_145 : decode cX7_digest 145 = .ok (.invokevirtual 179, 3) := by decide +kernel
theorem dX7_digest_148 : decode cX7_digest 148 = .ok (.i2l, 1) := by decide +kernel
theorem dX7_digest_149 : decode cX7_digest 149 = .ok (.ladd, 1) := by decide +kernel
theorem dX7_digest_150 : decode cX7_digest 150 = .ok (.lstore_n 1, 1) := by decide +kernel
theorem dX7_digest_151 : decode cX7_digest 151 = .ok (.ldc2_w 214, 3) := by decide +kernel
theorem dX7_digest_154 : decode cX7_digest 154 = .ok (.lload_n 1, 1) := by decide +kernel
theorem dX7_digest_155 : decode cX7_digest 155 = .ok (.lmul, 1) := by decide +kernel
theorem dX7_digest_156 : decode cX7_digest 156 = .ok (.aload_n 0, 1) := by decide +kernel
theorem dX7_digest_157 : decode cX7_digest 157 = .ok (.getfield 19, 3) := by decide +kernel
theorem dX7_digest_160 : decode cX7_digest 160 = .ok (.iload_n 3, 1) := by decide +kernel
theorem dX7_digest_161 : decode cX7_digest 161 = .ok (.iconst 1, 1) := by decide +kernel
theorem dX7_digest_162 : decode cX7_digest 162 = .ok (.invokevirtual 179, 3) := by decide +kernel
theorem dX7_digest_165 : decode cX7_digest 165 = .ok (.i2l, 1) := by decide +kernel
theorem dX7_digest_166 : decode cX7_digest 166 = .ok (.ladd, 1) := by decide +kernel
theorem dX7_digest_167 : decode cX7_digest 167 = .ok (.lstore_n 1, 1) := by decide +kernel
theorem dX7_digest_168 : decode cX7_digest 168 = .ok (.iinc 3 1, 3) := by decide +kernel
theorem dX7_digest_171 : decode cX7_digest 171 = .ok (.goto (-85), 3) := by decide +kernel
theorem dX7_digest_174 : decode cX7_digest 174 = .ok (.aload_n 0, 1) := by decide +kernel
theorem dX7_digest_175 : decode cX7_digest 175 = .ok (.getfield 19, 3) := by decide +kernel
theorem dX7_digest_178 : decode cX7_digest 178 = .ok (.getfield 74, 3) := by decide +kernel
theorem dX7_digest_181 : decode cX7_digest 181 = .ok (.ifCond .le 18, 3) := by decide +kernel
theorem dX7_digest_184 : decode cX7_digest 184 = .ok (.ldc2_w 214, 3) := by decide +kernel
theorem dX7_digest_187 : decode cX7_digest 187 = .ok (.lload_n 1, 1) := by decide +kernel
theorem dX7_digest_188 : decode cX7_digest 188 = .ok (.lmul, 1) := by decide +kernel
theorem dX7_digest_189 : decode cX7_digest 189 = .ok (.aload_n 0, 1) := by decide +kernel
theorem dX7_digest_190 : decode cX7_digest 190 = .ok (.getfield 36, 3) := by decide +kernel
theorem dX7_digest_193 : decode cX7_digest 193 = .ok (.invokevirtual 189, 3) := by decide +kernel
theorem dX7_digest_196 : decode cX7_digest 196 = .ok (.i2l, 1) := by decide +kernel
theorem dX7_digest_197 : decode cX7_digest 197 = .ok (.ladd, 1) := by decide +kernel
theorem dX7_digest_198 : decode cX7_digest 198 = .ok (.lstore_n 1, 1) := by decide +kernel
theorem dX7_digest_199 : decode cX7_digest 199 = .ok (.iconst 0, 1) := by decide +kernel
theorem dX7_digest_200 : decode cX7_digest 200 = .ok (.istore_n 3, 1) := by decide +kernel
theorem dX7_digest_201 : decode cX7_digest 201 = .ok (.iload_n 3, 1) := by decide +kernel
theorem dX7_digest_202 : decode cX7_digest 202 = .ok (.aload_n 0, 1) := by decide +kernel
theorem dX7_digest_203 : decode cX7_digest 203 = .ok (.getfield 10, 3) := by decide +kernel
theorem dX7_digest_206 : decode cX7_digest 206 = .ok (.getfield 47, 3) := by decide +kernel
theorem dX7_digest_209 : decode cX7_digest 209 = .ok (.if_icmp .ge 26, 3) := by decide +kernel
theorem dX7_digest_212 : decode cX7_digest 212 = .ok (.ldc2_w 214, 3) := by decide +kernel
theorem dX7_digest_215 : decode cX7_digest 215 = .ok (.lload_n 1, 1) := by decide +kernel
theorem dX7_digest_216 : decode cX7_digest 216 = .ok (.lmul, 1) := by decide +kernel
theorem dX7_digest_217 : decode cX7_digest 217 = .ok (.aload_n 0, 1) := by decide +kernel
theorem dX7_digest_218 : decode cX7_digest 218 = .ok (.getfield 10, 3) := by decide +kernel
theorem dX7_digest_221 : decode cX7_digest 221 = .ok (.getfield 216, 3) := by decide +kernel
theorem dX7_digest_224 : decode cX7_digest 224 = .ok (.iload_n 3, 1) := by decide +kernel
theorem dX7_digest_225 : decode cX7_digest 225 = .ok (.iaload, 1) := by decide +kernel
theorem dX7_digest_226 : decode cX7_digest 226 = .ok (.i2l, 1) := by decide +kernel
theorem dX7_digest_227 : decode cX7_digest 227 = .ok (.ladd, 1) := by decide +kernel
theorem dX7_digest_228 : decode cX7_digest 228 = .ok (.lstore_n 1, 1) := by decide +kernel
theorem dX7_digest_229 : decode cX7_digest 229 = .ok (.iinc 3 1, 3) := by decide +kernel
theorem dX7_digest_232 : decode cX7_digest 232 = .ok (.goto (-31), 3) := by decide +kernel
theorem dX7_digest_235 : decode cX7_digest 235 = .ok (.iconst 0, 1) := by decide +kernel
theorem dX7_digest_236 : decode cX7_digest 236 = .ok (.istore_n 3, 1) := by decide +kernel
theorem dX7_digest_237 : decode cX7_digest 237 = .ok (.iload_n 3, 1) := by decide +kernel
theorem dX7_digest_238 : decode cX7_digest 238 = .ok (.bipush 10, 2) := by decide +kernel
theorem dX7_digest_240 : decode cX7_digest 240 = .ok (.if_icmp .gt 22, 3) := by decide +kernel
theorem dX7_digest_243 : decode cX7_digest 243 = .ok (.ldc2_w 214, 3) := by decide +kernel
theorem dX7_digest_246 : decode cX7_digest 246 = .ok (.lload_n 1, 1) := by decide +kernel
theorem dX7_digest_247 : decode cX7_digest 247 = .ok (.lmul, 1) := by decide +kernel
theorem dX7_digest_248 : decode cX7_digest 248 = .ok (.aload_n 0, 1) := by decide +kernel
theorem dX7_digest_249 : decode cX7_digest 249 = .ok (.iload_n 3, 1) := by decide +kernel
theorem dX7_digest_250 : decode cX7_digest 250 = .ok (.invokevirtual 219, 3) := by decide +kernel
theorem dX7_digest_253 : decode cX7_digest 253 = .ok (.i2l, 1) := by decide +kernel
theorem dX7_digest_254 : decode cX7_digest 254 = .ok (.ladd, 1) := by decide +kernel
theorem dX7_digest_255 : decode cX7_digest 255 = .ok (.lstore_n 1, 1) := by decide +kernel
theorem dX7_digest_256 : decode cX7_digest 256 = .ok (.iinc 3 1, 3) := by decide +kernel
theorem dX7_digest_259 : decode cX7_digest 259 = .ok (.goto (-22), 3) := by decide +kernel
theorem dX7_digest_262 : decode cX7_digest 262 = .ok (.lload_n 1, 1) := by decide +kernel
theorem dX7_digest_263 : decode cX7_digest 263 = .ok (.lreturn, 1) := by decide +kernel
theorem dX7_faded_0 : decode cX7_faded 0 = .ok (.iload_n 0, 1) := by decide +kernel
theorem dX7_faded_1 : decode cX7_faded 1 = .ok (.bipush 10, 2) := by decide +kernel
theorem dX7_faded_3 : decode cX7_faded 3 = .ok (.if_icmp .le 12, 3) := by decide +kernel
theorem dX7_faded_6 : decode cX7_faded 6 = .ok (.bipush 10, 2) := by decide +kernel
theorem dX7_faded_8 : decode cX7_faded 8 = .ok (.iload_n 0, 1) := by decide +kernel
theorem dX7_faded_9 : decode cX7_faded 9 = .ok (.iload_n 1, 1) := by decide +kernel
theorem dX7_faded_10 : decode cX7_faded 10 = .ok (.isub, 1) := by decide +kernel
theorem dX7_faded_11 : decode cX7_faded 11 = .ok (.invokestatic 222, 3) := by decide +kernel
theorem dX7_faded_14 : decode cX7_faded 14 = .ok (.ireturn, 1) := by decide +kernel
theorem dX7_faded_15 : decode cX7_faded 15 = .ok (.bipush 10, 2) := by decide +kernel
theorem dX7_faded_17 : decode cX7_faded 17 = .ok (.iload_n 0, 1) := by decide +kernel
theorem dX7_faded_18 : decode cX7_faded 18 = .ok (.iload_n 1, 1) := by decide +kernel
theorem dX7_faded_19 : decode cX7_faded 19 = .ok (.iadd, 1) := by decide +kernel
theorem dX7_faded_20 : decode cX7_faded 20 = .ok (.invokestatic 227, 3) := by decide +kernel
theorem dX7_faded_23 : decode cX7_faded 23 = .ok (.ireturn, 1) := by decide +kernel
theorem dX7_rowsOfFirst_0 : decode cX7_rowsOfFirst 0 = .ok (.iload_n 1, 1) := by decide +kernel
theorem dX7_rowsOfFirst_1 : decode cX7_rowsOfFirst 1 = .ok (.iload_n 2, 1) := by decide +kernel
theorem dX7_rowsOfFirst_2 : decode cX7_rowsOfFirst 2 = .ok (.if_icmp .ne 7, 3) := by decide +kernel
theorem dX7_rowsOfFirst_5 : decode cX7_rowsOfFirst 5 = .ok (.iload_n 0, 1) := by decide +kernel
theorem dX7_rowsOfFirst_6 : decode cX7_rowsOfFirst 6 = .ok (.goto 8, 3) := by decide +kernel
theorem dX7_rowsOfFirst_9 : decode cX7_rowsOfFirst 9 = .ok (.iload_n 0, 1) := by decide +kernel
theorem dX7_rowsOfFirst_10 : decode cX7_rowsOfFirst 10 = .ok (.iconst 1, 1) := by decide +kernel
theorem dX7_rowsOfFirst_11 : decode cX7_rowsOfFirst 11 = .ok (.iadd, 1) := by decide +kernel
theorem dX7_rowsOfFirst_12 : decode cX7_rowsOfFirst 12 = .ok (.iconst 2, 1) := by decide +kernel
theorem dX7_rowsOfFirst_13 : decode cX7_rowsOfFirst 13 = .ok (.idiv, 1) := by decide +kernel
theorem dX7_rowsOfFirst_14 : decode cX7_rowsOfFirst 14 = .ok (.ireturn, 1) := by decide +kernel
