theorem dX8_init_0 : decode cX8_init 0 = .ok (.aload_n 0, 1) := by decide +kernel
theorem dX8_init_1 : decode cX8_init 1 = .ok (.invokespecial 1, 3) := by decide +kernel
theorem dX8_init_4 : decode cX8_init 4 = .ok (.aload_n 0, 1) := by decide +kernel
theorem dX8_init_5 : decode cX8_init 5 = .ok (.iconst 5, 1) := by decide +kernel
theorem dX8_init_6 : decode cX8_init 6 = .ok (.newarray .int, 2) := by decide +kernel
theorem dX8_init_8 : decode cX8_init 8 = .ok (.putfield 7, 3) := by decide +kernel
theorem dX8_init_11 : decode cX8_init 11 = .ok (.aload_n 0, 1) := by decide +kernel
theorem dX8_init_12 : decode cX8_init 12 = .ok (.iconst 5, 1) := by decide +kernel
theorem dX8_init_13 : decode cX8_init 13 = .ok (.newarray .int, 2) := by decide +kernel
theorem dX8_init_15 : decode cX8_init 15 = .ok (.putfield 13, 3) := by decide +kernel
theorem dX8_init_18 : decode cX8_init 18 = .ok (.aload_n 0, 1) := by decide +kernel
theorem dX8_init_19 : decode cX8_init 19 = .ok (.iconst 5, 1) := by decide +kernel
theorem dX8_init_20 : decode cX8_init 20 = .ok (.newarray .int, 2) := by decide +kernel
theorem dX8_init_22 : decode cX8_init 22 = .ok (.putfield 16, 3) := by decide +kernel
theorem dX8_init_25 : decode cX8_init 25 = .ok (.aload_n 0, 1) := by decide +kernel
theorem dX8_init_26 : decode cX8_init 26 = .ok (.iconst 5, 1) := by decide +kernel
theorem dX8_init_27 : decode cX8_init 27 = .ok (.newarray .int, 2) := by decide +kernel
theorem dX8_init_29 : decode cX8_init 29 = .ok (.putfield 19, 3) := by decide +kernel
theorem dX8_init_32 : decode cX8_init 32 = .ok (.aload_n 0, 1) := by decide +kernel
theorem dX8_init_33 : decode cX8_init 33 = .ok (.iconst 5, 1) := by decide +kernel
theorem dX8_init_34 : decode cX8_init 34 = .ok (.newarray .int, 2) := by decide +kernel
theorem dX8_init_36 : decode cX8_init 36 = .ok (.putfield 22, 3) := by decide +kernel
theorem dX8_init_39 : decode cX8_init 39 = .ok (.aload_n 0, 1) := by decide +kernel
theorem dX8_init_40 : decode cX8_init 40 = .ok (.iconst 5, 1) := by decide +kernel
theorem dX8_init_41 : decode cX8_init 41 = .ok (.newarray .int, 2) := by decide +kernel
theorem dX8_init_43 : decode cX8_init 43 = .ok (.putfield 25, 3) := by decide +kernel
theorem dX8_init_46 : decode cX8_init 46 = .ok (.aload_n 0, 1) := by decide +kernel
theorem dX8_init_47 : decode cX8_init 47 = .ok (.iconst 5, 1) := by decide +kernel
theorem dX8_init_48 : decode cX8_init 48 = .ok (.newarray .int, 2) := by decide +kernel
theorem dX8_init_50 : decode cX8_init 50 = .ok (.putfield 28, 3) := by decide +kernel
theorem dX8_init_53 : decode cX8_init 53 = .ok (.aload_n 0, 1) := by decide +kernel
theorem dX8_init_54 : decode cX8_init 54 = .ok (.iconst 5, 1) := by decide +kernel
theorem dX8_init_55 : decode cX8_init 55 = .ok (.newarray .int, 2) := by decide +kernel
theorem dX8_init_57 : decode cX8_init 57 = .ok (.putfield 31, 3) := by decide +kernel
theorem dX8_init_60 : decode cX8_init 60 = .ok (.aload_n 0, 1) := by decide +kernel
theorem dX8_init_61 : decode cX8_init 61 = .ok (.iconst 3, 1) := by decide +kernel
theorem dX8_init_62 : decode cX8_init 62 = .ok (.newarray .int, 2) := by decide +kernel
theorem dX8_init_64 : decode cX8_init 64 = .ok (.putfield 34, 3) := by decide +kernel
theorem dX8_init_67 : decode cX8_init 67 = .ok (.aload_n 0, 1) := by decide +kernel
theorem dX8_init_68 : decode cX8_init 68 = .ok (.iconst 3, 1) := by decide +kernel
theorem dX8_init_69 : decode cX8_init 69 = .ok (.newarray .int, 2) := by decide +kernel
theorem dX8_init_71 : decode cX8_init 71 = .ok (.putfield 37, 3) := by decide +kernel
theorem dX8_init_74 : decode cX8_init 74 = .ok (.aload_n 0, 1) := by decide +kernel
theorem dX8_init_75 : decode cX8_init 75 = .ok (.iconst 3, 1) := by decide +kernel
theorem dX8_init_76 : decode cX8_init 76 = .ok (.newarray .int, 2) := by decide +kernel
theorem dX8_init_78 : decode cX8_init 78 = .ok (.putfield 40, 3) := by decide +kernel
theorem dX8_init_81 : decode cX8_init 81 = .ok (.aload_n 0, 1) := by decide +kernel
theorem dX8_init_82 : decode cX8_init 82 = .ok (.bipush 18, 2) := by decide +kernel
theorem dX8_init_84 : decode cX8_init 84 = .ok (.newarray .byte, 2) := by decide +kernel
theorem dX8_init_86 : decode cX8_init 86 = .ok (.putfield 43, 3) := by decide +kernel
theorem dX8_init_89 : decode cX8_init 89 = .ok (.aload_n 0, 1) := by decide +kernel
theorem dX8_init_90 : decode cX8_init 90 = .ok (.iconst 5, 1) := by decide +kernel
theorem dX8_init_91 : decode cX8_init 91 = .ok (.newarray .int, 2) := by decide +kernel
theorem dX8_init_93 : decode cX8_init 93 = .ok (.putfield 47, 3) := by decide +kernel
theorem dX8_init_96 : decode cX8_init 96 = .ok (.aload_n 0, 1) := by decide +kernel
theorem dX8_init_97 : decode cX8_init 97 = .ok (.iconst 5, 1) := by decide +kernel
theorem dX8_init_98 : decode cX8_init 98 = .ok (.newarray .int, 2) := by decide +kernel
theorem dX8_init_100 : decode cX8_init 100 = .ok (.putfield 50, 3) := by decide +kernel
theorem dX8_init_103 : decode cX8_init 103 = .ok (.aload_n 0, 1) := by decide +kernel
theorem dX8_init_104 : decode cX8_init 104 = .ok (.iconst 3, 1) := by decide +kernel
theorem dX8_init_105 : decode cX8_init 105 = .ok (.newarray .int, 2) := by decide +kernel
theorem dX8_init_107 : decode cX8_init 107 = .ok (.putfield 53, 3) := by decide +kernel
theorem dX8_init_110 : decode cX8_init 110 = .ok (.aload_n 0, 1) := by decide +kernel
theorem dX8_init_111 : decode cX8_init 111 = .ok (.iconst 3, 1) := by decide +kernel
theorem dX8_init_112 : decode cX8_init 112 = .ok (.newarray .int, 2) := by decide +kernel
theorem dX8_init_114 : decode cX8_init 114 = .ok (.putfield 56, 3) := by decide +kernel
theorem dX8_init_117 : decode cX8_init 117 = .ok (.aload_n 0, 1) := by decide +kernel
theorem dX8_init_118 : decode cX8_init 118 = .ok (.iconst 5, 1) := by decide +kernel
theorem dX8_init_119 : decode cX8_init 119 = .ok (.newarray .int, 2) := by decide +kernel
theorem dX8_init_121 : decode cX8_init 121 = .ok (.putfield 59, 3) := by decide +kernel
theorem dX8_init_124 : decode cX8_init 124 = .ok (.aload_n 0, 1) := by decide +kernel
theorem dX8_init_125 : decode cX8_init 125 = .ok (.iconst 5, 1) := by decide +kernel
theorem dX8_init_126 : decode cX8_init 126 = .ok (.newarray .int, 2) := by decide +kernel
theorem dX8_init_128 : decode cX8_init 128 = .ok (.putfield 62, 3) := by decide +kernel
theorem dX8_init_131 : decode cX8_init 131 = .ok (.aload_n 0, 1) := by decide +kernel
theorem dX8_init_132 : decode cX8_init 132 = .ok (.iconst 5, 1) := by decide +kernel
theorem dX8_init_133 : decode cX8_init 133 = .ok (.newarray .int, 2) := by decide +kernel
theorem dX8_init_135 : decode cX8_init 135 = .ok (.putfield 65, 3) := by decide +kernel
theorem dX8_init_138 : decode cX8_init 138 = .ok (.aload_n 0, 1) := by decide +kernel
theorem dX8_init_139 : decode cX8_init 139 = .ok (.iconst 5, 1) := by decide +kernel
theorem dX8_init_140 : decode cX8_init 140 = .ok (.newarray .int, 2) := by decide +kernel
theorem dX8_init_142 : decode cX8_init 142 = .ok (.putfield 68, 3) := by decide +kernel
theorem dX8_init_145 : decode cX8_init 145 = .ok (.aload_n 0, 1) := by decide +kernel
theorem dX8_init_146 : decode cX8_init 146 = .ok (.iconst 5, 1) := by decide +kernel
theorem dX8_init_147 : decode cX8_init 147 = .ok (.newarray .int, 2) := by decide +kernel
theorem dX8_init_149 : decode cX8_init 149 = .ok (.putfield 71, 3) := by decide +kernel
theorem dX8_init_152 : decode cX8_init 152 = .ok (.aload_n 0, 1) := by decide +kernel
theorem dX8_init_153 : decode cX8_init 153 = .ok (.iconst 5, 1) := by decide +kernel
theorem dX8_init_154 : decode cX8_init 154 = .ok (.newarray .int, 2) := by decide +kernel
theorem dX8_init_156 : decode cX8_init 156 = .ok (.putfield 74, 3) := by decide +kernel
theorem dX8_init_159 : decode cX8_init 159 = .ok (.aload_n 0, 1) := by decide +kernel
theorem dX8_init_160 : decode cX8_init 160 = .ok (.iconst 3, 1) := by decide +kernel
theorem dX8_init_161 : decode cX8_init 161 = .ok (.newarray .int, 2) := by decide +kernel
theorem dX8_init_163 : decode cX8_init 163 = .ok (.putfield 77, 3) := by decide +kernel
theorem dX8_init_166 : decode cX8_init 166 = .ok (.aload_n 0, 1) := by decide +kernel
theorem dX8_init_167 : decode cX8_init 167 = .ok (.iconst 3, 1) := by decide +kernel
theorem dX8_init_168 : decode cX8_init 168 = .ok (.newarray .int, 2) := by decide +kernel
theorem dX8_init_170 : decode cX8_init 170 = .ok (.putfield 80, 3) := by decide +kernel
theorem dX8_init_173 : decode cX8_init 173 = .ok (.aload_n 0, 1) := by decide +kernel
theorem dX8_init_174 : decode cX8_init 174 = .ok (.iconst 3, 1) := by decide +kernel
theorem dX8_init_175 : decode cX8_init 175 = .ok (.newarray .int, 2) := by decide +kernel
theorem dX8_init_177 : decode cX8_init 177 = .ok (.putfield 83, 3) := by decide +kernel
theorem dX8_init_180 : decode cX8_init 180 = .ok (.return_, 1) := by decide +kernel
theorem dX8_within_0 : decode cX8_within 0 = .ok (.iload_n 0, 1) := by decide +kernel
theorem dX8_within_1 : decode cX8_within 1 = .ok (.iload_n 1, 1) := by decide +kernel
theorem dX8_within_2 : decode cX8_within 2 = .ok (.if_icmp .lt 12, 3) := by decide +kernel
theorem dX8_within_5 : decode cX8_within 5 = .ok (.iload_n 0, 1) := by decide +kernel
theorem dX8_within_6 : decode cX8_within 6 = .ok (.iload_n 2, 1) := by decide +kernel
theorem dX8_within_7 : decode cX8_within 7 = .ok (.if_icmp .gt 7, 3) := by decide +kernel
theorem dX8_within_10 : decode cX8_within 10 = .ok (.iconst 1, 1) := by decide +kernel
theorem dX8_within_11 : decode cX8_within 11 = .ok (.goto 4, 3) := by decide +kernel
theorem dX8_within_14 : decode cX8_within 14 = .ok (.iconst 0, 1) := by decide +kernel
theorem dX8_within_15 : decode cX8_within 15 = .ok (.ireturn, 1) := by decide +kernel
theorem dX8_letter_0 : decode cX8_letter 0 = .ok (.iload_n 1, 1) := by decide +kernel
theorem dX8_letter_1 : decode cX8_letter 1 = .ok (.bipush 32, 2) := by decide +kernel
theorem dX8_letter_3 : decode cX8_letter 3 = .ok (.bipush 126, 2) := by decide +kernel
theorem dX8_letter_5 : decode cX8_letter 5 = .ok (.invokestatic 86, 3) := by decide +kernel
theorem dX8_letter_8 : decode cX8_letter 8 = .ok (.ifCond .ne 6, 3) := by decide +kernel
theorem dX8_letter_11 : decode cX8_letter 11 = .ok (.bipush (-102), 2) := by decide +kernel
theorem dX8_letter_13 : decode cX8_letter 13 = .ok (.ireturn, 1) := by decide +kernel
theorem dX8_letter_14 : decode cX8_letter 14 = .ok (.aload_n 0, 1) := by decide +kernel
theorem dX8_letter_15 : decode cX8_letter 15 = .ok (.getfield 90, 3) := by decide +kernel
theorem dX8_letter_18 : decode cX8_letter 18 = .ok (.bipush 18, 2) := by decide +kernel
theorem dX8_letter_20 : decode cX8_letter 20 = .ok (.if_icmp .ne 6, 3) := by decide +kernel
theorem dX8_letter_23 : decode cX8_letter 23 = .ok (.bipush (-104), 2) := by decide +kernel
theorem dX8_letter_25 : decode cX8_letter 25 = .ok (.ireturn, 1) := by decide +kernel
theorem dX8_letter_26 : decode cX8_letter 26 = .ok (.aload_n 0, 1) := by decide +kernel
theorem dX8_letter_27 : decode cX8_letter 27 = .ok (.getfield 43, 3) := by decide +kernel
theorem dX8_letter_30 : decode cX8_letter 30 = .ok (.aload_n 0, 1) := by decide +kernel
theorem dX8_letter_31 : decode cX8_letter 31 = .ok (.getfield 90, 3) := by decide +kernel
theorem dX8_letter_34 : decode cX8_letter 34 = .ok (.iload_n 1, 1) := by decide +kernel
theorem dX8_letter_35 : decode cX8_letter 35 = .ok (.i2b, 1) := by decide +kernel
theorem dX8_letter_36 : decode cX8_letter 36 = .ok (.bastore, 1) := by decide +kernel
theorem dX8_letter_37 : decode cX8_letter 37 = .ok (.aload_n 0, 1) := by decide +kernel
theorem dX8_letter_38 : decode cX8_letter 38 = .ok (.dup, 1) := by decide +kernel
theorem dX8_letter_39 : decode cX8_letter 39 = .ok (.getfield 90, 3) := by decide +kernel
theorem dX8_letter_42 : decode cX8_letter 42 = .ok (.iconst 1, 1) := by decide +kernel
theorem dX8_letter_43 : decode cX8_letter 43 = .ok (.iadd, 1) := by decide +kernel
theorem dX8_letter_44 : decode cX8_letter 44 = .ok (.putfield 90, 3) := by decide +kernel
theorem dX8_letter_47 : decode cX8_letter 47 = .ok (.aload_n 0, 1) := by decide +kernel
theorem dX8_letter_48 : decode cX8_letter 48 = .ok (.getfield 90, 3) := by decide +kernel
theorem dX8_letter_51 : decode cX8_letter 51 = .ok (.ireturn, 1) := by decide +kernel
theorem dX8_blank_0 : decode cX8_blank 0 = .ok (.aload_n 0, 1) := by decide +kernel
theorem dX8_blank_1 : decode cX8_blank 1 = .ok (.getfield 90, 3) := by decide +kernel
theorem dX8_blank_4 : decode cX8_blank 4 = .ok (.istore_n 1, 1) := by decide +kernel
theorem dX8_blank_5 : decode cX8_blank 5 = .ok (.aload_n 0, 1) := by decide +kernel
theorem dX8_blank_6 : decode cX8_blank 6 = .ok (.iconst 0, 1) := by decide +kernel
theorem dX8_blank_7 : decode cX8_blank 7 = .ok (.putfield 90, 3) := by decide +kernel
theorem dX8_blank_10 : decode cX8_blank 10 = .ok (.iload_n 1, 1) := by decide +kernel
theorem dX8_blank_11 : decode cX8_blank 11 = .ok (.ireturn, 1) := by decide +kernel
theorem dX8_kindBy_0 : decode cX8_kindBy 0 = .ok (.iload_n 0, 1) := by decide +kernel
theorem dX8_kindBy_1 : decode cX8_kindBy 1 = .ok (.lookupswitch 61 #[(98, 53), (99, 57), (104, 59), (112, 51), (115, 55)], 51) := by decide +kernel
theorem dX8_kindBy_52 : decode cX8_kindBy 52 = .ok (.iconst 0, 1) := by decide +kernel
theorem dX8_kindBy_53 : decode cX8_kindBy 53 = .ok (.ireturn, 1) := by decide +kernel
theorem dX8_kindBy_54 : decode cX8_kindBy 54 = .ok (.iconst 1, 1) := by decide +kernel
theorem dX8_kindBy_55 : decode cX8_kindBy 55 = .ok (.ireturn, 1) := by decide +kernel
theorem dX8_kindBy_56 : decode cX8_kindBy 56 = .ok (.iconst 2, 1) := by decide +kernel
theorem dX8_kindBy_57 : decode cX8_kindBy 57 = .ok (.ireturn, 1) := by decide +kernel
theorem dX8_kindBy_58 : decode cX8_kindBy 58 = .ok (.iconst 3, 1) := by decide +kernel
theorem dX8_kindBy_59 : decode cX8_kindBy 59 = .ok (.ireturn, 1) := by decide +kernel
theorem dX8_kindBy_60 : decode cX8_kindBy 60 = .ok (.iconst 4, 1) := by decide +kernel
theorem dX8_kindBy_61 : decode cX8_kindBy 61 = .ok (.ireturn, 1) := by decide +kernel
theorem dX8_kindBy_62 : decode cX8_kindBy 62 = .ok (.iconst (-1), 1) := by decide +kernel
theorem dX8_kindBy_63 : decode cX8_kindBy 63 = .ok (.ireturn, 1) := by decide +kernel
theorem dX8_isFigure_0 : decode cX8_isFigure 0 = .ok (.iload_n 1, 1) := by decide +kernel
theorem dX8_isFigure_1 : decode cX8_isFigure 1 = .ok (.aload_n 0, 1) := by decide +kernel
theorem dX8_isFigure_2 : decode cX8_isFigure 2 = .ok (.getfield 90, 3) := by decide +kernel
theorem dX8_isFigure_5 : decode cX8_isFigure 5 = .ok (.if_icmp .ge 24, 3) := by decide +kernel
theorem dX8_isFigure_8 : decode cX8_isFigure 8 = .ok (.aload_n 0, 1) := by decide +kernel
theorem dX8_isFigure_9 : decode cX8_isFigure 9 = .ok (.getfield 43, 3) := by decide +kernel
theorem dX8_isFigure_12 : decode cX8_isFigure 12 = .ok (.iload_n 1, 1) := by decide +kernel
theorem dX8_isFigure_13 : decode cX8_isFigure 13 = .ok (.baload, 1) := by decide +kernel
theorem dX8_isFigure_14 : decode cX8_isFigure 14 = .ok (.bipush 48, 2) := by decide +kernel
theorem dX8_isFigure_16 : decode cX8_isFigure 16 = .ok (.isub, 1) := by decide +kernel
theorem dX8_isFigure_17 : decode cX8_isFigure 17 = .ok (.iload_n 2, 1) := by decide +kernel
theorem dX8_isFigure_18 : decode cX8_isFigure 18 = .ok (.iload_n 3, 1) := by decide +kernel
theorem dX8_isFigure_19 : decode cX8_isFigure 19 = .ok (.invokestatic 86, 3) := by decide +kernel
theorem dX8_isFigure_22 : decode cX8_isFigure 22 = .ok (.ifCond .eq 7, 3) := by decide +kernel
theorem dX8_isFigure_25 : decode cX8_isFigure 25 = .ok (.iconst 1, 1) := by decide +kernel
theorem dX8_isFigure_26 : decode cX8_isFigure 26 = .ok (.goto 4, 3) := by decide +kernel
theorem dX8_isFigure_29 : decode cX8_isFigure 29 = .ok (.iconst 0, 1) := by decide +kernel
theorem dX8_isFigure_30 : decode cX8_isFigure 30 = .ok (.ireturn, 1) := by decide +kernel
theorem dX8_isSign_0 : decode cX8_isSign 0 = .ok (.iload_n 1, 1) := by decide +kernel
theorem dX8_isSign_1 : decode cX8_isSign 1 = .ok (.aload_n 0, 1) := by decide +kernel
theorem dX8_isSign_2 : decode cX8_isSign 2 = .ok (.getfield 90, 3) := by decide +kernel
theorem dX8_isSign_5 : decode cX8_isSign 5 = .ok (.if_icmp .ge 17, 3) := by decide +kernel
theorem dX8_isSign_8 : decode cX8_isSign 8 = .ok (.aload_n 0, 1) := by decide +kernel
theorem dX8_isSign_9 : decode cX8_isSign 9 = .ok (.getfield 43, 3) := by decide +kernel
theorem dX8_isSign_12 : decode cX8_isSign 12 = .ok (.iload_n 1, 1) := by decide +kernel
theorem dX8_isSign_13 : decode cX8_isSign 13 = .ok (.baload, 1) := by decide +kernel
theorem dX8_isSign_14 : decode cX8_isSign 14 = .ok (.iload_n 2, 1) := by decide +kernel
theorem dX8_isSign_15 : decode cX8_isSign 15 = .ok (.if_icmp .ne 7, 3) := by decide +kernel
theorem dX8_isSign_18 : decode cX8_isSign 18 = .ok (.iconst 1, 1) := by decide +kernel
theorem dX8_isSign_19 : decode cX8_isSign 19 = .ok (.goto 4, 3) := by decide +kernel
theorem dX8_isSign_22 : decode cX8_isSign 22 = .ok (.iconst 0, 1) := by decide +kernel
theorem dX8_isSign_23 : decode cX8_isSign 23 = .ok (.ireturn, 1) := by decide +kernel
theorem dX8_read_0 : decode cX8_read 0 = .ok (.aload_n 0, 1) := by decide +kernel
theorem dX8_read_1 : decode cX8_read 1 = .ok (.iconst 0, 1) := by decide +kernel
theorem dX8_read_2 : decode cX8_read 2 = .ok (.putfield 94, 3) := by decide +kernel
theorem dX8_read_5 : decode cX8_read 5 = .ok (.aload_n 0, 1) := by decide +kernel
theorem dX8_read_6 : decode cX8_read 6 = .ok (.iconst 0, 1) := by decide +kernel
theorem dX8_read_7 : decode cX8_read 7 = .ok (.putfield 97, 3) := by decide +kernel
theorem dX8_read_10 : decode cX8_read 10 = .ok (.iconst 0, 1) := by decide +kernel
theorem dX8_read_11 : decode cX8_read 11 = .ok (.istore_n 1, 1) := by decide +kernel
theorem dX8_read_12 : decode cX8_read 12 = .ok (.aload_n 0, 1) := by decide +kernel
theorem dX8_read_13 : decode cX8_read 13 = .ok (.getfield 94, 3) := by decide +kernel
theorem dX8_read_16 : decode cX8_read 16 = .ok (.iconst 5, 1) := by decide +kernel
theorem dX8_read_17 : decode cX8_read 17 = .ok (.if_icmp .ge 108, 3) := by decide +kernel
theorem dX8_read_20 : decode cX8_read 20 = .ok (.iload_n 1, 1) := by decide +kernel
theorem dX8_read_21 : decode cX8_read 21 = .ok (.aload_n 0, 1) := by decide +kernel
theorem dX8_read_22 : decode cX8_read 22 = .ok (.getfield 90, 3) := by decide +kernel
theorem dX8_read_25 : decode cX8_read 25 = .ok (.if_icmp .eq 16, 3) := by decide +kernel
theorem dX8_read_28 : decode cX8_read 28 = .ok (.aload_n 0, 1) := by decide +kernel
theorem dX8_read_29 : decode cX8_read 29 = .ok (.getfield 43, 3) := by decide +kernel
theorem dX8_read_32 : decode cX8_read 32 = .ok (.iload_n 1, 1) := by decide +kernel
theorem dX8_read_33 : decode cX8_read 33 = .ok (.baload, 1) := by decide +kernel
theorem dX8_read_34 : decode cX8_read 34 = .ok (.invokestatic 101, 3) := by decide +kernel
theorem dX8_read_37 : decode cX8_read 37 = .ok (.iconst (-1), 1) := by decide +kernel
theorem dX8_read_38 : decode cX8_read 38 = .ok (.if_icmp .ne 5, 3) := by decide +kernel
theorem dX8_read_41 : decode cX8_read 41 = .ok (.iload_n 1, 1) := by decide +kernel
theorem dX8_read_42 : decode cX8_read 42 = .ok (.ireturn, 1) := by decide +kernel
theorem dX8_read_43 : decode cX8_read 43 = .ok (.aload_n 0, 1) := by decide +kernel
theorem dX8_read_44 : decode cX8_read 44 = .ok (.iload_n 1, 1) := by decide +kernel
theorem dX8_read_45 : decode cX8_read 45 = .ok (.iconst 1, 1) := by decide +kernel
theorem dX8_read_46 : decode cX8_read 46 = .ok (.iadd, 1) := by decide +kernel
theorem dX8_read_47 : decode cX8_read 47 = .ok (.iconst 1, 1) := by decide +kernel
theorem dX8_read_48 : decode cX8_read 48 = .ok (.bipush 9, 2) := by decide +kernel
theorem dX8_read_50 : decode cX8_read 50 = .ok (.invokevirtual 105, 3) := by decide +kernel
theorem dX8_read_53 : decode cX8_read 53 = .ok (.ifCond .ne 7, 3) := by decide +kernel
theorem dX8_read_56 : decode cX8_read 56 = .ok (.iload_n 1, 1) := by decide +kernel
theorem dX8_read_57 : decode cX8_read 57 = .ok (.iconst 1, 1) := by decide +kernel
theorem dX8_read_58 : decode cX8_read 58 = .ok (.iadd, 1) := by decide +kernel
theorem dX8_read_59 : decode cX8_read 59 = .ok (.ireturn, 1) := by decide +kernel
theorem dX8_read_60 : decode cX8_read 60 = .ok (.aload_n 0, 1) := by decide +kernel
theorem dX8_read_61 : decode cX8_read 61 = .ok (.dup, 1) := by decide +kernel
theorem dX8_read_62 : decode cX8_read 62 = .ok (.getfield 94, 3) := by decide +kernel
theorem dX8_read_65 : decode cX8_read 65 = .ok (.iconst 1, 1) := by decide +kernel
theorem dX8_read_66 : decode cX8_read 66 = .ok (.iadd, 1) := by decide +kernel
theorem dX8_read_67 : decode cX8_read 67 = .ok (.putfield 94, 3) := by decide +kernel
theorem dX8_read_70 : decode cX8_read 70 = .ok (.iinc 1 2, 3) := by decide +kernel
theorem dX8_read_73 : decode cX8_read 73 = .ok (.aload_n 0, 1) := by decide +kernel
theorem dX8_read_74 : decode cX8_read 74 = .ok (.getfield 94, 3) := by decide +kernel
theorem dX8_read_77 : decode cX8_read 77 = .ok (.iconst 1, 1) := by decide +kernel
theorem dX8_read_78 : decode cX8_read 78 = .ok (.if_icmp .le 21, 3) := by decide +kernel
theorem dX8_read_81 : decode cX8_read 81 = .ok (.aload_n 0, 1) := by decide +kernel
theorem dX8_read_82 : decode cX8_read 82 = .ok (.iload_n 1, 1) := by decide +kernel
theorem dX8_read_83 : decode cX8_read 83 = .ok (.bipush 59, 2) := by decide +kernel
theorem dX8_read_85 : decode cX8_read 85 = .ok (.invokevirtual 108, 3) := by decide +kernel
theorem dX8_read_88 : decode cX8_read 88 = .ok (.ifCond .eq 11, 3) := by decide +kernel
theorem dX8_read_91 : decode cX8_read 91 = .ok (.aload_n 0, 1) := by decide +kernel
theorem dX8_read_92 : decode cX8_read 92 = .ok (.iload_n 1, 1) := by decide +kernel
theorem dX8_read_93 : decode cX8_read 93 = .ok (.iconst 1, 1) := by decide +kernel
theorem dX8_read_94 : decode cX8_read 94 = .ok (.iadd, 1) := by decide +kernel
theorem dX8_read_95 : decode cX8_read 95 = .ok (.invokevirtual 112, 3) := by decide +kernel
theorem dX8_read_98 : decode cX8_read 98 = .ok (.ireturn, 1) := by decide +kernel
theorem dX8_read_99 : decode cX8_read 99 = .ok (.aload_n 0, 1) := by decide +kernel
theorem dX8_read_100 : decode cX8_read 100 = .ok (.getfield 94, 3) := by decide +kernel
theorem dX8_read_103 : decode cX8_read 103 = .ok (.iconst 5, 1) := by decide +kernel
theorem dX8_read_104 : decode cX8_read 104 = .ok (.if_icmp .eq 13, 3) := by decide +kernel
theorem dX8_read_107 : decode cX8_read 107 = .ok (.aload_n 0, 1) := by decide +kernel
theorem dX8_read_108 : decode cX8_read 108 = .ok (.iload_n 1, 1) := by decide +kernel
theorem dX8_read_109 : decode cX8_read 109 = .ok (.bipush 44, 2) := by decide +kernel
theorem dX8_read_111 : decode cX8_read 111 = .ok (.invokevirtual 108, 3) := by decide +kernel
theorem dX8_read_114 : decode cX8_read 114 = .ok (.ifCond .ne 5, 3) := by decide +kernel
theorem dX8_read_117 : decode cX8_read 117 = .ok (.iload_n 1, 1) := by decide +kernel
theorem dX8_read_118 : decode cX8_read 118 = .ok (.ireturn, 1) := by decide +kernel
theorem dX8_read_119 : decode cX8_read 119 = .ok (.iinc 1 1, 3) := by decide +kernel
theorem dX8_read_122 : decode cX8_read 122 = .ok (.goto (-110), 3) := by decide +kernel
theorem dX8_read_125 : decode cX8_read 125 = .ok (.iload_n 1, 1) := by decide +kernel
theorem dX8_read_126 : decode cX8_read 126 = .ok (.ireturn, 1) := by decide +kernel
theorem dX8_readFade_0 : decode cX8_readFade 0 = .ok (.aload_n 0, 1) := by decide +kernel
theorem dX8_readFade_1 : decode cX8_readFade 1 = .ok (.iload_n 1, 1) := by decide +kernel
theorem dX8_readFade_2 : decode cX8_readFade 2 = .ok (.iconst 0, 1) := by decide +kernel
theorem dX8_readFade_3 : decode cX8_readFade 3 = .ok (.iconst 3, 1) := by decide +kernel
theorem dX8_readFade_4 : decode cX8_readFade 4 = .ok (.invokevirtual 105, 3) := by decide +kernel
theorem dX8_readFade_7 : decode cX8_readFade 7 = .ok (.ifCond .ne 5, 3) := by decide +kernel
theorem dX8_readFade_10 : decode cX8_readFade 10 = .ok (.iload_n 1, 1) := by decide +kernel
theorem dX8_readFade_11 : decode cX8_readFade 11 = .ok (.ireturn, 1) := by decide +kernel
theorem dX8_readFade_12 : decode cX8_readFade 12 = .ok (.aload_n 0, 1) := by decide +kernel
theorem dX8_readFade_13 : decode cX8_readFade 13 = .ok (.iload_n 1, 1) := by decide +kernel
theorem dX8_readFade_14 : decode cX8_readFade 14 = .ok (.iconst 1, 1) := by decide +kernel
theorem dX8_readFade_15 : decode cX8_readFade 15 = .ok (.iadd, 1) := by decide +kernel
theorem dX8_readFade_16 : decode cX8_readFade 16 = .ok (.aload_n 0, 1) := by decide +kernel
theorem dX8_readFade_17 : decode cX8_readFade 17 = .ok (.getfield 90, 3) := by decide +kernel
theorem dX8_readFade_20 : decode cX8_readFade 20 = .ok (.if_icmp .ne 7, 3) := by decide +kernel
theorem dX8_readFade_23 : decode cX8_readFade 23 = .ok (.iconst 1, 1) := by decide +kernel
theorem dX8_readFade_24 : decode cX8_readFade 24 = .ok (.goto 4, 3) := by decide +kernel
theorem dX8_readFade_27 : decode cX8_readFade 27 = .ok (.iconst 0, 1) := by decide +kernel
theorem dX8_readFade_28 : decode cX8_readFade 28 = .ok (.putfield 97, 3) := by decide +kernel
theorem dX8_readFade_31 : decode cX8_readFade 31 = .ok (.iload_n 1, 1) := by decide +kernel
theorem dX8_readFade_32 : decode cX8_readFade 32 = .ok (.iconst 1, 1) := by decide +kernel
theorem dX8_readFade_33 : decode cX8_readFade 33 = .ok (.iadd, 1) := by decide +kernel
theorem dX8_readFade_34 : decode cX8_readFade 34 = .ok (.ireturn, 1) := by decide +kernel
theorem dX8_fault_0 : decode cX8_fault 0 = .ok (.aload_n 0, 1) := by decide +kernel
theorem dX8_fault_1 : decode cX8_fault 1 = .ok (.invokevirtual 115, 3) := by decide +kernel
theorem dX8_fault_4 : decode cX8_fault 4 = .ok (.ireturn, 1) := by decide +kernel
theorem dX8_garment_0 : decode cX8_garment 0 = .ok (.aload_n 0, 1) := by decide +kernel
theorem dX8_garment_1 : decode cX8_garment 1 = .ok (.invokevirtual 115, 3) := by decide +kernel
theorem dX8_garment_4 : decode cX8_garment 4 = .ok (.istore_n 1, 1) := by decide +kernel
theorem dX8_garment_5 : decode cX8_garment 5 = .ok (.aload_n 0, 1) := by decide +kernel
theorem dX8_garment_6 : decode cX8_garment 6 = .ok (.getfield 97, 3) := by decide +kernel
theorem dX8_garment_9 : decode cX8_garment 9 = .ok (.ifCond .ne 6, 3) := by decide +kernel
theorem dX8_garment_12 : decode cX8_garment 12 = .ok (.bipush (-103), 2) := by decide +kernel
theorem dX8_garment_14 : decode cX8_garment 14 = .ok (.ireturn, 1) := by decide +kernel
theorem dX8_garment_15 : decode cX8_garment 15 = .ok (.aload_n 0, 1) := by decide +kernel
theorem dX8_garment_16 : decode cX8_garment 16 = .ok (.aload_n 0, 1) := by decide +kernel
theorem dX8_garment_17 : decode cX8_garment 17 = .ok (.getfield 94, 3) := by decide +kernel
theorem dX8_garment_20 : decode cX8_garment 20 = .ok (.putfield 119, 3) := by decide +kernel
theorem dX8_garment_23 : decode cX8_garment 23 = .ok (.aload_n 0, 1) := by decide +kernel
theorem dX8_garment_24 : decode cX8_garment 24 = .ok (.aload_n 0, 1) := by decide +kernel
theorem dX8_garment_25 : decode cX8_garment 25 = .ok (.getfield 43, 3) := by decide +kernel
theorem dX8_garment_28 : decode cX8_garment 28 = .ok (.iload_n 1, 1) := by decide +kernel
theorem dX8_garment_29 : decode cX8_garment 29 = .ok (.iconst 1, 1) := by decide +kernel
theorem dX8_garment_30 : decode cX8_garment 30 = .ok (.isub, 1) := by decide +kernel
theorem dX8_garment_31 : decode cX8_garment 31 = .ok (.baload, 1) := by decide +kernel
theorem dX8_garment_32 : decode cX8_garment 32 = .ok (.bipush 48, 2) := by decide +kernel
theorem dX8_garment_34 : decode cX8_garment 34 = .ok (.isub, 1) := by decide +kernel
theorem dX8_garment_35 : decode cX8_garment 35 = .ok (.putfield 122, 3) := by decide +kernel
theorem dX8_garment_38 : decode cX8_garment 38 = .ok (.iconst 0, 1) := by decide +kernel
theorem dX8_garment_39 : decode cX8_garment 39 = .ok (.istore_n 2, 1) := by decide +kernel
theorem dX8_garment_40 : decode cX8_garment 40 = .ok (.iload_n 2, 1) := by decide +kernel
theorem dX8_garment_41 : decode cX8_garment 41 = .ok (.aload_n 0, 1) := by decide +kernel
theorem dX8_garment_42 : decode cX8_garment 42 = .ok (.getfield 119, 3) := by decide +kernel
theorem dX8_garment_45 : decode cX8_garment 45 = .ok (.if_icmp .ge 57, 3) := by decide +kernel
theorem dX8_garment_48 : decode cX8_garment 48 = .ok (.aload_n 0, 1) := by decide +kernel
theorem dX8_garment_49 : decode cX8_garment 49 = .ok (.getfield 7, 3) := by decide +kernel
theorem dX8_garment_52 : decode cX8_garment 52 = .ok (.iload_n 2, 1) := by decide +kernel
theorem dX8_garment_53 : decode cX8_garment 53 = .ok (.aload_n 0, 1) := by decide +kernel
theorem dX8_garment_54 : decode cX8_garment 54 = .ok (.getfield 43, 3) := by decide +kernel
theorem dX8_garment_57 : decode cX8_garment 57 = .ok (.iconst 3, 1) := by decide +kernel
theorem dX8_garment_58 : decode cX8_garment 58 = .ok (.iload_n 2, 1) := by decide +kernel
theorem dX8_garment_59 : decode cX8_garment 59 = .ok (.imul, 1) := by decide +kernel
theorem dX8_garment_60 : decode cX8_garment 60 = .ok (.baload, 1) := by decide +kernel
theorem dX8_garment_61 : decode cX8_garment 61 = .ok (.invokestatic 101, 3) := by decide +kernel
theorem dX8_garment_64 : decode cX8_garment 64 = .ok (.iastore, 1) := by decide +kernel
theorem dX8_garment_65 : decode cX8_garment 65 = .ok (.aload_n 0, 1) := by decide +kernel
theorem dX8_garment_66 : decode cX8_garment 66 = .ok (.getfield 13, 3) := by decide +kernel
theorem dX8_garment_69 : decode cX8_garment 69 = .ok (.iload_n 2, 1) := by decide +kernel
theorem dX8_garment_70 : decode cX8_garment 70 = .ok (.aload_n 0, 1) := by decide +kernel
theorem dX8_garment_71 : decode cX8_garment 71 = .ok (.getfield 43, 3) := by decide +kernel
theorem dX8_garment_74 : decode cX8_garment 74 = .ok (.iconst 3, 1) := by decide +kernel
theorem dX8_garment_75 : decode cX8_garment 75 = .ok (.iload_n 2, 1) := by decide +kernel
theorem dX8_garment_76 : decode cX8_garment 76 = .ok (.imul, 1) := by decide +kernel
theorem dX8_garment_77 : decode cX8_garment 77 = .ok (.iconst 1, 1) := by decide +kernel
theorem dX8_garment_78 : decode cX8_garment 78 = .ok (.iadd, 1) := by decide +kernel
theorem dX8_garment_79 : decode cX8_garment 79 = .ok (.baload, 1) := by decide +kernel
theorem dX8_garment_80 : decode cX8_garment 80 = .ok (.bipush 48, 2) := by decide +kernel
theorem dX8_garment_82 : decode cX8_garment 82 = .ok (.isub, 1) := by decide +kernel
theorem dX8_garment_83 : decode cX8_garment 83 = .ok (.iastore, 1) := by decide +kernel
theorem dX8_garment_84 : decode cX8_garment 84 = .ok (.aload_n 0, 1) := by decide +kernel
theorem dX8_garment_85 : decode cX8_garment 85 = .ok (.getfield 31, 3) := by decide +kernel
theorem dX8_garment_88 : decode cX8_garment 88 = .ok (.iload_n 2, 1) := by decide +kernel
theorem dX8_garment_89 : decode cX8_garment 89 = .ok (.iconst (-1), 1) := by decide +kernel
theorem dX8_garment_90 : decode cX8_garment 90 = .ok (.iastore, 1) := by decide +kernel
theorem dX8_garment_91 : decode cX8_garment 91 = .ok (.aload_n 0, 1) := by decide +kernel
theorem dX8_garment_92 : decode cX8_garment 92 = .ok (.iload_n 2, 1) := by decide +kernel
theorem dX8_garment_93 : decode cX8_garment 93 = .ok (.invokevirtual 125, 3) := by decide +kernel
theorem dX8_garment_96 : decode cX8_garment 96 = .ok (.iinc 2 1, 3) := by decide +kernel
theorem dX8_garment_99 : decode cX8_garment 99 = .ok (.goto (-59), 3) := by decide +kernel
theorem dX8_garment_102 : decode cX8_garment 102 = .ok (.aload_n 0, 1) := by decide +kernel
theorem dX8_garment_103 : decode cX8_garment 103 = .ok (.dup, 1) := by decide +kernel
theorem dX8_garment_104 : decode cX8_garment 104 = .ok (.getfield 129, 3) := by decide +kernel
theorem dX8_garment_107 : decode cX8_garment 107 = .ok (.iconst 1, 1) := by decide +kernel
theorem dX8_garment_108 : decode cX8_garment 108 = .ok (.iadd, 1) := by decide +kernel
theorem dX8_garment_109 : decode cX8_garment 109 = .ok (.putfield 129, 3) := by decide +kernel
theorem dX8_garment_112 : decode cX8_garment 112 = .ok (.aload_n 0, 1) := by decide +kernel
theorem dX8_garment_113 : decode cX8_garment 113 = .ok (.iconst 0, 1) := by decide +kernel
theorem dX8_garment_114 : decode cX8_garment 114 = .ok (.putfield 132, 3) := by decide +kernel
theorem dX8_garment_117 : decode cX8_garment 117 = .ok (.aload_n 0, 1) := by decide +kernel
theorem dX8_garment_118 : decode cX8_garment 118 = .ok (.iconst 0, 1) := by decide +kernel
theorem dX8_garment_119 : decode cX8_garment 119 = .ok (.putfield 90, 3) := by decide +kernel
theorem dX8_garment_122 : decode cX8_garment 122 = .ok (.aload_n 0, 1) := by decide +kernel
theorem dX8_garment_123 : decode cX8_garment 123 = .ok (.getfield 119, 3) := by decide +kernel
theorem dX8_garment_126 : decode cX8_garment 126 = .ok (.ireturn, 1) := by decide +kernel
theorem dX8_clear_0 : decode cX8_clear 0 = .ok (.aload_n 0, 1) := by decide +kernel
theorem dX8_clear_1 : decode cX8_clear 1 = .ok (.getfield 16, 3) := by decide +kernel
theorem dX8_clear_4 : decode cX8_clear 4 = .ok (.iload_n 1, 1) := by decide +kernel
theorem dX8_clear_5 : decode cX8_clear 5 = .ok (.iconst (-1), 1) := by decide +kernel
theorem dX8_clear_6 : decode cX8_clear 6 = .ok (.iastore, 1) := by decide +kernel
theorem dX8_clear_7 : decode cX8_clear 7 = .ok (.aload_n 0, 1) := by decide +kernel
theorem dX8_clear_8 : decode cX8_clear 8 = .ok (.getfield 19, 3) := by decide +kernel
theorem dX8_clear_11 : decode cX8_clear 11 = .ok (.iload_n 1, 1) := by decide +kernel
theorem dX8_clear_12 : decode cX8_clear 12 = .ok (.iconst (-1), 1) := by decide +kernel
theorem dX8_clear_13 : decode cX8_clear 13 = .ok (.iastore, 1) := by decide +kernel
theorem dX8_clear_14 : decode cX8_clear 14 = .ok (.aload_n 0, 1) := by decide +kernel
theorem dX8_clear_15 : decode cX8_clear 15 = .ok (.getfield 22, 3) := by decide +kernel
theorem dX8_clear_18 : decode cX8_clear 18 = .ok (.iload_n 1, 1) := by decide +kernel
theorem dX8_clear_19 : decode cX8_clear 19 = .ok (.iconst 0, 1) := by decide +kernel
theorem dX8_clear_20 : decode cX8_clear 20 = .ok (.iastore, 1) := by decide +kernel
theorem dX8_clear_21 : decode cX8_clear 21 = .ok (.aload_n 0, 1) := by decide +kernel
theorem dX8_clear_22 : decode cX8_clear 22 = .ok (.getfield 25, 3) := by decide +kernel
theorem dX8_clear_25 : decode cX8_clear 25 = .ok (.iload_n 1, 1) := by decide +kernel
theorem dX8_clear_26 : decode cX8_clear 26 = .ok (.iconst 0, 1) := by decide +kernel
theorem dX8_clear_27 : decode cX8_clear 27 = .ok (.iastore, 1) := by decide +kernel
theorem dX8_clear_28 : decode cX8_clear 28 = .ok (.aload_n 0, 1) := by decide +kernel
theorem dX8_clear_29 : decode cX8_clear 29 = .ok (.getfield 28, 3) := by decide +kernel
theorem dX8_clear_32 : decode cX8_clear 32 = .ok (.iload_n 1, 1) := by decide +kernel
theorem dX8_clear_33 : decode cX8_clear 33 = .ok (.iconst (-1), 1) := by decide +kernel
theorem dX8_clear_34 : decode cX8_clear 34 = .ok (.iastore, 1) := by decide +kernel
theorem dX8_clear_35 : decode cX8_clear 35 = .ok (.return_, 1) := by decide +kernel
theorem dX8_isPart_0 : decode cX8_isPart 0 = .ok (.iload_n 1, 1) := by decide +kernel
theorem dX8_isPart_1 : decode cX8_isPart 1 = .ok (.iconst 0, 1) := by decide +kernel
theorem dX8_isPart_2 : decode cX8_isPart 2 = .ok (.aload_n 0, 1) := by decide +kernel
theorem dX8_isPart_3 : decode cX8_isPart 3 = .ok (.getfield 119, 3) := by decide +kernel
theorem dX8_isPart_6 : decode cX8_isPart 6 = .ok (.iconst 1, 1) := by decide +kernel
theorem dX8_isPart_7 : decode cX8_isPart 7 = .ok (.isub, 1) := by decide +kernel
theorem dX8_isPart_8 : decode cX8_isPart 8 = .ok (.invokestatic 86, 3) := by decide +kernel
theorem dX8_isPart_11 : decode cX8_isPart 11 = .ok (.ireturn, 1) := by decide +kernel
theorem dX8_isLot_0 : decode cX8_isLot 0 = .ok (.iload_n 1, 1) := by decide +kernel
theorem dX8_isLot_1 : decode cX8_isLot 1 = .ok (.iconst 0, 1) := by decide +kernel
theorem dX8_isLot_2 : decode cX8_isLot 2 = .ok (.aload_n 0, 1) := by decide +kernel
theorem dX8_isLot_3 : decode cX8_isLot 3 = .ok (.getfield 132, 3) := by decide +kernel
theorem dX8_isLot_6 : decode cX8_isLot 6 = .ok (.iconst 1, 1) := by decide +kernel
theorem dX8_isLot_7 : decode cX8_isLot 7 = .ok (.isub, 1) := by decide +kernel
theorem dX8_isLot_8 : decode cX8_isLot 8 = .ok (.invokestatic 86, 3) := by decide +kernel
theorem dX8_isLot_11 : decode cX8_isLot 11 = .ok (.ireturn, 1) := by decide +kernel
theorem dX8_lightOf_0 : decode cX8_lightOf 0 = .ok (.iload_n 0, 1) := by decide +kernel
theorem dX8_lightOf_1 : decode cX8_lightOf 1 = .ok (.tableswitch 39 1 4 #[31, 33, 35, 37], 31) := by decide +kernel
theorem dX8_lightOf_32 : decode cX8_lightOf 32 = .ok (.iconst 4, 1) := by decide +kernel
theorem dX8_lightOf_33 : decode cX8_lightOf 33 = .ok (.ireturn, 1) := by decide +kernel
theorem dX8_lightOf_34 : decode cX8_lightOf 34 = .ok (.iconst 3, 1) := by decide +kernel
theorem dX8_lightOf_35 : decode cX8_lightOf 35 = .ok (.ireturn, 1) := by decide +kernel
theorem dX8_lightOf_36 : decode cX8_lightOf 36 = .ok (.iconst 1, 1) := by decide +kernel
theorem dX8_lightOf_37 : decode cX8_lightOf 37 = .ok (.ireturn, 1) := by decide +kernel
theorem dX8_lightOf_38 : decode cX8_lightOf 38 = .ok (.iconst 0, 1) := by decide +kernel
theorem dX8_lightOf_39 : decode cX8_lightOf 39 = .ok (.ireturn, 1) := by decide +kernel
theorem dX8_lightOf_40 : decode cX8_lightOf 40 = .ok (.iconst 2, 1) := by decide +kernel
theorem dX8_lightOf_41 : decode cX8_lightOf 41 = .ok (.ireturn, 1) := by decide +kernel
theorem dX8_toneOf_0 : decode cX8_toneOf 0 = .ok (.aload_n 0, 1) := by decide +kernel
theorem dX8_toneOf_1 : decode cX8_toneOf 1 = .ok (.getfield 16, 3) := by decide +kernel
theorem dX8_toneOf_4 : decode cX8_toneOf 4 = .ok (.iload_n 1, 1) := by decide +kernel
theorem dX8_toneOf_5 : decode cX8_toneOf 5 = .ok (.iaload, 1) := by decide +kernel
theorem dX8_toneOf_6 : decode cX8_toneOf 6 = .ok (.iconst (-1), 1) := by decide +kernel
theorem dX8_toneOf_7 : decode cX8_toneOf 7 = .ok (.if_icmp .ne 5, 3) := by decide +kernel
theorem dX8_toneOf_10 : decode cX8_toneOf 10 = .ok (.iconst (-1), 1) := by decide +kernel
theorem dX8_toneOf_11 : decode cX8_toneOf 11 = .ok (.ireturn, 1) := by decide +kernel
theorem dX8_toneOf_12 : decode cX8_toneOf 12 = .ok (.aload_n 0, 1) := by decide +kernel
theorem dX8_toneOf_13 : decode cX8_toneOf 13 = .ok (.getfield 34, 3) := by decide +kernel
theorem dX8_toneOf_16 : decode cX8_toneOf 16 = .ok (.aload_n 0, 1) := by decide +kernel
theorem dX8_toneOf_17 : decode cX8_toneOf 17 = .ok (.getfield 16, 3) := by decide +kernel
theorem dX8_toneOf_20 : decode cX8_toneOf 20 = .ok (.iload_n 1, 1) := by decide +kernel
theorem dX8_toneOf_21 : decode cX8_toneOf 21 = .ok (.iaload, 1) := by decide +kernel
theorem dX8_toneOf_22 : decode cX8_toneOf 22 = .ok (.iaload, 1) := by decide +kernel
theorem dX8_toneOf_23 : decode cX8_toneOf 23 = .ok (.aload_n 0, 1) := by decide +kernel
theorem dX8_toneOf_24 : decode cX8_toneOf 24 = .ok (.getfield 34, 3) := by decide +kernel
theorem dX8_toneOf_27 : decode cX8_toneOf 27 = .ok (.aload_n 0, 1) := by decide +kernel
theorem dX8_toneOf_28 : decode cX8_toneOf 28 = .ok (.getfield 19, 3) := by decide +kernel
theorem dX8_toneOf_31 : decode cX8_toneOf 31 = .ok (.iload_n 1, 1) := by decide +kernel
theorem dX8_toneOf_32 : decode cX8_toneOf 32 = .ok (.iaload, 1) := by decide +kernel
theorem dX8_toneOf_33 : decode cX8_toneOf 33 = .ok (.iconst (-1), 1) := by decide +kernel
theorem dX8_toneOf_34 : decode cX8_toneOf 34 = .ok (.if_icmp .ne 12, 3) := by decide +kernel
theorem dX8_toneOf_37 : decode cX8_toneOf 37 = .ok (.aload_n 0, 1) := by decide +kernel
theorem dX8_toneOf_38 : decode cX8_toneOf 38 = .ok (.getfield 16, 3) := by decide +kernel
theorem dX8_toneOf_41 : decode cX8_toneOf 41 = .ok (.iload_n 1, 1) := by decide +kernel
theorem dX8_toneOf_42 : decode cX8_toneOf 42 = .ok (.iaload, 1) := by decide +kernel
theorem dX8_toneOf_43 : decode cX8_toneOf 43 = .ok (.goto 9, 3) := by decide +kernel
theorem dX8_toneOf_46 : decode cX8_toneOf 46 = .ok (.aload_n 0, 1) := by decide +kernel
theorem dX8_toneOf_47 : decode cX8_toneOf 47 = .ok (.getfield 19, 3) := by decide +kernel
theorem dX8_toneOf_50 : decode cX8_toneOf 50 = .ok (.iload_n 1, 1) := by decide +kernel
theorem dX8_toneOf_51 : decode cX8_toneOf 51 = .ok (.iaload, 1) := by decide +kernel
theorem dX8_toneOf_52 : decode cX8_toneOf 52 = .ok (.iaload, 1) := by decide +kernel
theorem dX8_toneOf_53 : decode cX8_toneOf 53 = .ok (.iadd, 1) := by decide +kernel
theorem dX8_toneOf_54 : decode cX8_toneOf 54 = .ok (.ireturn, 1) := by decide +kernel
theorem dX8_seenBy_0 : decode cX8_seenBy 0 = .ok (.iload_n 2, 1) := by decide +kernel
theorem dX8_seenBy_1 : decode cX8_seenBy 1 = .ok (.iload_n 3, 1) := by decide +kernel
theorem dX8_seenBy_2 : decode cX8_seenBy 2 = .ok (.if_icmp .le 9, 3) := by decide +kernel
theorem dX8_seenBy_5 : decode cX8_seenBy 5 = .ok (.iload_n 2, 1) := by decide +kernel
theorem dX8_seenBy_6 : decode cX8_seenBy 6 = .ok (.iload_n 3, 1) := by decide +kernel
theorem dX8_seenBy_7 : decode cX8_seenBy 7 = .ok (.isub, 1) := by decide +kernel
theorem dX8_seenBy_8 : decode cX8_seenBy 8 = .ok (.goto 6, 3) := by decide +kernel
theorem dX8_seenBy_11 : decode cX8_seenBy 11 = .ok (.iload_n 3, 1) := by decide +kernel
theorem dX8_seenBy_12 : decode cX8_seenBy 12 = .ok (.iload_n 2, 1) := by decide +kernel
theorem dX8_seenBy_13 : decode cX8_seenBy 13 = .ok (.isub, 1) := by decide +kernel
theorem dX8_seenBy_14 : decode cX8_seenBy 14 = .ok (.istore 4, 2) := by decide +kernel
theorem dX8_seenBy_16 : decode cX8_seenBy 16 = .ok (.aload_n 0, 1) := by decide +kernel
theorem dX8_seenBy_17 : decode cX8_seenBy 17 = .ok (.getfield 7, 3) := by decide +kernel
theorem dX8_seenBy_20 : decode cX8_seenBy 20 = .ok (.iload_n 1, 1) := by decide +kernel
theorem dX8_seenBy_21 : decode cX8_seenBy 21 = .ok (.iaload, 1) := by decide +kernel
theorem dX8_seenBy_22 : decode cX8_seenBy 22 = .ok (.invokestatic 135, 3) := by decide +kernel
theorem dX8_seenBy_25 : decode cX8_seenBy 25 = .ok (.istore 5, 2) := by decide +kernel
theorem dX8_seenBy_27 : decode cX8_seenBy 27 = .ok (.aload_n 0, 1) := by decide +kernel
theorem dX8_seenBy_28 : decode cX8_seenBy 28 = .ok (.getfield 7, 3) := by decide +kernel
theorem dX8_seenBy_31 : decode cX8_seenBy 31 = .ok (.iload_n 1, 1) := by decide +kernel
theorem dX8_seenBy_32 : decode cX8_seenBy 32 = .ok (.iconst 1, 1) := by decide +kernel
theorem dX8_seenBy_33 : decode cX8_seenBy 33 = .ok (.iadd, 1) := by decide +kernel
theorem dX8_seenBy_34 : decode cX8_seenBy 34 = .ok (.iaload, 1) := by decide +kernel
theorem dX8_seenBy_35 : decode cX8_seenBy 35 = .ok (.invokestatic 135, 3) := by decide +kernel
theorem dX8_seenBy_38 : decode cX8_seenBy 38 = .ok (.istore 6, 2) := by decide +kernel
theorem dX8_seenBy_40 : decode cX8_seenBy 40 = .ok (.iload 5, 2) := by decide +kernel
theorem dX8_seenBy_42 : decode cX8_seenBy 42 = .ok (.iload 6, 2) := by decide +kernel
theorem dX8_seenBy_44 : decode cX8_seenBy 44 = .ok (.if_icmp .ge 8, 3) := by decide +kernel
theorem dX8_seenBy_47 : decode cX8_seenBy 47 = .ok (.iload 5, 2) := by decide +kernel
theorem dX8_seenBy_49 : decode cX8_seenBy 49 = .ok (.goto 5, 3) := by decide +kernel
theorem dX8_seenBy_52 : decode cX8_seenBy 52 = .ok (.iload 6, 2) := by decide +kernel
theorem dX8_seenBy_54 : decode cX8_seenBy 54 = .ok (.istore 7, 2) := by decide +kernel
theorem dX8_seenBy_56 : decode cX8_seenBy 56 = .ok (.iload 4, 2) := by decide +kernel
theorem dX8_seenBy_58 : decode cX8_seenBy 58 = .ok (.iload 7, 2) := by decide +kernel
theorem dX8_seenBy_60 : decode cX8_seenBy 60 = .ok (.imul, 1) := by decide +kernel
theorem dX8_seenBy_61 : decode cX8_seenBy 61 = .ok (.aload_n 0, 1) := by decide +kernel
theorem dX8_seenBy_62 : decode cX8_seenBy 62 = .ok (.getfield 7, 3) := by decide +kernel
theorem dX8_seenBy_65 : decode cX8_seenBy 65 = .ok (.iload_n 1, 1) := by decide +kernel
theorem dX8_seenBy_66 : decode cX8_seenBy 66 = .ok (.iaload, 1) := by decide +kernel
theorem dX8_seenBy_67 : decode cX8_seenBy 67 = .ok (.iconst 2, 1) := by decide +kernel
theorem dX8_seenBy_68 : decode cX8_seenBy 68 = .ok (.if_icmp .ne 19, 3) := by decide +kernel
theorem dX8_seenBy_71 : decode cX8_seenBy 71 = .ok (.aload_n 0, 1) := by decide +kernel
theorem dX8_seenBy_72 : decode cX8_seenBy 72 = .ok (.getfield 7, 3) := by decide +kernel
theorem dX8_seenBy_75 : decode cX8_seenBy 75 = .ok (.iload_n 1, 1) := by decide +kernel
theorem dX8_seenBy_76 : decode cX8_seenBy 76 = .ok (.iconst 1, 1) := by decide +kernel
theorem dX8_seenBy_77 : decode cX8_seenBy 77 = .ok (.iadd, 1) := by decide +kernel
theorem dX8_seenBy_78 : decode cX8_seenBy 78 = .ok (.iaload, 1) := by decide +kernel
theorem dX8_seenBy_79 : decode cX8_seenBy 79 = .ok (.iconst 2, 1) := by decide +kernel
theorem dX8_seenBy_80 : decode cX8_seenBy 80 = .ok (.if_icmp .ne 7, 3) := by decide +kernel
theorem dX8_seenBy_83 : decode cX8_seenBy 83 = .ok (.iconst 2, 1) := by decide +kernel
theorem dX8_seenBy_84 : decode cX8_seenBy 84 = .ok (.goto 4, 3) := by decide +kernel
theorem dX8_seenBy_87 : decode cX8_seenBy 87 = .ok (.iconst 1, 1) := by decide +kernel
theorem dX8_seenBy_88 : decode cX8_seenBy 88 = .ok (.imul, 1) := by decide +kernel
theorem dX8_seenBy_89 : decode cX8_seenBy 89 = .ok (.ireturn, 1) := by decide +kernel
theorem dX8_seenAt_0 : decode cX8_seenAt 0 = .ok (.iload_n 1, 1) := by decide +kernel
theorem dX8_seenAt_1 : decode cX8_seenAt 1 = .ok (.aload_n 0, 1) := by decide +kernel
theorem dX8_seenAt_2 : decode cX8_seenAt 2 = .ok (.getfield 119, 3) := by decide +kernel
theorem dX8_seenAt_5 : decode cX8_seenAt 5 = .ok (.iconst 1, 1) := by decide +kernel
theorem dX8_seenAt_6 : decode cX8_seenAt 6 = .ok (.isub, 1) := by decide +kernel
theorem dX8_seenAt_7 : decode cX8_seenAt 7 = .ok (.if_icmp .ge 25, 3) := by decide +kernel
theorem dX8_seenAt_10 : decode cX8_seenAt 10 = .ok (.aload_n 0, 1) := by decide +kernel
theorem dX8_seenAt_11 : decode cX8_seenAt 11 = .ok (.getfield 16, 3) := by decide +kernel
theorem dX8_seenAt_14 : decode cX8_seenAt 14 = .ok (.iload_n 1, 1) := by decide +kernel
theorem dX8_seenAt_15 : decode cX8_seenAt 15 = .ok (.iaload, 1) := by decide +kernel
theorem dX8_seenAt_16 : decode cX8_seenAt 16 = .ok (.iconst (-1), 1) := by decide +kernel
theorem dX8_seenAt_17 : decode cX8_seenAt 17 = .ok (.if_icmp .eq 15, 3) := by decide +kernel
theorem dX8_seenAt_20 : decode cX8_seenAt 20 = .ok (.aload_n 0, 1) := by decide +kernel
theorem dX8_seenAt_21 : decode cX8_seenAt 21 = .ok (.getfield 16, 3) := by decide +kernel
theorem dX8_seenAt_24 : decode cX8_seenAt 24 = .ok (.iload_n 1, 1) := by decide +kernel
theorem dX8_seenAt_25 : decode cX8_seenAt 25 = .ok (.iconst 1, 1) := by decide +kernel
theorem dX8_seenAt_26 : decode cX8_seenAt 26 = .ok (.iadd, 1) := by decide +kernel
theorem dX8_seenAt_27 : decode cX8_seenAt 27 = .ok (.iaload, 1) := by decide +kernel
theorem dX8_seenAt_28 : decode cX8_seenAt 28 = .ok (.iconst (-1), 1) := by decide +kernel
theorem dX8_seenAt_29 : decode cX8_seenAt 29 = .ok (.if_icmp .ne 5, 3) := by decide +kernel
theorem dX8_seenAt_32 : decode cX8_seenAt 32 = .ok (.iconst 0, 1) := by decide +kernel
theorem dX8_seenAt_33 : decode cX8_seenAt 33 = .ok (.ireturn, 1) := by decide +kernel
theorem dX8_seenAt_34 : decode cX8_seenAt 34 = .ok (.aload_n 0, 1) := by decide +kernel
theorem dX8_seenAt_35 : decode cX8_seenAt 35 = .ok (.iload_n 1, 1) := by decide +kernel
theorem dX8_seenAt_36 : decode cX8_seenAt 36 = .ok (.aload_n 0, 1) := by decide +kernel
theorem dX8_seenAt_37 : decode cX8_seenAt 37 = .ok (.iload_n 1, 1) := by decide +kernel
theorem dX8_seenAt_38 : decode cX8_seenAt 38 = .ok (.invokevirtual 138, 3) := by decide +kernel
theorem dX8_seenAt_41 : decode cX8_seenAt 41 = .ok (.aload_n 0, 1) := by decide +kernel
theorem dX8_seenAt_42 : decode cX8_seenAt 42 = .ok (.iload_n 1, 1) := by decide +kernel
theorem dX8_seenAt_43 : decode cX8_seenAt 43 = .ok (.iconst 1, 1) := by decide +kernel
theorem dX8_seenAt_44 : decode cX8_seenAt 44 = .ok (.iadd, 1) := by decide +kernel
theorem dX8_seenAt_45 : decode cX8_seenAt 45 = .ok (.invokevirtual 138, 3) := by decide +kernel
theorem dX8_seenAt_48 : decode cX8_seenAt 48 = .ok (.invokevirtual 141, 3) := by decide +kernel
theorem dX8_seenAt_51 : decode cX8_seenAt 51 = .ok (.ireturn, 1) := by decide +kernel
theorem dX8_seenAll_0 : decode cX8_seenAll 0 = .ok (.iconst 0, 1) := by decide +kernel
theorem dX8_seenAll_1 : decode cX8_seenAll 1 = .ok (.istore_n 1, 1) := by decide +kernel
theorem dX8_seenAll_2 : decode cX8_seenAll 2 = .ok (.iconst 0, 1) := by decide +kernel
theorem dX8_seenAll_3 : decode cX8_seenAll 3 = .ok (.istore_n 2, 1) := by decide +kernel
theorem dX8_seenAll_4 : decode cX8_seenAll 4 = .ok (.iload_n 2, 1) := by decide +kernel
theorem dX8_seenAll_5 : decode cX8_seenAll 5 = .ok (.aload_n 0, 1) := by decide +kernel
theorem dX8_seenAll_6 : decode cX8_seenAll 6 = .ok (.getfield 119, 3) := by decide +kernel
theorem dX8_seenAll_9 : decode cX8_seenAll 9 = .ok (.if_icmp .ge 17, 3) := by decide +kernel
theorem dX8_seenAll_12 : decode cX8_seenAll 12 = .ok (.iload_n 1, 1) := by decide +kernel
theorem dX8_seenAll_13 : decode cX8_seenAll 13 = .ok (.aload_n 0, 1) := by decide +kernel
theorem dX8_seenAll_14 : decode cX8_seenAll 14 = .ok (.iload_n 2, 1) := by decide +kernel
theorem dX8_seenAll_15 : decode cX8_seenAll 15 = .ok (.invokevirtual 145, 3) := by decide +kernel
theorem dX8_seenAll_18 : decode cX8_seenAll 18 = .ok (.iadd, 1) := by decide +kernel
theorem dX8_seenAll_19 : decode cX8_seenAll 19 = .ok (.istore_n 1, 1) := by decide +kernel
theorem dX8_seenAll_20 : decode cX8_seenAll 20 = .ok (.iinc 2 1, 3) := by decide +kernel
theorem dX8_seenAll_23 : decode cX8_seenAll 23 = .ok (.goto (-19), 3) := by decide +kernel
theorem dX8_seenAll_26 : decode cX8_seenAll 26 = .ok (.iload_n 1, 1) := by decide +kernel
theorem dX8_seenAll_27 : decode cX8_seenAll 27 = .ok (.ireturn, 1) := by decide +kernel
theorem dX8_partNow_0 : decode cX8_partNow 0 = .ok (.iload_n 2, 1) := by decide +kernel
theorem dX8_partNow_1 : decode cX8_partNow 1 = .ok (.tableswitch 111 0 7 #[47, 54, 61, 71, 78, 85, 91, 97], 47) := by decide +kernel
theorem dX8_partNow_48 : decode cX8_partNow 48 = .ok (.aload_n 0, 1) := by decide +kernel
theorem dX8_partNow_49 : decode cX8_partNow 49 = .ok (.getfield 7, 3) := by decide +kernel
theorem dX8_partNow_52 : decode cX8_partNow 52 = .ok (.iload_n 1, 1) := by decide +kernel
theorem dX8_partNow_53 : decode cX8_partNow 53 = .ok (.iaload, 1) := by decide +kernel
theorem dX8_partNow_54 : decode cX8_partNow 54 = .ok (.ireturn, 1) := by decide +kernel
theorem dX8_partNow_55 : decode cX8_partNow 55 = .ok (.aload_n 0, 1) := by decide +kernel
theorem dX8_partNow_56 : decode cX8_partNow 56 = .ok (.getfield 13, 3) := by decide +kernel
theorem dX8_partNow_59 : decode cX8_partNow 59 = .ok (.iload_n 1, 1) := by decide +kernel
theorem dX8_partNow_60 : decode cX8_partNow 60 = .ok (.iaload, 1) := by decide +kernel
theorem dX8_partNow_61 : decode cX8_partNow 61 = .ok (.ireturn, 1) := by decide +kernel
theorem dX8_partNow_62 : decode cX8_partNow 62 = .ok (.aload_n 0, 1) := by decide +kernel
theorem dX8_partNow_63 : decode cX8_partNow 63 = .ok (.getfield 7, 3) := by decide +kernel
theorem dX8_partNow_66 : decode cX8_partNow 66 = .ok (.iload_n 1, 1) := by decide +kernel
theorem dX8_partNow_67 : decode cX8_partNow 67 = .ok (.iaload, 1) := by decide +kernel
theorem dX8_partNow_68 : decode cX8_partNow 68 = .ok (.invokestatic 135, 3) := by decide +kernel
theorem dX8_partNow_71 : decode cX8_partNow 71 = .ok (.ireturn, 1) := by decide +kernel
theorem dX8_partNow_72 : decode cX8_partNow 72 = .ok (.aload_n 0, 1) := by decide +kernel
theorem dX8_partNow_73 : decode cX8_partNow 73 = .ok (.getfield 16, 3) := by decide +kernel
theorem dX8_partNow_76 : decode cX8_partNow 76 = .ok (.iload_n 1, 1) := by decide +kernel
theorem dX8_partNow_77 : decode cX8_partNow 77 = .ok (.iaload, 1) := by decide +kernel
theorem dX8_partNow_78 : decode cX8_partNow 78 = .ok (.ireturn, 1) := by decide +kernel
theorem dX8_partNow_79 : decode cX8_partNow 79 = .ok (.aload_n 0, 1) := by decide +kernel
theorem dX8_partNow_80 : decode cX8_partNow 80 = .ok (.getfield 19, 3) := by decide +kernel
theorem dX8_partNow_83 : decode cX8_partNow 83 = .ok (.iload_n 1, 1) := by decide +kernel
theorem dX8_partNow_84 : decode cX8_partNow 84 = .ok (.iaload, 1) := by decide +kernel
theorem dX8_partNow_85 : decode cX8_partNow 85 = .ok (.ireturn, 1) := by decide +kernel
theorem dX8_partNow_86 : decode cX8_partNow 86 = .ok (.aload_n 0, 1) := by decide +kernel
theorem dX8_partNow_87 : decode cX8_partNow 87 = .ok (.iload_n 1, 1) := by decide +kernel
theorem dX8_partNow_88 : decode cX8_partNow 88 = .ok (.invokevirtual 138, 3) := by decide +kernel
theorem dX8_partNow_91 : decode cX8_partNow 91 = .ok (.ireturn, 1) := by decide +kernel
theorem dX8_partNow_92 : decode cX8_partNow 92 = .ok (.aload_n 0, 1) := by decide +kernel
theorem dX8_partNow_93 : decode cX8_partNow 93 = .ok (.iload_n 1, 1) := by decide +kernel
theorem dX8_partNow_94 : decode cX8_partNow 94 = .ok (.invokevirtual 145, 3) := by decide +kernel
theorem dX8_partNow_97 : decode cX8_partNow 97 = .ok (.ireturn, 1) := by decide +kernel
theorem dX8_partNow_98 : decode cX8_partNow 98 = .ok (.aload_n 0, 1) := by decide +kernel
theorem dX8_partNow_99 : decode cX8_partNow 99 = .ok (.getfield 22, 3) := by decide +kernel
theorem dX8_partNow_102 : decode cX8_partNow 102 = .ok (.iload_n 1, 1) := by decide +kernel
theorem dX8_partNow_103 : decode cX8_partNow 103 = .ok (.iaload, 1) := by decide +kernel
theorem dX8_partNow_104 : decode cX8_partNow 104 = .ok (.aload_n 0, 1) := by decide +kernel
theorem dX8_partNow_105 : decode cX8_partNow 105 = .ok (.getfield 25, 3) := by decide +kernel
theorem dX8_partNow_108 : decode cX8_partNow 108 = .ok (.iload_n 1, 1) := by decide +kernel
theorem dX8_partNow_109 : decode cX8_partNow 109 = .ok (.iaload, 1) := by decide +kernel
theorem dX8_partNow_110 : decode cX8_partNow 110 = .ok (.iadd, 1) := by decide +kernel
theorem dX8_partNow_111 : decode cX8_partNow 111 = .ok (.ireturn, 1) := by decide +kernel
theorem dX8_partNow_112 : decode cX8_partNow 112 = .ok (.aload_n 0, 1) := by decide +kernel
theorem dX8_partNow_113 : decode cX8_partNow 113 = .ok (.getfield 31, 3) := by decide +kernel
theorem dX8_partNow_116 : decode cX8_partNow 116 = .ok (.iload_n 1, 1) := by decide +kernel
theorem dX8_partNow_117 : decode cX8_partNow 117 = .ok (.iaload, 1) := by decide +kernel
theorem dX8_partNow_118 : decode cX8_partNow 118 = .ok (.ireturn, 1) := by decide +kernel
theorem dX8_about_0 : decode cX8_about 0 = .ok (.aload_n 0, 1) := by decide +kernel
theorem dX8_about_1 : decode cX8_about 1 = .ok (.iload_n 1, 1) := by decide +kernel
theorem dX8_about_2 : decode cX8_about 2 = .ok (.invokevirtual 148, 3) := by decide +kernel
theorem dX8_about_5 : decode cX8_about 5 = .ok (.ifCond .ne 8, 3) := by decide +kernel
theorem dX8_about_8 : decode cX8_about 8 = .ok (.bipush (-101), 2) := by decide +kernel
theorem dX8_about_10 : decode cX8_about 10 = .ok (.goto 24, 3) := by decide +kernel
theorem dX8_about_13 : decode cX8_about 13 = .ok (.iload_n 2, 1) := by decide +kernel
theorem dX8_about_14 : decode cX8_about 14 = .ok (.iconst 0, 1) := by decide +kernel
theorem dX8_about_15 : decode cX8_about 15 = .ok (.bipush 8, 2) := by decide +kernel
theorem dX8_about_17 : decode cX8_about 17 = .ok (.invokestatic 86, 3) := by decide +kernel
theorem dX8_about_20 : decode cX8_about 20 = .ok (.ifCond .eq 12, 3) := by decide +kernel
theorem dX8_about_23 : decode cX8_about 23 = .ok (.aload_n 0, 1) := by decide +kernel
theorem dX8_about_24 : decode cX8_about 24 = .ok (.iload_n 1, 1) := by decide +kernel
theorem dX8_about_25 : decode cX8_about 25 = .ok (.iload_n 2, 1) := by decide +kernel
theorem dX8_about_26 : decode cX8_about 26 = .ok (.invokevirtual 152, 3) := by decide +kernel
theorem dX8_about_29 : decode cX8_about 29 = .ok (.goto 5, 3) := by decide +kernel
theorem dX8_about_32 : decode cX8_about 32 = .ok (.bipush (-102), 2) := by decide +kernel
theorem dX8_about_34 : decode cX8_about 34 = .ok (.ireturn, 1) := by decide +kernel
theorem dX8_as_0 : decode cX8_as 0 = .ok (.aload_n 0, 1) := by decide +kernel
theorem dX8_as_1 : decode cX8_as 1 = .ok (.iload_n 1, 1) := by decide +kernel
theorem dX8_as_2 : decode cX8_as 2 = .ok (.invokevirtual 148, 3) := by decide +kernel
theorem dX8_as_5 : decode cX8_as 5 = .ok (.ifCond .ne 6, 3) := by decide +kernel
theorem dX8_as_8 : decode cX8_as 8 = .ok (.bipush (-101), 2) := by decide +kernel
theorem dX8_as_10 : decode cX8_as 10 = .ok (.ireturn, 1) := by decide +kernel
theorem dX8_as_11 : decode cX8_as 11 = .ok (.iload_n 2, 1) := by decide +kernel
theorem dX8_as_12 : decode cX8_as 12 = .ok (.iconst 0, 1) := by decide +kernel
theorem dX8_as_13 : decode cX8_as 13 = .ok (.iconst 4, 1) := by decide +kernel
theorem dX8_as_14 : decode cX8_as 14 = .ok (.invokestatic 86, 3) := by decide +kernel
theorem dX8_as_17 : decode cX8_as 17 = .ok (.ifCond .ne 6, 3) := by decide +kernel
theorem dX8_as_20 : decode cX8_as 20 = .ok (.bipush (-102), 2) := by decide +kernel
theorem dX8_as_22 : decode cX8_as 22 = .ok (.ireturn, 1) := by decide +kernel
theorem dX8_as_23 : decode cX8_as 23 = .ok (.aload_n 0, 1) := by decide +kernel
theorem dX8_as_24 : decode cX8_as 24 = .ok (.getfield 7, 3) := by decide +kernel
theorem dX8_as_27 : decode cX8_as 27 = .ok (.iload_n 1, 1) := by decide +kernel
theorem dX8_as_28 : decode cX8_as 28 = .ok (.iaload, 1) := by decide +kernel
theorem dX8_as_29 : decode cX8_as 29 = .ok (.istore_n 3, 1) := by decide +kernel
theorem dX8_as_30 : decode cX8_as 30 = .ok (.iload_n 2, 1) := by decide +kernel
theorem dX8_as_31 : decode cX8_as 31 = .ok (.ifCond .eq 18, 3) := by decide +kernel
theorem dX8_as_34 : decode cX8_as 34 = .ok (.iload_n 3, 1) := by decide +kernel
theorem dX8_as_35 : decode cX8_as 35 = .ok (.iload_n 2, 1) := by decide +kernel
theorem dX8_as_36 : decode cX8_as 36 = .ok (.if_icmp .eq 13, 3) := by decide +kernel
theorem dX8_as_39 : decode cX8_as 39 = .ok (.iload_n 2, 1) := by decide +kernel
theorem dX8_as_40 : decode cX8_as 40 = .ok (.iconst 3, 1) := by decide +kernel
theorem dX8_as_41 : decode cX8_as 41 = .ok (.if_icmp .ne 12, 3) := by decide +kernel
theorem dX8_as_44 : decode cX8_as 44 = .ok (.iload_n 3, 1) := by decide +kernel
theorem dX8_as_45 : decode cX8_as 45 = .ok (.iconst 4, 1) := by decide +kernel
theorem dX8_as_46 : decode cX8_as 46 = .ok (.if_icmp .ne 7, 3) := by decide +kernel
theorem dX8_as_49 : decode cX8_as 49 = .ok (.iload_n 1, 1) := by decide +kernel
theorem dX8_as_50 : decode cX8_as 50 = .ok (.goto 4, 3) := by decide +kernel
theorem dX8_as_53 : decode cX8_as 53 = .ok (.iconst (-1), 1) := by decide +kernel
theorem dX8_as_54 : decode cX8_as 54 = .ok (.ireturn, 1) := by decide +kernel
theorem dX8_lot_0 : decode cX8_lot 0 = .ok (.iload_n 1, 1) := by decide +kernel
theorem dX8_lot_1 : decode cX8_lot 1 = .ok (.iconst 0, 1) := by decide +kernel
theorem dX8_lot_2 : decode cX8_lot 2 = .ok (.bipush 20, 2) := by decide +kernel
theorem dX8_lot_4 : decode cX8_lot 4 = .ok (.invokestatic 86, 3) := by decide +kernel
theorem dX8_lot_7 : decode cX8_lot 7 = .ok (.ifCond .ne 6, 3) := by decide +kernel
theorem dX8_lot_10 : decode cX8_lot 10 = .ok (.bipush (-102), 2) := by decide +kernel
theorem dX8_lot_12 : decode cX8_lot 12 = .ok (.ireturn, 1) := by decide +kernel
theorem dX8_lot_13 : decode cX8_lot 13 = .ok (.aload_n 0, 1) := by decide +kernel
theorem dX8_lot_14 : decode cX8_lot 14 = .ok (.getfield 119, 3) := by decide +kernel
theorem dX8_lot_17 : decode cX8_lot 17 = .ok (.ifCond .ne 6, 3) := by decide +kernel
theorem dX8_lot_20 : decode cX8_lot 20 = .ok (.bipush (-103), 2) := by decide +kernel
theorem dX8_lot_22 : decode cX8_lot 22 = .ok (.ireturn, 1) := by decide +kernel
theorem dX8_lot_23 : decode cX8_lot 23 = .ok (.aload_n 0, 1) := by decide +kernel
theorem dX8_lot_24 : decode cX8_lot 24 = .ok (.getfield 132, 3) := by decide +kernel
theorem dX8_lot_27 : decode cX8_lot 27 = .ok (.iconst 3, 1) := by decide +kernel
theorem dX8_lot_28 : decode cX8_lot 28 = .ok (.if_icmp .ne 6, 3) := by decide +kernel
theorem dX8_lot_31 : decode cX8_lot 31 = .ok (.bipush (-104), 2) := by decide +kernel
theorem dX8_lot_33 : decode cX8_lot 33 = .ok (.ireturn, 1) := by decide +kernel
theorem dX8_lot_34 : decode cX8_lot 34 = .ok (.aload_n 0, 1) := by decide +kernel
theorem dX8_lot_35 : decode cX8_lot 35 = .ok (.getfield 34, 3) := by decide +kernel
theorem dX8_lot_38 : decode cX8_lot 38 = .ok (.aload_n 0, 1) := by decide +kernel
theorem dX8_lot_39 : decode cX8_lot 39 = .ok (.getfield 132, 3) := by decide +kernel
theorem dX8_lot_42 : decode cX8_lot 42 = .ok (.iload_n 1, 1) := by decide +kernel
theorem dX8_lot_43 : decode cX8_lot 43 = .ok (.iastore, 1) := by decide +kernel
theorem dX8_lot_44 : decode cX8_lot 44 = .ok (.aload_n 0, 1) := by decide +kernel
theorem dX8_lot_45 : decode cX8_lot 45 = .ok (.getfield 37, 3) := by decide +kernel
theorem dX8_lot_48 : decode cX8_lot 48 = .ok (.aload_n 0, 1) := by decide +kernel
theorem dX8_lot_49 : decode cX8_lot 49 = .ok (.getfield 132, 3) := by decide +kernel
theorem dX8_lot_52 : decode cX8_lot 52 = .ok (.iconst 0, 1) := by decide +kernel
theorem dX8_lot_53 : decode cX8_lot 53 = .ok (.iastore, 1) := by decide +kernel
theorem dX8_lot_54 : decode cX8_lot 54 = .ok (.aload_n 0, 1) := by decide +kernel
theorem dX8_lot_55 : decode cX8_lot 55 = .ok (.getfield 40, 3) := by decide +kernel
theorem dX8_lot_58 : decode cX8_lot 58 = .ok (.aload_n 0, 1) := by decide +kernel
theorem dX8_lot_59 : decode cX8_lot 59 = .ok (.getfield 132, 3) := by decide +kernel
theorem dX8_lot_62 : decode cX8_lot 62 = .ok (.iconst 0, 1) := by decide +kernel
theorem dX8_lot_63 : decode cX8_lot 63 = .ok (.iastore, 1) := by decide +kernel
theorem dX8_lot_64 : decode cX8_lot 64 = .ok (.aload_n 0, 1) := by decide +kernel
theorem dX8_lot_65 : decode cX8_lot 65 = .ok (.dup, 1) := by decide +kernel
theorem dX8_lot_66 : decode cX8_lot 66 = .ok (.getfield 132, 3) := by decide +kernel
theorem dX8_lot_69 : decode cX8_lot 69 = .ok (.iconst 1, 1) := by decide +kernel
theorem dX8_lot_70 : decode cX8_lot 70 = .ok (.iadd, 1) := by decide +kernel
theorem dX8_lot_71 : decode cX8_lot 71 = .ok (.putfield 132, 3) := by decide +kernel
theorem dX8_lot_74 : decode cX8_lot 74 = .ok (.aload_n 0, 1) := by decide +kernel
theorem dX8_lot_75 : decode cX8_lot 75 = .ok (.getfield 132, 3) := by decide +kernel
theorem dX8_lot_78 : decode cX8_lot 78 = .ok (.iconst 1, 1) := by decide +kernel
theorem dX8_lot_79 : decode cX8_lot 79 = .ok (.isub, 1) := by decide +kernel
theorem dX8_lot_80 : decode cX8_lot 80 = .ok (.ireturn, 1) := by decide +kernel
theorem dX8_lotNow_0 : decode cX8_lotNow 0 = .ok (.iload_n 2, 1) := by decide +kernel
theorem dX8_lotNow_1 : decode cX8_lotNow 1 = .ok (.ifCond .ne 12, 3) := by decide +kernel
theorem dX8_lotNow_4 : decode cX8_lotNow 4 = .ok (.aload_n 0, 1) := by decide +kernel
theorem dX8_lotNow_5 : decode cX8_lotNow 5 = .ok (.getfield 34, 3) := by decide +kernel
theorem dX8_lotNow_8 : decode cX8_lotNow 8 = .ok (.iload_n 1, 1) := by decide +kernel
theorem dX8_lotNow_9 : decode cX8_lotNow 9 = .ok (.iaload, 1) := by decide +kernel
theorem dX8_lotNow_10 : decode cX8_lotNow 10 = .ok (.goto 23, 3) := by decide +kernel
theorem dX8_lotNow_13 : decode cX8_lotNow 13 = .ok (.iload_n 2, 1) := by decide +kernel
theorem dX8_lotNow_14 : decode cX8_lotNow 14 = .ok (.iconst 1, 1) := by decide +kernel
theorem dX8_lotNow_15 : decode cX8_lotNow 15 = .ok (.if_icmp .ne 12, 3) := by decide +kernel
theorem dX8_lotNow_18 : decode cX8_lotNow 18 = .ok (.aload_n 0, 1) := by decide +kernel
theorem dX8_lotNow_19 : decode cX8_lotNow 19 = .ok (.getfield 37, 3) := by decide +kernel
theorem dX8_lotNow_22 : decode cX8_lotNow 22 = .ok (.iload_n 1, 1) := by decide +kernel
theorem dX8_lotNow_23 : decode cX8_lotNow 23 = .ok (.iaload, 1) := by decide +kernel
theorem dX8_lotNow_24 : decode cX8_lotNow 24 = .ok (.goto 9, 3) := by decide +kernel
theorem dX8_lotNow_27 : decode cX8_lotNow 27 = .ok (.aload_n 0, 1) := by decide +kernel
theorem dX8_lotNow_28 : decode cX8_lotNow 28 = .ok (.getfield 40, 3) := by decide +kernel
theorem dX8_lotNow_31 : decode cX8_lotNow 31 = .ok (.iload_n 1, 1) := by decide +kernel
theorem dX8_lotNow_32 : decode cX8_lotNow 32 = .ok (.iaload, 1) := by decide +kernel
theorem dX8_lotNow_33 : decode cX8_lotNow 33 = .ok (.ireturn, 1) := by decide +kernel
theorem dX8_lotOf_0 : decode cX8_lotOf 0 = .ok (.aload_n 0, 1) := by decide +kernel
theorem dX8_lotOf_1 : decode cX8_lotOf 1 = .ok (.iload_n 1, 1) := by decide +kernel
theorem dX8_lotOf_2 : decode cX8_lotOf 2 = .ok (.invokevirtual 156, 3) := by decide +kernel
theorem dX8_lotOf_5 : decode cX8_lotOf 5 = .ok (.ifCond .ne 8, 3) := by decide +kernel
theorem dX8_lotOf_8 : decode cX8_lotOf 8 = .ok (.bipush (-101), 2) := by decide +kernel
theorem dX8_lotOf_10 : decode cX8_lotOf 10 = .ok (.goto 23, 3) := by decide +kernel
theorem dX8_lotOf_13 : decode cX8_lotOf 13 = .ok (.iload_n 2, 1) := by decide +kernel
theorem dX8_lotOf_14 : decode cX8_lotOf 14 = .ok (.iconst 0, 1) := by decide +kernel
theorem dX8_lotOf_15 : decode cX8_lotOf 15 = .ok (.iconst 2, 1) := by decide +kernel
theorem dX8_lotOf_16 : decode cX8_lotOf 16 = .ok (.invokestatic 86, 3) := by decide +kernel
theorem dX8_lotOf_19 : decode cX8_lotOf 19 = .ok (.ifCond .eq 12, 3) := by decide +kernel
theorem dX8_lotOf_22 : decode cX8_lotOf 22 = .ok (.aload_n 0, 1) := by decide +kernel
theorem dX8_lotOf_23 : decode cX8_lotOf 23 = .ok (.iload_n 1, 1) := by decide +kernel
theorem dX8_lotOf_24 : decode cX8_lotOf 24 = .ok (.iload_n 2, 1) := by decide +kernel
theorem dX8_lotOf_25 : decode cX8_lotOf 25 = .ok (.invokevirtual 159, 3) := by decide +kernel
theorem dX8_lotOf_28 : decode cX8_lotOf 28 = .ok (.goto 5, 3) := by decide +kernel
theorem dX8_lotOf_31 : decode cX8_lotOf 31 = .ok (.bipush (-102), 2) := by decide +kernel
theorem dX8_lotOf_33 : decode cX8_lotOf 33 = .ok (.ireturn, 1) := by decide +kernel
theorem dX8_buy_0 : decode cX8_buy 0 = .ok (.aload_n 0, 1) := by decide +kernel
theorem dX8_buy_1 : decode cX8_buy 1 = .ok (.iload_n 1, 1) := by decide +kernel
theorem dX8_buy_2 : decode cX8_buy 2 = .ok (.invokevirtual 156, 3) := by decide +kernel
theorem dX8_buy_5 : decode cX8_buy 5 = .ok (.ifCond .ne 6, 3) := by decide +kernel
theorem dX8_buy_8 : decode cX8_buy 8 = .ok (.bipush (-101), 2) := by decide +kernel
theorem dX8_buy_10 : decode cX8_buy 10 = .ok (.ireturn, 1) := by decide +kernel
theorem dX8_buy_11 : decode cX8_buy 11 = .ok (.iload_n 2, 1) := by decide +kernel
theorem dX8_buy_12 : decode cX8_buy 12 = .ok (.iconst 1, 1) := by decide +kernel
theorem dX8_buy_13 : decode cX8_buy 13 = .ok (.bipush 9, 2) := by decide +kernel
theorem dX8_buy_15 : decode cX8_buy 15 = .ok (.invokestatic 86, 3) := by decide +kernel
theorem dX8_buy_18 : decode cX8_buy 18 = .ok (.ifCond .ne 6, 3) := by decide +kernel
theorem dX8_buy_21 : decode cX8_buy 21 = .ok (.bipush (-102), 2) := by decide +kernel
theorem dX8_buy_23 : decode cX8_buy 23 = .ok (.ireturn, 1) := by decide +kernel
theorem dX8_buy_24 : decode cX8_buy 24 = .ok (.aload_n 0, 1) := by decide +kernel
theorem dX8_buy_25 : decode cX8_buy 25 = .ok (.getfield 37, 3) := by decide +kernel
theorem dX8_buy_28 : decode cX8_buy 28 = .ok (.iload_n 1, 1) := by decide +kernel
theorem dX8_buy_29 : decode cX8_buy 29 = .ok (.iaload, 1) := by decide +kernel
theorem dX8_buy_30 : decode cX8_buy 30 = .ok (.iload_n 2, 1) := by decide +kernel
theorem dX8_buy_31 : decode cX8_buy 31 = .ok (.iadd, 1) := by decide +kernel
theorem dX8_buy_32 : decode cX8_buy 32 = .ok (.bipush 40, 2) := by decide +kernel
theorem dX8_buy_34 : decode cX8_buy 34 = .ok (.if_icmp .le 6, 3) := by decide +kernel
theorem dX8_buy_37 : decode cX8_buy 37 = .ok (.bipush (-104), 2) := by decide +kernel
theorem dX8_buy_39 : decode cX8_buy 39 = .ok (.ireturn, 1) := by decide +kernel
theorem dX8_buy_40 : decode cX8_buy 40 = .ok (.aload_n 0, 1) := by decide +kernel
theorem dX8_buy_41 : decode cX8_buy 41 = .ok (.getfield 37, 3) := by decide +kernel
theorem dX8_buy_44 : decode cX8_buy 44 = .ok (.iload_n 1, 1) := by decide +kernel
theorem dX8_buy_45 : decode cX8_buy 45 = .ok (.dup2, 1) := by decide +kernel
theorem dX8_buy_46 : decode cX8_buy 46 = .ok (.iaload, 1) := by decide +kernel
theorem dX8_buy_47 : decode cX8_buy 47 = .ok (.iload_n 2, 1) := by decide +kernel
theorem dX8_buy_48 : decode cX8_buy 48 = .ok (.iadd, 1) := by decide +kernel
theorem dX8_buy_49 : decode cX8_buy 49 = .ok (.iastore, 1) := by decide +kernel
theorem dX8_buy_50 : decode cX8_buy 50 = .ok (.aload_n 0, 1) := by decide +kernel
theorem dX8_buy_51 : decode cX8_buy 51 = .ok (.getfield 37, 3) := by decide +kernel
theorem dX8_buy_54 : decode cX8_buy 54 = .ok (.iload_n 1, 1) := by decide +kernel
theorem dX8_buy_55 : decode cX8_buy 55 = .ok (.iaload, 1) := by decide +kernel
theorem dX8_buy_56 : decode cX8_buy 56 = .ok (.ireturn, 1) := by decide +kernel
theorem dX8_back_0 : decode cX8_back 0 = .ok (.aload_n 0, 1) := by decide +kernel
theorem dX8_back_1 : decode cX8_back 1 = .ok (.iload_n 1, 1) := by decide +kernel
theorem dX8_back_2 : decode cX8_back 2 = .ok (.invokevirtual 156, 3) := by decide +kernel
theorem dX8_back_5 : decode cX8_back 5 = .ok (.ifCond .ne 6, 3) := by decide +kernel
theorem dX8_back_8 : decode cX8_back 8 = .ok (.bipush (-101), 2) := by decide +kernel
theorem dX8_back_10 : decode cX8_back 10 = .ok (.ireturn, 1) := by decide +kernel
theorem dX8_back_11 : decode cX8_back 11 = .ok (.iload_n 2, 1) := by decide +kernel
theorem dX8_back_12 : decode cX8_back 12 = .ok (.iconst 1, 1) := by decide +kernel
theorem dX8_back_13 : decode cX8_back 13 = .ok (.bipush 9, 2) := by decide +kernel
theorem dX8_back_15 : decode cX8_back 15 = .ok (.invokestatic 86, 3) := by decide +kernel
theorem dX8_back_18 : decode cX8_back 18 = .ok (.ifCond .ne 6, 3) := by decide +kernel
theorem dX8_back_21 : decode cX8_back 21 = .ok (.bipush (-102), 2) := by decide +kernel
theorem dX8_back_23 : decode cX8_back 23 = .ok (.ireturn, 1) := by decide +kernel
theorem dX8_back_24 : decode cX8_back 24 = .ok (.aload_n 0, 1) := by decide +kernel
theorem dX8_back_25 : decode cX8_back 25 = .ok (.getfield 37, 3) := by decide +kernel
theorem dX8_back_28 : decode cX8_back 28 = .ok (.iload_n 1, 1) := by decide +kernel
theorem dX8_back_29 : decode cX8_back 29 = .ok (.iaload, 1) := by decide +kernel
theorem dX8_back_30 : decode cX8_back 30 = .ok (.iload_n 2, 1) := by decide +kernel
theorem dX8_back_31 : decode cX8_back 31 = .ok (.if_icmp .ge 6, 3) := by decide +kernel
theorem dX8_back_34 : decode cX8_back 34 = .ok (.bipush (-103), 2) := by decide +kernel
theorem dX8_back_36 : decode cX8_back 36 = .ok (.ireturn, 1) := by decide +kernel
theorem dX8_back_37 : decode cX8_back 37 = .ok (.aload_n 0, 1) := by decide +kernel
theorem dX8_back_38 : decode cX8_back 38 = .ok (.getfield 37, 3) := by decide +kernel
theorem dX8_back_41 : decode cX8_back 41 = .ok (.iload_n 1, 1) := by decide +kernel
theorem dX8_back_42 : decode cX8_back 42 = .ok (.dup2, 1) := by decide +kernel
theorem dX8_back_43 : decode cX8_back 43 = .ok (.iaload, 1) := by decide +kernel
theorem dX8_back_44 : decode cX8_back 44 = .ok (.iload_n 2, 1) := by decide +kernel
theorem dX8_back_45 : decode cX8_back 45 = .ok (.isub, 1) := by decide +kernel
theorem dX8_back_46 : decode cX8_back 46 = .ok (.iastore, 1) := by decide +kernel
theorem dX8_back_47 : decode cX8_back 47 = .ok (.aload_n 0, 1) := by decide +kernel
theorem dX8_back_48 : decode cX8_back 48 = .ok (.getfield 37, 3) := by decide +kernel
theorem dX8_back_51 : decode cX8_back 51 = .ok (.iload_n 1, 1) := by decide +kernel
theorem dX8_back_52 : decode cX8_back 52 = .ok (.iaload, 1) := by decide +kernel
theorem dX8_back_53 : decode cX8_back 53 = .ok (.ireturn, 1) := by decide +kernel
theorem dX8_rowsIn_0 : decode cX8_rowsIn 0 = .ok (.aload_n 0, 1) := by decide +kernel
theorem dX8_rowsIn_1 : decode cX8_rowsIn 1 = .ok (.getfield 40, 3) := by decide +kernel
theorem dX8_rowsIn_4 : decode cX8_rowsIn 4 = .ok (.iload_n 1, 1) := by decide +kernel
theorem dX8_rowsIn_5 : decode cX8_rowsIn 5 = .ok (.iaload, 1) := by decide +kernel
theorem dX8_rowsIn_6 : decode cX8_rowsIn 6 = .ok (.iconst 4, 1) := by decide +kernel
theorem dX8_rowsIn_7 : decode cX8_rowsIn 7 = .ok (.aload_n 0, 1) := by decide +kernel
theorem dX8_rowsIn_8 : decode cX8_rowsIn 8 = .ok (.getfield 37, 3) := by decide +kernel
theorem dX8_rowsIn_11 : decode cX8_rowsIn 11 = .ok (.iload_n 1, 1) := by decide +kernel
theorem dX8_rowsIn_12 : decode cX8_rowsIn 12 = .ok (.iaload, 1) := by decide +kernel
theorem dX8_rowsIn_13 : decode cX8_rowsIn 13 = .ok (.imul, 1) := by decide +kernel
theorem dX8_rowsIn_14 : decode cX8_rowsIn 14 = .ok (.iadd, 1) := by decide +kernel
theorem dX8_rowsIn_15 : decode cX8_rowsIn 15 = .ok (.ireturn, 1) := by decide +kernel
theorem dX8_take_0 : decode cX8_take 0 = .ok (.aload_n 0, 1) := by decide +kernel
theorem dX8_take_1 : decode cX8_take 1 = .ok (.getfield 40, 3) := by decide +kernel
theorem dX8_take_4 : decode cX8_take 4 = .ok (.iload_n 1, 1) := by decide +kernel
theorem dX8_take_5 : decode cX8_take 5 = .ok (.iaload, 1) := by decide +kernel
theorem dX8_take_6 : decode cX8_take 6 = .ok (.iload_n 2, 1) := by decide +kernel
theorem dX8_take_7 : decode cX8_take 7 = .ok (.if_icmp .ge 26, 3) := by decide +kernel
theorem dX8_take_10 : decode cX8_take 10 = .ok (.aload_n 0, 1) := by decide +kernel
theorem dX8_take_11 : decode cX8_take 11 = .ok (.getfield 37, 3) := by decide +kernel
theorem dX8_take_14 : decode cX8_take 14 = .ok (.iload_n 1, 1) := by decide +kernel
theorem dX8_take_15 : decode cX8_take 15 = .ok (.dup2, 1) := by decide +kernel
theorem dX8_take_16 : decode cX8_take 16 = .ok (.iaload, 1) := by decide +kernel
theorem dX8_take_17 : decode cX8_take 17 = .ok (.iconst 1, 1) := by decide +kernel
theorem dX8_take_18 : decode cX8_take 18 = .ok (.isub, 1) := by decide +kernel
theorem dX8_take_19 : decode cX8_take 19 = .ok (.iastore, 1) := by decide +kernel
theorem dX8_take_20 : decode cX8_take 20 = .ok (.aload_n 0, 1) := by decide +kernel
theorem dX8_take_21 : decode cX8_take 21 = .ok (.getfield 40, 3) := by decide +kernel
theorem dX8_take_24 : decode cX8_take 24 = .ok (.iload_n 1, 1) := by decide +kernel
theorem dX8_take_25 : decode cX8_take 25 = .ok (.dup2, 1) := by decide +kernel
theorem dX8_take_26 : decode cX8_take 26 = .ok (.iaload, 1) := by decide +kernel
theorem dX8_take_27 : decode cX8_take 27 = .ok (.iconst 4, 1) := by decide +kernel
theorem dX8_take_28 : decode cX8_take 28 = .ok (.iadd, 1) := by decide +kernel
theorem dX8_take_29 : decode cX8_take 29 = .ok (.iastore, 1) := by decide +kernel
theorem dX8_take_30 : decode cX8_take 30 = .ok (.goto (-30), 3) := by decide +kernel
theorem dX8_take_33 : decode cX8_take 33 = .ok (.aload_n 0, 1) := by decide +kernel
theorem dX8_take_34 : decode cX8_take 34 = .ok (.getfield 40, 3) := by decide +kernel
theorem dX8_take_37 : decode cX8_take 37 = .ok (.iload_n 1, 1) := by decide +kernel
theorem dX8_take_38 : decode cX8_take 38 = .ok (.dup2, 1) := by decide +kernel
theorem dX8_take_39 : decode cX8_take 39 = .ok (.iaload, 1) := by decide +kernel
theorem dX8_take_40 : decode cX8_take 40 = .ok (.iload_n 2, 1) := by decide +kernel
theorem dX8_take_41 : decode cX8_take 41 = .ok (.isub, 1) := by decide +kernel
theorem dX8_take_42 : decode cX8_take 42 = .ok (.iastore, 1) := by decide +kernel
theorem dX8_take_43 : decode cX8_take 43 = .ok (.return_, 1) := by decide +kernel
theorem dX8_firstHalf_0 : decode cX8_firstHalf 0 = .ok (.iload_n 0, 1) := by decide +kernel
theorem dX8_firstHalf_1 : decode cX8_firstHalf 1 = .ok (.iconst 1, 1) := by decide +kernel
theorem dX8_firstHalf_2 : decode cX8_firstHalf 2 = .ok (.iadd, 1) := by decide +kernel
theorem dX8_firstHalf_3 : decode cX8_firstHalf 3 = .ok (.iconst 2, 1) := by decide +kernel
theorem dX8_firstHalf_4 : decode cX8_firstHalf 4 = .ok (.idiv, 1) := by decide +kernel
theorem dX8_firstHalf_5 : decode cX8_firstHalf 5 = .ok (.ireturn, 1) := by decide +kernel
theorem dX8_knit_0 : decode cX8_knit 0 = .ok (.aload_n 0, 1) := by decide +kernel
theorem dX8_knit_1 : decode cX8_knit 1 = .ok (.iload_n 1, 1) := by decide +kernel
theorem dX8_knit_2 : decode cX8_knit 2 = .ok (.invokevirtual 148, 3) := by decide +kernel
theorem dX8_knit_5 : decode cX8_knit 5 = .ok (.ifCond .eq 19, 3) := by decide +kernel
theorem dX8_knit_8 : decode cX8_knit 8 = .ok (.aload_n 0, 1) := by decide +kernel
theorem dX8_knit_9 : decode cX8_knit 9 = .ok (.iload_n 2, 1) := by decide +kernel
theorem dX8_knit_10 : decode cX8_knit 10 = .ok (.invokevirtual 156, 3) := by decide +kernel
theorem dX8_knit_13 : decode cX8_knit 13 = .ok (.ifCond .eq 11, 3) := by decide +kernel
theorem dX8_knit_16 : decode cX8_knit 16 = .ok (.aload_n 0, 1) := by decide +kernel
theorem dX8_knit_17 : decode cX8_knit 17 = .ok (.iload_n 3, 1) := by decide +kernel
theorem dX8_knit_18 : decode cX8_knit 18 = .ok (.invokevirtual 156, 3) := by decide +kernel
theorem dX8_knit_21 : decode cX8_knit 21 = .ok (.ifCond .ne 6, 3) := by decide +kernel
theorem dX8_knit_24 : decode cX8_knit 24 = .ok (.bipush (-101), 2) := by decide +kernel
theorem dX8_knit_26 : decode cX8_knit 26 = .ok (.ireturn, 1) := by decide +kernel
theorem dX8_knit_27 : decode cX8_knit 27 = .ok (.iload_n 2, 1) := by decide +kernel
theorem dX8_knit_28 : decode cX8_knit 28 = .ok (.iload_n 3, 1) := by decide +kernel
theorem dX8_knit_29 : decode cX8_knit 29 = .ok (.if_icmp .ne 12, 3) := by decide +kernel
theorem dX8_knit_32 : decode cX8_knit 32 = .ok (.aload_n 0, 1) := by decide +kernel
theorem dX8_knit_33 : decode cX8_knit 33 = .ok (.getfield 13, 3) := by decide +kernel
theorem dX8_knit_36 : decode cX8_knit 36 = .ok (.iload_n 1, 1) := by decide +kernel
theorem dX8_knit_37 : decode cX8_knit 37 = .ok (.iaload, 1) := by decide +kernel
theorem dX8_knit_38 : decode cX8_knit 38 = .ok (.goto 12, 3) := by decide +kernel
theorem dX8_knit_41 : decode cX8_knit 41 = .ok (.aload_n 0, 1) := by decide +kernel
theorem dX8_knit_42 : decode cX8_knit 42 = .ok (.getfield 13, 3) := by decide +kernel
theorem dX8_knit_45 : decode cX8_knit 45 = .ok (.iload_n 1, 1) := by decide +kernel
theorem dX8_knit_46 : decode cX8_knit 46 = .ok (.iaload, 1) := by decide +kernel
theorem dX8_knit_47 : decode cX8_knit 47 = .ok (.invokestatic 162, 3) := by decide +kernel
theorem dX8_knit_50 : decode cX8_knit 50 = .ok (.istore 4, 2) := by decide +kernel
theorem dX8_knit_52 : decode cX8_knit 52 = .ok (.aload_n 0, 1) := by decide +kernel
theorem dX8_knit_53 : decode cX8_knit 53 = .ok (.getfield 13, 3) := by decide +kernel
theorem dX8_knit_56 : decode cX8_knit 56 = .ok (.iload_n 1, 1) := by decide +kernel
theorem dX8_knit_57 : decode cX8_knit 57 = .ok (.iaload, 1) := by decide +kernel
theorem dX8_knit_58 : decode cX8_knit 58 = .ok (.iload 4, 2) := by decide +kernel
theorem dX8_knit_60 : decode cX8_knit 60 = .ok (.isub, 1) := by decide +kernel
theorem dX8_knit_61 : decode cX8_knit 61 = .ok (.istore 5, 2) := by decide +kernel
theorem dX8_knit_63 : decode cX8_knit 63 = .ok (.aload_n 0, 1) := by decide +kernel
theorem dX8_knit_64 : decode cX8_knit 64 = .ok (.getfield 16, 3) := by decide +kernel
theorem dX8_knit_67 : decode cX8_knit 67 = .ok (.iload_n 1, 1) := by decide +kernel
theorem dX8_knit_68 : decode cX8_knit 68 = .ok (.iaload, 1) := by decide +kernel
theorem dX8_knit_69 : decode cX8_knit 69 = .ok (.iconst (-1), 1) := by decide +kernel
theorem dX8_knit_70 : decode cX8_knit 70 = .ok (.if_icmp .ne 23, 3) := by decide +kernel
theorem dX8_knit_73 : decode cX8_knit 73 = .ok (.aload_n 0, 1) := by decide +kernel
theorem dX8_knit_74 : decode cX8_knit 74 = .ok (.iload_n 2, 1) := by decide +kernel
theorem dX8_knit_75 : decode cX8_knit 75 = .ok (.invokevirtual 165, 3) := by decide +kernel
theorem dX8_knit_78 : decode cX8_knit 78 = .ok (.iload 4, 2) := by decide +kernel
theorem dX8_knit_80 : decode cX8_knit 80 = .ok (.if_icmp .lt 13, 3) := by decide +kernel
theorem dX8_knit_83 : decode cX8_knit 83 = .ok (.aload_n 0, 1) := by decide +kernel
theorem dX8_knit_84 : decode cX8_knit 84 = .ok (.iload_n 3, 1) := by decide +kernel
theorem dX8_knit_85 : decode cX8_knit 85 = .ok (.invokevirtual 165, 3) := by decide +kernel
theorem dX8_knit_88 : decode cX8_knit 88 = .ok (.iload 5, 2) := by decide +kernel
theorem dX8_knit_90 : decode cX8_knit 90 = .ok (.if_icmp .ge 6, 3) := by decide +kernel
theorem dX8_knit_93 : decode cX8_knit 93 = .ok (.bipush (-103), 2) := by decide +kernel
theorem dX8_knit_95 : decode cX8_knit 95 = .ok (.ireturn, 1) := by decide +kernel
theorem dX8_knit_96 : decode cX8_knit 96 = .ok (.aload_n 0, 1) := by decide +kernel
theorem dX8_knit_97 : decode cX8_knit 97 = .ok (.iload_n 2, 1) := by decide +kernel
theorem dX8_knit_98 : decode cX8_knit 98 = .ok (.iload 4, 2) := by decide +kernel
theorem dX8_knit_100 : decode cX8_knit 100 = .ok (.invokevirtual 168, 3) := by decide +kernel
theorem dX8_knit_103 : decode cX8_knit 103 = .ok (.aload_n 0, 1) := by decide +kernel
theorem dX8_knit_104 : decode cX8_knit 104 = .ok (.iload_n 3, 1) := by decide +kernel
theorem dX8_knit_105 : decode cX8_knit 105 = .ok (.iload 5, 2) := by decide +kernel
theorem dX8_knit_107 : decode cX8_knit 107 = .ok (.invokevirtual 168, 3) := by decide +kernel
theorem dX8_knit_110 : decode cX8_knit 110 = .ok (.aload_n 0, 1) := by decide +kernel
theorem dX8_knit_111 : decode cX8_knit 111 = .ok (.getfield 16, 3) := by decide +kernel
theorem dX8_knit_114 : decode cX8_knit 114 = .ok (.iload_n 1, 1) := by decide +kernel
theorem dX8_knit_115 : decode cX8_knit 115 = .ok (.iload_n 2, 1) := by decide +kernel
theorem dX8_knit_116 : decode cX8_knit 116 = .ok (.iastore, 1) := by decide +kernel
theorem dX8_knit_117 : decode cX8_knit 117 = .ok (.aload_n 0, 1) := by decide +kernel
theorem dX8_knit_118 : decode cX8_knit 118 = .ok (.getfield 19, 3) := by decide +kernel
theorem dX8_knit_121 : decode cX8_knit 121 = .ok (.iload_n 1, 1) := by decide +kernel
theorem dX8_knit_122 : decode cX8_knit 122 = .ok (.iload_n 2, 1) := by decide +kernel
theorem dX8_knit_123 : decode cX8_knit 123 = .ok (.iload_n 3, 1) := by decide +kernel
theorem dX8_knit_124 : decode cX8_knit 124 = .ok (.if_icmp .ne 7, 3) := by decide +kernel
theorem dX8_knit_127 : decode cX8_knit 127 = .ok (.iconst (-1), 1) := by decide +kernel
theorem dX8_knit_128 : decode cX8_knit 128 = .ok (.goto 4, 3) := by decide +kernel
theorem dX8_knit_131 : decode cX8_knit 131 = .ok (.iload_n 3, 1) := by decide +kernel
theorem dX8_knit_132 : decode cX8_knit 132 = .ok (.iastore, 1) := by decide +kernel
theorem dX8_knit_133 : decode cX8_knit 133 = .ok (.aload_n 0, 1) := by decide +kernel
theorem dX8_knit_134 : decode cX8_knit 134 = .ok (.getfield 22, 3) := by decide +kernel
theorem dX8_knit_137 : decode cX8_knit 137 = .ok (.iload_n 1, 1) := by decide +kernel
theorem dX8_knit_138 : decode cX8_knit 138 = .ok (.iload 4, 2) := by decide +kernel
theorem dX8_knit_140 : decode cX8_knit 140 = .ok (.iastore, 1) := by decide +kernel
theorem dX8_knit_141 : decode cX8_knit 141 = .ok (.aload_n 0, 1) := by decide +kernel
theorem dX8_knit_142 : decode cX8_knit 142 = .ok (.getfield 25, 3) := by decide +kernel
theorem dX8_knit_145 : decode cX8_knit 145 = .ok (.iload_n 1, 1) := by decide +kernel
theorem dX8_knit_146 : decode cX8_knit 146 = .ok (.iload 5, 2) := by decide +kernel
theorem dX8_knit_148 : decode cX8_knit 148 = .ok (.iastore, 1) := by decide +kernel
theorem dX8_knit_149 : decode cX8_knit 149 = .ok (.aload_n 0, 1) := by decide +kernel
theorem dX8_knit_150 : decode cX8_knit 150 = .ok (.invokevirtual 172, 3) := by decide +kernel
theorem dX8_knit_153 : decode cX8_knit 153 = .ok (.ireturn, 1) := by decide +kernel
theorem dX8_comeBack_0 : decode cX8_comeBack 0 = .ok (.iload_n 2, 1) := by decide +kernel
theorem dX8_comeBack_1 : decode cX8_comeBack 1 = .ok (.ifCond .le 7, 3) := by decide +kernel
theorem dX8_comeBack_4 : decode cX8_comeBack 4 = .ok (.iconst 1, 1) := by decide +kernel
theorem dX8_comeBack_5 : decode cX8_comeBack 5 = .ok (.goto 4, 3) := by decide +kernel
theorem dX8_comeBack_8 : decode cX8_comeBack 8 = .ok (.iconst 0, 1) := by decide +kernel
theorem dX8_comeBack_9 : decode cX8_comeBack 9 = .ok (.istore_n 3, 1) := by decide +kernel
theorem dX8_comeBack_10 : decode cX8_comeBack 10 = .ok (.aload_n 0, 1) := by decide +kernel
theorem dX8_comeBack_11 : decode cX8_comeBack 11 = .ok (.getfield 40, 3) := by decide +kernel
theorem dX8_comeBack_14 : decode cX8_comeBack 14 = .ok (.iload_n 1, 1) := by decide +kernel
theorem dX8_comeBack_15 : decode cX8_comeBack 15 = .ok (.dup2, 1) := by decide +kernel
theorem dX8_comeBack_16 : decode cX8_comeBack 16 = .ok (.iaload, 1) := by decide +kernel
theorem dX8_comeBack_17 : decode cX8_comeBack 17 = .ok (.iload_n 2, 1) := by decide +kernel
theorem dX8_comeBack_18 : decode cX8_comeBack 18 = .ok (.iload_n 3, 1) := by decide +kernel
theorem dX8_comeBack_19 : decode cX8_comeBack 19 = .ok (.isub, 1) := by decide +kernel
theorem dX8_comeBack_20 : decode cX8_comeBack 20 = .ok (.iadd, 1) := by decide +kernel
theorem dX8_comeBack_21 : decode cX8_comeBack 21 = .ok (.iastore, 1) := by decide +kernel
theorem dX8_comeBack_22 : decode cX8_comeBack 22 = .ok (.iload_n 3, 1) := by decide +kernel
theorem dX8_comeBack_23 : decode cX8_comeBack 23 = .ok (.ireturn, 1) := by decide +kernel
theorem dX8_undo_0 : decode cX8_undo 0 = .ok (.aload_n 0, 1) := by decide +kernel
theorem dX8_undo_1 : decode cX8_undo 1 = .ok (.iload_n 1, 1) := by decide +kernel
theorem dX8_undo_2 : decode cX8_undo 2 = .ok (.invokevirtual 148, 3) := by decide +kernel
theorem dX8_undo_5 : decode cX8_undo 5 = .ok (.ifCond .ne 6, 3) := by decide +kernel
theorem dX8_undo_8 : decode cX8_undo 8 = .ok (.bipush (-101), 2) := by decide +kernel
theorem dX8_undo_10 : decode cX8_undo 10 = .ok (.ireturn, 1) := by decide +kernel
theorem dX8_undo_11 : decode cX8_undo 11 = .ok (.aload_n 0, 1) := by decide +kernel
theorem dX8_undo_12 : decode cX8_undo 12 = .ok (.getfield 16, 3) := by decide +kernel
theorem dX8_undo_15 : decode cX8_undo 15 = .ok (.iload_n 1, 1) := by decide +kernel
theorem dX8_undo_16 : decode cX8_undo 16 = .ok (.iaload, 1) := by decide +kernel
theorem dX8_undo_17 : decode cX8_undo 17 = .ok (.iconst (-1), 1) := by decide +kernel
theorem dX8_undo_18 : decode cX8_undo 18 = .ok (.if_icmp .ne 6, 3) := by decide +kernel
theorem dX8_undo_21 : decode cX8_undo 21 = .ok (.bipush (-103), 2) := by decide +kernel
theorem dX8_undo_23 : decode cX8_undo 23 = .ok (.ireturn, 1) := by decide +kernel
theorem dX8_undo_24 : decode cX8_undo 24 = .ok (.aload_n 0, 1) := by decide +kernel
theorem dX8_undo_25 : decode cX8_undo 25 = .ok (.aload_n 0, 1) := by decide +kernel
theorem dX8_undo_26 : decode cX8_undo 26 = .ok (.getfield 16, 3) := by decide +kernel
theorem dX8_undo_29 : decode cX8_undo 29 = .ok (.iload_n 1, 1) := by decide +kernel
theorem dX8_undo_30 : decode cX8_undo 30 = .ok (.iaload, 1) := by decide +kernel
theorem dX8_undo_31 : decode cX8_undo 31 = .ok (.aload_n 0, 1) := by decide +kernel
theorem dX8_undo_32 : decode cX8_undo 32 = .ok (.getfield 22, 3) := by decide +kernel
theorem dX8_undo_35 : decode cX8_undo 35 = .ok (.iload_n 1, 1) := by decide +kernel
theorem dX8_undo_36 : decode cX8_undo 36 = .ok (.iaload, 1) := by decide +kernel
theorem dX8_undo_37 : decode cX8_undo 37 = .ok (.invokevirtual 175, 3) := by decide +kernel
theorem dX8_undo_40 : decode cX8_undo 40 = .ok (.istore_n 2, 1) := by decide +kernel
theorem dX8_undo_41 : decode cX8_undo 41 = .ok (.aload_n 0, 1) := by decide +kernel
theorem dX8_undo_42 : decode cX8_undo 42 = .ok (.getfield 19, 3) := by decide +kernel
theorem dX8_undo_45 : decode cX8_undo 45 = .ok (.iload_n 1, 1) := by decide +kernel
theorem dX8_undo_46 : decode cX8_undo 46 = .ok (.iaload, 1) := by decide +kernel
theorem dX8_undo_47 : decode cX8_undo 47 = .ok (.iconst (-1), 1) := by decide +kernel
theorem dX8_undo_48 : decode cX8_undo 48 = .ok (.if_icmp .eq 22, 3) := by decide +kernel
theorem dX8_undo_51 : decode cX8_undo 51 = .ok (.iload_n 2, 1) := by decide +kernel
theorem dX8_undo_52 : decode cX8_undo 52 = .ok (.aload_n 0, 1) := by decide +kernel
theorem dX8_undo_53 : decode cX8_undo 53 = .ok (.aload_n 0, 1) := by decide +kernel
theorem dX8_undo_54 : decode cX8_undo 54 = .ok (.getfield 19, 3) := by decide +kernel
theorem dX8_undo_57 : decode cX8_undo 57 = .ok (.iload_n 1, 1) := by decide +kernel
theorem dX8_undo_58 : decode cX8_undo 58 = .ok (.iaload, 1) := by decide +kernel
theorem dX8_undo_59 : decode cX8_undo 59 = .ok (.aload_n 0, 1) := by decide +kernel
theorem dX8_undo_60 : decode cX8_undo 60 = .ok (.getfield 25, 3) := by decide +kernel
theorem dX8_undo_63 : decode cX8_undo 63 = .ok (.iload_n 1, 1) := by decide +kernel
theorem dX8_undo_64 : decode cX8_undo 64 = .ok (.iaload, 1) := by decide +kernel
theorem dX8_undo_65 : decode cX8_undo 65 = .ok (.invokevirtual 175, 3) := by decide +kernel
theorem dX8_undo_68 : decode cX8_undo 68 = .ok (.iadd, 1) := by decide +kernel
theorem dX8_undo_69 : decode cX8_undo 69 = .ok (.istore_n 2, 1) := by decide +kernel
theorem dX8_undo_70 : decode cX8_undo 70 = .ok (.aload_n 0, 1) := by decide +kernel
theorem dX8_undo_71 : decode cX8_undo 71 = .ok (.iload_n 1, 1) := by decide +kernel
theorem dX8_undo_72 : decode cX8_undo 72 = .ok (.invokevirtual 125, 3) := by decide +kernel
theorem dX8_undo_75 : decode cX8_undo 75 = .ok (.iload_n 2, 1) := by decide +kernel
theorem dX8_undo_76 : decode cX8_undo 76 = .ok (.ireturn, 1) := by decide +kernel
theorem dX8_gauge_0 : decode cX8_gauge 0 = .ok (.aload_n 0, 1) := by decide +kernel
theorem dX8_gauge_1 : decode cX8_gauge 1 = .ok (.iload_n 1, 1) := by decide +kernel
theorem dX8_gauge_2 : decode cX8_gauge 2 = .ok (.invokevirtual 148, 3) := by decide +kernel
theorem dX8_gauge_5 : decode cX8_gauge 5 = .ok (.ifCond .ne 6, 3) := by decide +kernel
theorem dX8_gauge_8 : decode cX8_gauge 8 = .ok (.bipush (-101), 2) := by decide +kernel
theorem dX8_gauge_10 : decode cX8_gauge 10 = .ok (.ireturn, 1) := by decide +kernel
theorem dX8_gauge_11 : decode cX8_gauge 11 = .ok (.iload_n 2, 1) := by decide +kernel
theorem dX8_gauge_12 : decode cX8_gauge 12 = .ok (.iconst 1, 1) := by decide +kernel
theorem dX8_gauge_13 : decode cX8_gauge 13 = .ok (.bipush 18, 2) := by decide +kernel
theorem dX8_gauge_15 : decode cX8_gauge 15 = .ok (.invokestatic 86, 3) := by decide +kernel
theorem dX8_gauge_18 : decode cX8_gauge 18 = .ok (.ifCond .ne 6, 3) := by decide +kernel
theorem dX8_gauge_21 : decode cX8_gauge 21 = .ok (.bipush (-102), 2) := by decide +kernel
theorem dX8_gauge_23 : decode cX8_gauge 23 = .ok (.ireturn, 1) := by decide +kernel
theorem dX8_gauge_24 : decode cX8_gauge 24 = .ok (.aload_n 0, 1) := by decide +kernel
theorem dX8_gauge_25 : decode cX8_gauge 25 = .ok (.getfield 16, 3) := by decide +kernel
theorem dX8_gauge_28 : decode cX8_gauge 28 = .ok (.iload_n 1, 1) := by decide +kernel
theorem dX8_gauge_29 : decode cX8_gauge 29 = .ok (.iaload, 1) := by decide +kernel
theorem dX8_gauge_30 : decode cX8_gauge 30 = .ok (.iconst (-1), 1) := by decide +kernel
theorem dX8_gauge_31 : decode cX8_gauge 31 = .ok (.if_icmp .eq 34, 3) := by decide +kernel
theorem dX8_gauge_34 : decode cX8_gauge 34 = .ok (.aload_n 0, 1) := by decide +kernel
theorem dX8_gauge_35 : decode cX8_gauge 35 = .ok (.getfield 19, 3) := by decide +kernel
theorem dX8_gauge_38 : decode cX8_gauge 38 = .ok (.iload_n 1, 1) := by decide +kernel
theorem dX8_gauge_39 : decode cX8_gauge 39 = .ok (.iaload, 1) := by decide +kernel
theorem dX8_gauge_40 : decode cX8_gauge 40 = .ok (.iconst (-1), 1) := by decide +kernel
theorem dX8_gauge_41 : decode cX8_gauge 41 = .ok (.if_icmp .ne 24, 3) := by decide +kernel
theorem dX8_gauge_44 : decode cX8_gauge 44 = .ok (.aload_n 0, 1) := by decide +kernel
theorem dX8_gauge_45 : decode cX8_gauge 45 = .ok (.aload_n 0, 1) := by decide +kernel
theorem dX8_gauge_46 : decode cX8_gauge 46 = .ok (.getfield 16, 3) := by decide +kernel
theorem dX8_gauge_49 : decode cX8_gauge 49 = .ok (.iload_n 1, 1) := by decide +kernel
theorem dX8_gauge_50 : decode cX8_gauge 50 = .ok (.iaload, 1) := by decide +kernel
theorem dX8_gauge_51 : decode cX8_gauge 51 = .ok (.invokevirtual 165, 3) := by decide +kernel
theorem dX8_gauge_54 : decode cX8_gauge 54 = .ok (.iload_n 2, 1) := by decide +kernel
theorem dX8_gauge_55 : decode cX8_gauge 55 = .ok (.aload_n 0, 1) := by decide +kernel
theorem dX8_gauge_56 : decode cX8_gauge 56 = .ok (.getfield 22, 3) := by decide +kernel
theorem dX8_gauge_59 : decode cX8_gauge 59 = .ok (.iload_n 1, 1) := by decide +kernel
theorem dX8_gauge_60 : decode cX8_gauge 60 = .ok (.iaload, 1) := by decide +kernel
theorem dX8_gauge_61 : decode cX8_gauge 61 = .ok (.isub, 1) := by decide +kernel
theorem dX8_gauge_62 : decode cX8_gauge 62 = .ok (.if_icmp .ge 6, 3) := by decide +kernel
theorem dX8_gauge_65 : decode cX8_gauge 65 = .ok (.bipush (-103), 2) := by decide +kernel
theorem dX8_gauge_67 : decode cX8_gauge 67 = .ok (.ireturn, 1) := by decide +kernel
theorem dX8_gauge_68 : decode cX8_gauge 68 = .ok (.iload_n 2, 1) := by decide +kernel
theorem dX8_gauge_69 : decode cX8_gauge 69 = .ok (.aload_n 0, 1) := by decide +kernel
theorem dX8_gauge_70 : decode cX8_gauge 70 = .ok (.getfield 22, 3) := by decide +kernel
theorem dX8_gauge_73 : decode cX8_gauge 73 = .ok (.iload_n 1, 1) := by decide +kernel
theorem dX8_gauge_74 : decode cX8_gauge 74 = .ok (.iaload, 1) := by decide +kernel
theorem dX8_gauge_75 : decode cX8_gauge 75 = .ok (.isub, 1) := by decide +kernel
theorem dX8_gauge_76 : decode cX8_gauge 76 = .ok (.istore_n 3, 1) := by decide +kernel
theorem dX8_gauge_77 : decode cX8_gauge 77 = .ok (.iload_n 3, 1) := by decide +kernel
theorem dX8_gauge_78 : decode cX8_gauge 78 = .ok (.ifCond .le 17, 3) := by decide +kernel
theorem dX8_gauge_81 : decode cX8_gauge 81 = .ok (.aload_n 0, 1) := by decide +kernel
theorem dX8_gauge_82 : decode cX8_gauge 82 = .ok (.aload_n 0, 1) := by decide +kernel
theorem dX8_gauge_83 : decode cX8_gauge 83 = .ok (.getfield 16, 3) := by decide +kernel
theorem dX8_gauge_86 : decode cX8_gauge 86 = .ok (.iload_n 1, 1) := by decide +kernel
theorem dX8_gauge_87 : decode cX8_gauge 87 = .ok (.iaload, 1) := by decide +kernel
theorem dX8_gauge_88 : decode cX8_gauge 88 = .ok (.iload_n 3, 1) := by decide +kernel
theorem dX8_gauge_89 : decode cX8_gauge 89 = .ok (.invokevirtual 168, 3) := by decide +kernel
theorem dX8_gauge_92 : decode cX8_gauge 92 = .ok (.goto 18, 3) := by decide +kernel
theorem dX8_gauge_95 : decode cX8_gauge 95 = .ok (.aload_n 0, 1) := by decide +kernel
theorem dX8_gauge_96 : decode cX8_gauge 96 = .ok (.getfield 40, 3) := by decide +kernel
theorem dX8_gauge_99 : decode cX8_gauge 99 = .ok (.aload_n 0, 1) := by decide +kernel
theorem dX8_gauge_100 : decode cX8_gauge 100 = .ok (.getfield 16, 3) := by decide +kernel
theorem dX8_gauge_103 : decode cX8_gauge 103 = .ok (.iload_n 1, 1) := by decide +kernel
theorem dX8_gauge_104 : decode cX8_gauge 104 = .ok (.iaload, 1) := by decide +kernel
theorem dX8_gauge_105 : decode cX8_gauge 105 = .ok (.dup2, 1) := by decide +kernel
theorem dX8_gauge_106 : decode cX8_gauge 106 = .ok (.iaload, 1) := by decide +kernel
theorem dX8_gauge_107 : decode cX8_gauge 107 = .ok (.iload_n 3, 1) := by decide +kernel
theorem dX8_gauge_108 : decode cX8_gauge 108 = .ok (.isub, 1) := by decide +kernel
theorem dX8_gauge_109 : decode cX8_gauge 109 = .ok (.iastore, 1) := by decide +kernel
theorem dX8_gauge_110 : decode cX8_gauge 110 = .ok (.aload_n 0, 1) := by decide +kernel
theorem dX8_gauge_111 : decode cX8_gauge 111 = .ok (.getfield 22, 3) := by decide +kernel
theorem dX8_gauge_114 : decode cX8_gauge 114 = .ok (.iload_n 1, 1) := by decide +kernel
theorem dX8_gauge_115 : decode cX8_gauge 115 = .ok (.iload_n 2, 1) := by decide +kernel
theorem dX8_gauge_116 : decode cX8_gauge 116 = .ok (.iastore, 1) := by decide +kernel
theorem dX8_gauge_117 : decode cX8_gauge 117 = .ok (.aload_n 0, 1) := by decide +kernel
theorem dX8_gauge_118 : decode cX8_gauge 118 = .ok (.getfield 28, 3) := by decide +kernel
theorem dX8_gauge_121 : decode cX8_gauge 121 = .ok (.iload_n 1, 1) := by decide +kernel
theorem dX8_gauge_122 : decode cX8_gauge 122 = .ok (.iload_n 2, 1) := by decide +kernel
theorem dX8_gauge_123 : decode cX8_gauge 123 = .ok (.iastore, 1) := by decide +kernel
theorem dX8_gauge_124 : decode cX8_gauge 124 = .ok (.iload_n 3, 1) := by decide +kernel
theorem dX8_gauge_125 : decode cX8_gauge 125 = .ok (.ireturn, 1) := by decide +kernel
theorem dX8_washed_0 : decode cX8_washed 0 = .ok (.iload_n 1, 1) := by decide +kernel
theorem dX8_washed_1 : decode cX8_washed 1 = .ok (.bipush 10, 2) := by decide +kernel
theorem dX8_washed_3 : decode cX8_washed 3 = .ok (.if_icmp .le 26, 3) := by decide +kernel
theorem dX8_washed_6 : decode cX8_washed 6 = .ok (.iload_n 1, 1) := by decide +kernel
theorem dX8_washed_7 : decode cX8_washed 7 = .ok (.aload_n 0, 1) := by decide +kernel
theorem dX8_washed_8 : decode cX8_washed 8 = .ok (.getfield 122, 3) := by decide +kernel
theorem dX8_washed_11 : decode cX8_washed 11 = .ok (.isub, 1) := by decide +kernel
theorem dX8_washed_12 : decode cX8_washed 12 = .ok (.bipush 10, 2) := by decide +kernel
theorem dX8_washed_14 : decode cX8_washed 14 = .ok (.if_icmp .ge 8, 3) := by decide +kernel
theorem dX8_washed_17 : decode cX8_washed 17 = .ok (.bipush 10, 2) := by decide +kernel
theorem dX8_washed_19 : decode cX8_washed 19 = .ok (.goto 9, 3) := by decide +kernel
theorem dX8_washed_22 : decode cX8_washed 22 = .ok (.iload_n 1, 1) := by decide +kernel
theorem dX8_washed_23 : decode cX8_washed 23 = .ok (.aload_n 0, 1) := by decide +kernel
theorem dX8_washed_24 : decode cX8_washed 24 = .ok (.getfield 122, 3) := by decide +kernel
theorem dX8_washed_27 : decode cX8_washed 27 = .ok (.isub, 1) := by decide +kernel
theorem dX8_washed_28 : decode cX8_washed 28 = .ok (.ireturn, 1) := by decide +kernel
theorem dX8_washed_29 : decode cX8_washed 29 = .ok (.iload_n 1, 1) := by decide +kernel
theorem dX8_washed_30 : decode cX8_washed 30 = .ok (.aload_n 0, 1) := by decide +kernel
theorem dX8_washed_31 : decode cX8_washed 31 = .ok (.getfield 122, 3) := by decide +kernel
theorem dX8_washed_34 : decode cX8_washed 34 = .ok (.iadd, 1) := by decide +kernel
theorem dX8_washed_35 : decode cX8_washed 35 = .ok (.bipush 10, 2) := by decide +kernel
theorem dX8_washed_37 : decode cX8_washed 37 = .ok (.if_icmp .le 8, 3) := by decide +kernel
theorem dX8_washed_40 : decode cX8_washed 40 = .ok (.bipush 10, 2) := by decide +kernel
theorem dX8_washed_42 : decode cX8_washed 42 = .ok (.goto 9, 3) := by decide +kernel
theorem dX8_washed_45 : decode cX8_washed 45 = .ok (.iload_n 1, 1) := by decide +kernel
theorem dX8_washed_46 : decode cX8_washed 46 = .ok (.aload_n 0, 1) := by decide +kernel
theorem dX8_washed_47 : decode cX8_washed 47 = .ok (.getfield 122, 3) := by decide +kernel
theorem dX8_washed_50 : decode cX8_washed 50 = .ok (.iadd, 1) := by decide +kernel
theorem dX8_washed_51 : decode cX8_washed 51 = .ok (.ireturn, 1) := by decide +kernel
theorem dX8_wash_0 : decode cX8_wash 0 = .ok (.aload_n 0, 1) := by decide +kernel
theorem dX8_wash_1 : decode cX8_wash 1 = .ok (.getfield 119, 3) := by decide +kernel
theorem dX8_wash_4 : decode cX8_wash 4 = .ok (.ifCond .ne 6, 3) := by decide +kernel
theorem dX8_wash_7 : decode cX8_wash 7 = .ok (.bipush (-103), 2) := by decide +kernel
theorem dX8_wash_9 : decode cX8_wash 9 = .ok (.ireturn, 1) := by decide +kernel
theorem dX8_wash_10 : decode cX8_wash 10 = .ok (.iconst 0, 1) := by decide +kernel
theorem dX8_wash_11 : decode cX8_wash 11 = .ok (.istore_n 1, 1) := by decide +kernel
theorem dX8_wash_12 : decode cX8_wash 12 = .ok (.iload_n 1, 1) := by decide +kernel
theorem dX8_wash_13 : decode cX8_wash 13 = .ok (.aload_n 0, 1) := by decide +kernel
theorem dX8_wash_14 : decode cX8_wash 14 = .ok (.getfield 132, 3) := by decide +kernel
theorem dX8_wash_17 : decode cX8_wash 17 = .ok (.if_icmp .ge 25, 3) := by decide +kernel
theorem dX8_wash_20 : decode cX8_wash 20 = .ok (.aload_n 0, 1) := by decide +kernel
theorem dX8_wash_21 : decode cX8_wash 21 = .ok (.getfield 34, 3) := by decide +kernel
theorem dX8_wash_24 : decode cX8_wash 24 = .ok (.iload_n 1, 1) := by decide +kernel
theorem dX8_wash_25 : decode cX8_wash 25 = .ok (.aload_n 0, 1) := by decide +kernel
theorem dX8_wash_26 : decode cX8_wash 26 = .ok (.aload_n 0, 1) := by decide +kernel
theorem dX8_wash_27 : decode cX8_wash 27 = .ok (.getfield 34, 3) := by decide +kernel
theorem dX8_wash_30 : decode cX8_wash 30 = .ok (.iload_n 1, 1) := by decide +kernel
theorem dX8_wash_31 : decode cX8_wash 31 = .ok (.iaload, 1) := by decide +kernel
theorem dX8_wash_32 : decode cX8_wash 32 = .ok (.invokevirtual 178, 3) := by decide +kernel
theorem dX8_wash_35 : decode cX8_wash 35 = .ok (.iastore, 1) := by decide +kernel
theorem dX8_wash_36 : decode cX8_wash 36 = .ok (.iinc 1 1, 3) := by decide +kernel
theorem dX8_wash_39 : decode cX8_wash 39 = .ok (.goto (-27), 3) := by decide +kernel
theorem dX8_wash_42 : decode cX8_wash 42 = .ok (.aload_n 0, 1) := by decide +kernel
theorem dX8_wash_43 : decode cX8_wash 43 = .ok (.invokevirtual 172, 3) := by decide +kernel
theorem dX8_wash_46 : decode cX8_wash 46 = .ok (.ireturn, 1) := by decide +kernel
theorem dX8_openParts_0 : decode cX8_openParts 0 = .ok (.iconst 0, 1) := by decide +kernel
theorem dX8_openParts_1 : decode cX8_openParts 1 = .ok (.istore_n 1, 1) := by decide +kernel
theorem dX8_openParts_2 : decode cX8_openParts 2 = .ok (.iconst 0, 1) := by decide +kernel
theorem dX8_openParts_3 : decode cX8_openParts 3 = .ok (.istore_n 2, 1) := by decide +kernel
theorem dX8_openParts_4 : decode cX8_openParts 4 = .ok (.iload_n 2, 1) := by decide +kernel
theorem dX8_openParts_5 : decode cX8_openParts 5 = .ok (.aload_n 0, 1) := by decide +kernel
theorem dX8_openParts_6 : decode cX8_openParts 6 = .ok (.getfield 119, 3) := by decide +kernel
theorem dX8_openParts_9 : decode cX8_openParts 9 = .ok (.if_icmp .ge 27, 3) := by decide +kernel
theorem dX8_openParts_12 : decode cX8_openParts 12 = .ok (.iload_n 1, 1) := by decide +kernel
theorem dX8_openParts_13 : decode cX8_openParts 13 = .ok (.aload_n 0, 1) := by decide +kernel
theorem dX8_openParts_14 : decode cX8_openParts 14 = .ok (.getfield 16, 3) := by decide +kernel
theorem dX8_openParts_17 : decode cX8_openParts 17 = .ok (.iload_n 2, 1) := by decide +kernel
theorem dX8_openParts_18 : decode cX8_openParts 18 = .ok (.iaload, 1) := by decide +kernel
theorem dX8_openParts_19 : decode cX8_openParts 19 = .ok (.iconst (-1), 1) := by decide +kernel
theorem dX8_openParts_20 : decode cX8_openParts 20 = .ok (.if_icmp .ne 7, 3) := by decide +kernel
theorem dX8_openParts_23 : decode cX8_openParts 23 = .ok (.iconst 1, 1) := by decide +kernel
theorem dX8_openParts_24 : decode cX8_openParts 24 = .ok (.goto 4, 3) := by decide +kernel
