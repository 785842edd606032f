theorem dX8_openParts_27 : decode cX8_openParts 27 = .ok (.iconst 0, 1) := by decide +kernel
theorem dX8_openParts_28 : decode cX8_openParts 28 = .ok (.iadd, 1) := by decide +kernel
theorem dX8_openParts_29 : decode cX8_openParts 29 = .ok (.istore_n 1, 1) := by decide +kernel
theorem dX8_openParts_30 : decode cX8_openParts 30 = .ok (.iinc 2 1, 3) := by decide +kernel
theorem dX8_openParts_33 : decode cX8_openParts 33 = .ok (.goto (-29), 3) := by decide +kernel
theorem dX8_openParts_36 : decode cX8_openParts 36 = .ok (.iload_n 1, 1) := by decide +kernel
theorem dX8_openParts_37 : decode cX8_openParts 37 = .ok (.ireturn, 1) := by decide +kernel
theorem dX8_plans_0 : decode cX8_plans 0 = .ok (.iconst 1, 1) := by decide +kernel
theorem dX8_plans_1 : decode cX8_plans 1 = .ok (.istore_n 1, 1) := by decide +kernel
theorem dX8_plans_2 : decode cX8_plans 2 = .ok (.aload_n 0, 1) := by decide +kernel
theorem dX8_plans_3 : decode cX8_plans 3 = .ok (.invokevirtual 181, 3) := by decide +kernel
theorem dX8_plans_6 : decode cX8_plans 6 = .ok (.istore_n 2, 1) := by decide +kernel
theorem dX8_plans_7 : decode cX8_plans 7 = .ok (.iload_n 2, 1) := by decide +kernel
theorem dX8_plans_8 : decode cX8_plans 8 = .ok (.ifCond .le 21, 3) := by decide +kernel
theorem dX8_plans_11 : decode cX8_plans 11 = .ok (.iload_n 1, 1) := by decide +kernel
theorem dX8_plans_12 : decode cX8_plans 12 = .ok (.aload_n 0, 1) := by decide +kernel
theorem dX8_plans_13 : decode cX8_plans 13 = .ok (.getfield 132, 3) := by decide +kernel
theorem dX8_plans_16 : decode cX8_plans 16 = .ok (.aload_n 0, 1) := by decide +kernel
theorem dX8_plans_17 : decode cX8_plans 17 = .ok (.getfield 132, 3) := by decide +kernel
theorem dX8_plans_20 : decode cX8_plans 20 = .ok (.imul, 1) := by decide +kernel
theorem dX8_plans_21 : decode cX8_plans 21 = .ok (.imul, 1) := by decide +kernel
theorem dX8_plans_22 : decode cX8_plans 22 = .ok (.istore_n 1, 1) := by decide +kernel
theorem dX8_plans_23 : decode cX8_plans 23 = .ok (.iinc 2 (-1), 3) := by decide +kernel
theorem dX8_plans_26 : decode cX8_plans 26 = .ok (.goto (-19), 3) := by decide +kernel
theorem dX8_plans_29 : decode cX8_plans 29 = .ok (.iload_n 1, 1) := by decide +kernel
theorem dX8_plans_30 : decode cX8_plans 30 = .ok (.ireturn, 1) := by decide +kernel
theorem dX8_layPlan_0 : decode cX8_layPlan 0 = .ok (.iload_n 1, 1) := by decide +kernel
theorem dX8_layPlan_1 : decode cX8_layPlan 1 = .ok (.istore_n 2, 1) := by decide +kernel
theorem dX8_layPlan_2 : decode cX8_layPlan 2 = .ok (.iconst 0, 1) := by decide +kernel
theorem dX8_layPlan_3 : decode cX8_layPlan 3 = .ok (.istore_n 3, 1) := by decide +kernel
theorem dX8_layPlan_4 : decode cX8_layPlan 4 = .ok (.iload_n 3, 1) := by decide +kernel
theorem dX8_layPlan_5 : decode cX8_layPlan 5 = .ok (.iconst 3, 1) := by decide +kernel
theorem dX8_layPlan_6 : decode cX8_layPlan 6 = .ok (.if_icmp .ge 16, 3) := by decide +kernel
theorem dX8_layPlan_9 : decode cX8_layPlan 9 = .ok (.aload_n 0, 1) := by decide +kernel
theorem dX8_layPlan_10 : decode cX8_layPlan 10 = .ok (.getfield 53, 3) := by decide +kernel
theorem dX8_layPlan_13 : decode cX8_layPlan 13 = .ok (.iload_n 3, 1) := by decide +kernel
theorem dX8_layPlan_14 : decode cX8_layPlan 14 = .ok (.iconst 0, 1) := by decide +kernel
theorem dX8_layPlan_15 : decode cX8_layPlan 15 = .ok (.iastore, 1) := by decide +kernel
theorem dX8_layPlan_16 : decode cX8_layPlan 16 = .ok (.iinc 3 1, 3) := by decide +kernel
theorem dX8_layPlan_19 : decode cX8_layPlan 19 = .ok (.goto (-15), 3) := by decide +kernel
theorem dX8_layPlan_22 : decode cX8_layPlan 22 = .ok (.aload_n 0, 1) := by decide +kernel
theorem dX8_layPlan_23 : decode cX8_layPlan 23 = .ok (.getfield 119, 3) := by decide +kernel
theorem dX8_layPlan_26 : decode cX8_layPlan 26 = .ok (.iconst 1, 1) := by decide +kernel
theorem dX8_layPlan_27 : decode cX8_layPlan 27 = .ok (.isub, 1) := by decide +kernel
theorem dX8_layPlan_28 : decode cX8_layPlan 28 = .ok (.istore_n 3, 1) := by decide +kernel
theorem dX8_layPlan_29 : decode cX8_layPlan 29 = .ok (.iload_n 3, 1) := by decide +kernel
theorem dX8_layPlan_30 : decode cX8_layPlan 30 = .ok (.ifCond .lt 162, 3) := by decide +kernel
theorem dX8_layPlan_33 : decode cX8_layPlan 33 = .ok (.aload_n 0, 1) := by decide +kernel
theorem dX8_layPlan_34 : decode cX8_layPlan 34 = .ok (.getfield 50, 3) := by decide +kernel
theorem dX8_layPlan_37 : decode cX8_layPlan 37 = .ok (.iload_n 3, 1) := by decide +kernel
theorem dX8_layPlan_38 : decode cX8_layPlan 38 = .ok (.iconst (-1), 1) := by decide +kernel
theorem dX8_layPlan_39 : decode cX8_layPlan 39 = .ok (.iastore, 1) := by decide +kernel
theorem dX8_layPlan_40 : decode cX8_layPlan 40 = .ok (.aload_n 0, 1) := by decide +kernel
theorem dX8_layPlan_41 : decode cX8_layPlan 41 = .ok (.getfield 47, 3) := by decide +kernel
theorem dX8_layPlan_44 : decode cX8_layPlan 44 = .ok (.iload_n 3, 1) := by decide +kernel
theorem dX8_layPlan_45 : decode cX8_layPlan 45 = .ok (.aload_n 0, 1) := by decide +kernel
theorem dX8_layPlan_46 : decode cX8_layPlan 46 = .ok (.iload_n 3, 1) := by decide +kernel
theorem dX8_layPlan_47 : decode cX8_layPlan 47 = .ok (.invokevirtual 138, 3) := by decide +kernel
theorem dX8_layPlan_50 : decode cX8_layPlan 50 = .ok (.iastore, 1) := by decide +kernel
theorem dX8_layPlan_51 : decode cX8_layPlan 51 = .ok (.aload_n 0, 1) := by decide +kernel
theorem dX8_layPlan_52 : decode cX8_layPlan 52 = .ok (.getfield 16, 3) := by decide +kernel
theorem dX8_layPlan_55 : decode cX8_layPlan 55 = .ok (.iload_n 3, 1) := by decide +kernel
theorem dX8_layPlan_56 : decode cX8_layPlan 56 = .ok (.iaload, 1) := by decide +kernel
theorem dX8_layPlan_57 : decode cX8_layPlan 57 = .ok (.iconst (-1), 1) := by decide +kernel
theorem dX8_layPlan_58 : decode cX8_layPlan 58 = .ok (.if_icmp .ne 128, 3) := by decide +kernel
theorem dX8_layPlan_61 : decode cX8_layPlan 61 = .ok (.iload_n 2, 1) := by decide +kernel
theorem dX8_layPlan_62 : decode cX8_layPlan 62 = .ok (.aload_n 0, 1) := by decide +kernel
theorem dX8_layPlan_63 : decode cX8_layPlan 63 = .ok (.getfield 132, 3) := by decide +kernel
theorem dX8_layPlan_66 : decode cX8_layPlan 66 = .ok (.idiv, 1) := by decide +kernel
theorem dX8_layPlan_67 : decode cX8_layPlan 67 = .ok (.aload_n 0, 1) := by decide +kernel
theorem dX8_layPlan_68 : decode cX8_layPlan 68 = .ok (.getfield 132, 3) := by decide +kernel
theorem dX8_layPlan_71 : decode cX8_layPlan 71 = .ok (.irem, 1) := by decide +kernel
theorem dX8_layPlan_72 : decode cX8_layPlan 72 = .ok (.istore 4, 2) := by decide +kernel
theorem dX8_layPlan_74 : decode cX8_layPlan 74 = .ok (.iload_n 2, 1) := by decide +kernel
theorem dX8_layPlan_75 : decode cX8_layPlan 75 = .ok (.aload_n 0, 1) := by decide +kernel
theorem dX8_layPlan_76 : decode cX8_layPlan 76 = .ok (.getfield 132, 3) := by decide +kernel
theorem dX8_layPlan_79 : decode cX8_layPlan 79 = .ok (.irem, 1) := by decide +kernel
theorem dX8_layPlan_80 : decode cX8_layPlan 80 = .ok (.istore 5, 2) := by decide +kernel
theorem dX8_layPlan_82 : decode cX8_layPlan 82 = .ok (.iload_n 2, 1) := by decide +kernel
theorem dX8_layPlan_83 : decode cX8_layPlan 83 = .ok (.aload_n 0, 1) := by decide +kernel
theorem dX8_layPlan_84 : decode cX8_layPlan 84 = .ok (.getfield 132, 3) := by decide +kernel
theorem dX8_layPlan_87 : decode cX8_layPlan 87 = .ok (.aload_n 0, 1) := by decide +kernel
theorem dX8_layPlan_88 : decode cX8_layPlan 88 = .ok (.getfield 132, 3) := by decide +kernel
theorem dX8_layPlan_91 : decode cX8_layPlan 91 = .ok (.imul, 1) := by decide +kernel
theorem dX8_layPlan_92 : decode cX8_layPlan 92 = .ok (.idiv, 1) := by decide +kernel
theorem dX8_layPlan_93 : decode cX8_layPlan 93 = .ok (.istore_n 2, 1) := by decide +kernel
theorem dX8_layPlan_94 : decode cX8_layPlan 94 = .ok (.aload_n 0, 1) := by decide +kernel
theorem dX8_layPlan_95 : decode cX8_layPlan 95 = .ok (.getfield 50, 3) := by decide +kernel
theorem dX8_layPlan_98 : decode cX8_layPlan 98 = .ok (.iload_n 3, 1) := by decide +kernel
theorem dX8_layPlan_99 : decode cX8_layPlan 99 = .ok (.iconst 4, 1) := by decide +kernel
theorem dX8_layPlan_100 : decode cX8_layPlan 100 = .ok (.iload 4, 2) := by decide +kernel
theorem dX8_layPlan_102 : decode cX8_layPlan 102 = .ok (.imul, 1) := by decide +kernel
theorem dX8_layPlan_103 : decode cX8_layPlan 103 = .ok (.iload 5, 2) := by decide +kernel
theorem dX8_layPlan_105 : decode cX8_layPlan 105 = .ok (.iadd, 1) := by decide +kernel
theorem dX8_layPlan_106 : decode cX8_layPlan 106 = .ok (.iastore, 1) := by decide +kernel
theorem dX8_layPlan_107 : decode cX8_layPlan 107 = .ok (.aload_n 0, 1) := by decide +kernel
theorem dX8_layPlan_108 : decode cX8_layPlan 108 = .ok (.getfield 47, 3) := by decide +kernel
theorem dX8_layPlan_111 : decode cX8_layPlan 111 = .ok (.iload_n 3, 1) := by decide +kernel
theorem dX8_layPlan_112 : decode cX8_layPlan 112 = .ok (.aload_n 0, 1) := by decide +kernel
theorem dX8_layPlan_113 : decode cX8_layPlan 113 = .ok (.getfield 34, 3) := by decide +kernel
theorem dX8_layPlan_116 : decode cX8_layPlan 116 = .ok (.iload 4, 2) := by decide +kernel
theorem dX8_layPlan_118 : decode cX8_layPlan 118 = .ok (.iaload, 1) := by decide +kernel
theorem dX8_layPlan_119 : decode cX8_layPlan 119 = .ok (.aload_n 0, 1) := by decide +kernel
theorem dX8_layPlan_120 : decode cX8_layPlan 120 = .ok (.getfield 34, 3) := by decide +kernel
theorem dX8_layPlan_123 : decode cX8_layPlan 123 = .ok (.iload 5, 2) := by decide +kernel
theorem dX8_layPlan_125 : decode cX8_layPlan 125 = .ok (.iaload, 1) := by decide +kernel
theorem dX8_layPlan_126 : decode cX8_layPlan 126 = .ok (.iadd, 1) := by decide +kernel
theorem dX8_layPlan_127 : decode cX8_layPlan 127 = .ok (.iastore, 1) := by decide +kernel
theorem dX8_layPlan_128 : decode cX8_layPlan 128 = .ok (.iload 4, 2) := by decide +kernel
theorem dX8_layPlan_130 : decode cX8_layPlan 130 = .ok (.iload 5, 2) := by decide +kernel
theorem dX8_layPlan_132 : decode cX8_layPlan 132 = .ok (.if_icmp .ne 12, 3) := by decide +kernel
theorem dX8_layPlan_135 : decode cX8_layPlan 135 = .ok (.aload_n 0, 1) := by decide +kernel
theorem dX8_layPlan_136 : decode cX8_layPlan 136 = .ok (.getfield 13, 3) := by decide +kernel
theorem dX8_layPlan_139 : decode cX8_layPlan 139 = .ok (.iload_n 3, 1) := by decide +kernel
theorem dX8_layPlan_140 : decode cX8_layPlan 140 = .ok (.iaload, 1) := by decide +kernel
theorem dX8_layPlan_141 : decode cX8_layPlan 141 = .ok (.goto 12, 3) := by decide +kernel
theorem dX8_layPlan_144 : decode cX8_layPlan 144 = .ok (.aload_n 0, 1) := by decide +kernel
theorem dX8_layPlan_145 : decode cX8_layPlan 145 = .ok (.getfield 13, 3) := by decide +kernel
theorem dX8_layPlan_148 : decode cX8_layPlan 148 = .ok (.iload_n 3, 1) := by decide +kernel
theorem dX8_layPlan_149 : decode cX8_layPlan 149 = .ok (.iaload, 1) := by decide +kernel
theorem dX8_layPlan_150 : decode cX8_layPlan 150 = .ok (.invokestatic 162, 3) := by decide +kernel
theorem dX8_layPlan_153 : decode cX8_layPlan 153 = .ok (.istore 6, 2) := by decide +kernel
theorem dX8_layPlan_155 : decode cX8_layPlan 155 = .ok (.aload_n 0, 1) := by decide +kernel
theorem dX8_layPlan_156 : decode cX8_layPlan 156 = .ok (.getfield 53, 3) := by decide +kernel
theorem dX8_layPlan_159 : decode cX8_layPlan 159 = .ok (.iload 4, 2) := by decide +kernel
theorem dX8_layPlan_161 : decode cX8_layPlan 161 = .ok (.dup2, 1) := by decide +kernel
theorem dX8_layPlan_162 : decode cX8_layPlan 162 = .ok (.iaload, 1) := by decide +kernel
theorem dX8_layPlan_163 : decode cX8_layPlan 163 = .ok (.iload 6, 2) := by decide +kernel
theorem dX8_layPlan_165 : decode cX8_layPlan 165 = .ok (.iadd, 1) := by decide +kernel
theorem dX8_layPlan_166 : decode cX8_layPlan 166 = .ok (.iastore, 1) := by decide +kernel
theorem dX8_layPlan_167 : decode cX8_layPlan 167 = .ok (.aload_n 0, 1) := by decide +kernel
theorem dX8_layPlan_168 : decode cX8_layPlan 168 = .ok (.getfield 53, 3) := by decide +kernel
theorem dX8_layPlan_171 : decode cX8_layPlan 171 = .ok (.iload 5, 2) := by decide +kernel
theorem dX8_layPlan_173 : decode cX8_layPlan 173 = .ok (.dup2, 1) := by decide +kernel
theorem dX8_layPlan_174 : decode cX8_layPlan 174 = .ok (.iaload, 1) := by decide +kernel
theorem dX8_layPlan_175 : decode cX8_layPlan 175 = .ok (.aload_n 0, 1) := by decide +kernel
theorem dX8_layPlan_176 : decode cX8_layPlan 176 = .ok (.getfield 13, 3) := by decide +kernel
theorem dX8_layPlan_179 : decode cX8_layPlan 179 = .ok (.iload_n 3, 1) := by decide +kernel
theorem dX8_layPlan_180 : decode cX8_layPlan 180 = .ok (.iaload, 1) := by decide +kernel
theorem dX8_layPlan_181 : decode cX8_layPlan 181 = .ok (.iload 6, 2) := by decide +kernel
theorem dX8_layPlan_183 : decode cX8_layPlan 183 = .ok (.isub, 1) := by decide +kernel
theorem dX8_layPlan_184 : decode cX8_layPlan 184 = .ok (.iadd, 1) := by decide +kernel
theorem dX8_layPlan_185 : decode cX8_layPlan 185 = .ok (.iastore, 1) := by decide +kernel
theorem dX8_layPlan_186 : decode cX8_layPlan 186 = .ok (.iinc 3 (-1), 3) := by decide +kernel
theorem dX8_layPlan_189 : decode cX8_layPlan 189 = .ok (.goto (-160), 3) := by decide +kernel
theorem dX8_layPlan_192 : decode cX8_layPlan 192 = .ok (.iconst 1, 1) := by decide +kernel
theorem dX8_layPlan_193 : decode cX8_layPlan 193 = .ok (.istore_n 3, 1) := by decide +kernel
theorem dX8_layPlan_194 : decode cX8_layPlan 194 = .ok (.iconst 0, 1) := by decide +kernel
theorem dX8_layPlan_195 : decode cX8_layPlan 195 = .ok (.istore 4, 2) := by decide +kernel
theorem dX8_layPlan_197 : decode cX8_layPlan 197 = .ok (.iload 4, 2) := by decide +kernel
theorem dX8_layPlan_199 : decode cX8_layPlan 199 = .ok (.aload_n 0, 1) := by decide +kernel
theorem dX8_layPlan_200 : decode cX8_layPlan 200 = .ok (.getfield 132, 3) := by decide +kernel
theorem dX8_layPlan_203 : decode cX8_layPlan 203 = .ok (.if_icmp .ge 35, 3) := by decide +kernel
theorem dX8_layPlan_206 : decode cX8_layPlan 206 = .ok (.iload_n 3, 1) := by decide +kernel
theorem dX8_layPlan_207 : decode cX8_layPlan 207 = .ok (.ifCond .eq 23, 3) := by decide +kernel
theorem dX8_layPlan_210 : decode cX8_layPlan 210 = .ok (.aload_n 0, 1) := by decide +kernel
theorem dX8_layPlan_211 : decode cX8_layPlan 211 = .ok (.getfield 53, 3) := by decide +kernel
theorem dX8_layPlan_214 : decode cX8_layPlan 214 = .ok (.iload 4, 2) := by decide +kernel
theorem dX8_layPlan_216 : decode cX8_layPlan 216 = .ok (.iaload, 1) := by decide +kernel
theorem dX8_layPlan_217 : decode cX8_layPlan 217 = .ok (.aload_n 0, 1) := by decide +kernel
theorem dX8_layPlan_218 : decode cX8_layPlan 218 = .ok (.iload 4, 2) := by decide +kernel
theorem dX8_layPlan_220 : decode cX8_layPlan 220 = .ok (.invokevirtual 165, 3) := by decide +kernel
theorem dX8_layPlan_223 : decode cX8_layPlan 223 = .ok (.if_icmp .gt 7, 3) := by decide +kernel
theorem dX8_layPlan_226 : decode cX8_layPlan 226 = .ok (.iconst 1, 1) := by decide +kernel
theorem dX8_layPlan_227 : decode cX8_layPlan 227 = .ok (.goto 4, 3) := by decide +kernel
theorem dX8_layPlan_230 : decode cX8_layPlan 230 = .ok (.iconst 0, 1) := by decide +kernel
theorem dX8_layPlan_231 : decode cX8_layPlan 231 = .ok (.istore_n 3, 1) := by decide +kernel
theorem dX8_layPlan_232 : decode cX8_layPlan 232 = .ok (.iinc 4 1, 3) := by decide +kernel
theorem dX8_layPlan_235 : decode cX8_layPlan 235 = .ok (.goto (-38), 3) := by decide +kernel
theorem dX8_layPlan_238 : decode cX8_layPlan 238 = .ok (.iload_n 3, 1) := by decide +kernel
theorem dX8_layPlan_239 : decode cX8_layPlan 239 = .ok (.ireturn, 1) := by decide +kernel
theorem dX8_planSeen_0 : decode cX8_planSeen 0 = .ok (.iconst 0, 1) := by decide +kernel
theorem dX8_planSeen_1 : decode cX8_planSeen 1 = .ok (.istore_n 1, 1) := by decide +kernel
theorem dX8_planSeen_2 : decode cX8_planSeen 2 = .ok (.iconst 0, 1) := by decide +kernel
theorem dX8_planSeen_3 : decode cX8_planSeen 3 = .ok (.istore_n 2, 1) := by decide +kernel
theorem dX8_planSeen_4 : decode cX8_planSeen 4 = .ok (.iload_n 2, 1) := by decide +kernel
theorem dX8_planSeen_5 : decode cX8_planSeen 5 = .ok (.iconst 1, 1) := by decide +kernel
theorem dX8_planSeen_6 : decode cX8_planSeen 6 = .ok (.iadd, 1) := by decide +kernel
theorem dX8_planSeen_7 : decode cX8_planSeen 7 = .ok (.aload_n 0, 1) := by decide +kernel
theorem dX8_planSeen_8 : decode cX8_planSeen 8 = .ok (.getfield 119, 3) := by decide +kernel
theorem dX8_planSeen_11 : decode cX8_planSeen 11 = .ok (.if_icmp .ge 31, 3) := by decide +kernel
theorem dX8_planSeen_14 : decode cX8_planSeen 14 = .ok (.iload_n 1, 1) := by decide +kernel
theorem dX8_planSeen_15 : decode cX8_planSeen 15 = .ok (.aload_n 0, 1) := by decide +kernel
theorem dX8_planSeen_16 : decode cX8_planSeen 16 = .ok (.iload_n 2, 1) := by decide +kernel
theorem dX8_planSeen_17 : decode cX8_planSeen 17 = .ok (.aload_n 0, 1) := by decide +kernel
theorem dX8_planSeen_18 : decode cX8_planSeen 18 = .ok (.getfield 47, 3) := by decide +kernel
theorem dX8_planSeen_21 : decode cX8_planSeen 21 = .ok (.iload_n 2, 1) := by decide +kernel
theorem dX8_planSeen_22 : decode cX8_planSeen 22 = .ok (.iaload, 1) := by decide +kernel
theorem dX8_planSeen_23 : decode cX8_planSeen 23 = .ok (.aload_n 0, 1) := by decide +kernel
theorem dX8_planSeen_24 : decode cX8_planSeen 24 = .ok (.getfield 47, 3) := by decide +kernel
theorem dX8_planSeen_27 : decode cX8_planSeen 27 = .ok (.iload_n 2, 1) := by decide +kernel
theorem dX8_planSeen_28 : decode cX8_planSeen 28 = .ok (.iconst 1, 1) := by decide +kernel
theorem dX8_planSeen_29 : decode cX8_planSeen 29 = .ok (.iadd, 1) := by decide +kernel
theorem dX8_planSeen_30 : decode cX8_planSeen 30 = .ok (.iaload, 1) := by decide +kernel
theorem dX8_planSeen_31 : decode cX8_planSeen 31 = .ok (.invokevirtual 141, 3) := by decide +kernel
theorem dX8_planSeen_34 : decode cX8_planSeen 34 = .ok (.iadd, 1) := by decide +kernel
theorem dX8_planSeen_35 : decode cX8_planSeen 35 = .ok (.istore_n 1, 1) := by decide +kernel
theorem dX8_planSeen_36 : decode cX8_planSeen 36 = .ok (.iinc 2 1, 3) := by decide +kernel
theorem dX8_planSeen_39 : decode cX8_planSeen 39 = .ok (.goto (-35), 3) := by decide +kernel
theorem dX8_planSeen_42 : decode cX8_planSeen 42 = .ok (.iload_n 1, 1) := by decide +kernel
theorem dX8_planSeen_43 : decode cX8_planSeen 43 = .ok (.ireturn, 1) := by decide +kernel
theorem dX8_leastNow_0 : decode cX8_leastNow 0 = .ok (.iconst (-1), 1) := by decide +kernel
theorem dX8_leastNow_1 : decode cX8_leastNow 1 = .ok (.istore_n 2, 1) := by decide +kernel
theorem dX8_leastNow_2 : decode cX8_leastNow 2 = .ok (.ldc 184, 2) := by decide +kernel
theorem dX8_leastNow_4 : decode cX8_leastNow 4 = .ok (.istore_n 3, 1) := by decide +kernel
theorem dX8_leastNow_5 : decode cX8_leastNow 5 = .ok (.iconst 0, 1) := by decide +kernel
theorem dX8_leastNow_6 : decode cX8_leastNow 6 = .ok (.istore 4, 2) := by decide +kernel
theorem dX8_leastNow_8 : decode cX8_leastNow 8 = .ok (.iload 4, 2) := by decide +kernel
theorem dX8_leastNow_10 : decode cX8_leastNow 10 = .ok (.aload_n 0, 1) := by decide +kernel
theorem dX8_leastNow_11 : decode cX8_leastNow 11 = .ok (.invokevirtual 185, 3) := by decide +kernel
theorem dX8_leastNow_14 : decode cX8_leastNow 14 = .ok (.if_icmp .ge 50, 3) := by decide +kernel
theorem dX8_leastNow_17 : decode cX8_leastNow 17 = .ok (.aload_n 0, 1) := by decide +kernel
theorem dX8_leastNow_18 : decode cX8_leastNow 18 = .ok (.iload 4, 2) := by decide +kernel
theorem dX8_leastNow_20 : decode cX8_leastNow 20 = .ok (.invokevirtual 188, 3) := by decide +kernel
theorem dX8_leastNow_23 : decode cX8_leastNow 23 = .ok (.ifCond .eq 35, 3) := by decide +kernel
theorem dX8_leastNow_26 : decode cX8_leastNow 26 = .ok (.aload_n 0, 1) := by decide +kernel
theorem dX8_leastNow_27 : decode cX8_leastNow 27 = .ok (.invokevirtual 191, 3) := by decide +kernel
theorem dX8_leastNow_30 : decode cX8_leastNow 30 = .ok (.istore 5, 2) := by decide +kernel
theorem dX8_leastNow_32 : decode cX8_leastNow 32 = .ok (.iload 5, 2) := by decide +kernel
theorem dX8_leastNow_34 : decode cX8_leastNow 34 = .ok (.iload_n 3, 1) := by decide +kernel
theorem dX8_leastNow_35 : decode cX8_leastNow 35 = .ok (.if_icmp .ge 8, 3) := by decide +kernel
theorem dX8_leastNow_38 : decode cX8_leastNow 38 = .ok (.iload 4, 2) := by decide +kernel
theorem dX8_leastNow_40 : decode cX8_leastNow 40 = .ok (.goto 4, 3) := by decide +kernel
theorem dX8_leastNow_43 : decode cX8_leastNow 43 = .ok (.iload_n 2, 1) := by decide +kernel
theorem dX8_leastNow_44 : decode cX8_leastNow 44 = .ok (.istore_n 2, 1) := by decide +kernel
theorem dX8_leastNow_45 : decode cX8_leastNow 45 = .ok (.iload 5, 2) := by decide +kernel
theorem dX8_leastNow_47 : decode cX8_leastNow 47 = .ok (.iload_n 3, 1) := by decide +kernel
theorem dX8_leastNow_48 : decode cX8_leastNow 48 = .ok (.if_icmp .ge 8, 3) := by decide +kernel
theorem dX8_leastNow_51 : decode cX8_leastNow 51 = .ok (.iload 5, 2) := by decide +kernel
theorem dX8_leastNow_53 : decode cX8_leastNow 53 = .ok (.goto 4, 3) := by decide +kernel
theorem dX8_leastNow_56 : decode cX8_leastNow 56 = .ok (.iload_n 3, 1) := by decide +kernel
theorem dX8_leastNow_57 : decode cX8_leastNow 57 = .ok (.istore_n 3, 1) := by decide +kernel
theorem dX8_leastNow_58 : decode cX8_leastNow 58 = .ok (.iinc 4 1, 3) := by decide +kernel
theorem dX8_leastNow_61 : decode cX8_leastNow 61 = .ok (.goto (-53), 3) := by decide +kernel
theorem dX8_leastNow_64 : decode cX8_leastNow 64 = .ok (.iload_n 2, 1) := by decide +kernel
theorem dX8_leastNow_65 : decode cX8_leastNow 65 = .ok (.iconst (-1), 1) := by decide +kernel
theorem dX8_leastNow_66 : decode cX8_leastNow 66 = .ok (.if_icmp .eq 7, 3) := by decide +kernel
theorem dX8_leastNow_69 : decode cX8_leastNow 69 = .ok (.iload_n 1, 1) := by decide +kernel
theorem dX8_leastNow_70 : decode cX8_leastNow 70 = .ok (.ifCond .ne 14, 3) := by decide +kernel
theorem dX8_leastNow_73 : decode cX8_leastNow 73 = .ok (.iload_n 2, 1) := by decide +kernel
theorem dX8_leastNow_74 : decode cX8_leastNow 74 = .ok (.iconst (-1), 1) := by decide +kernel
theorem dX8_leastNow_75 : decode cX8_leastNow 75 = .ok (.if_icmp .ne 7, 3) := by decide +kernel
theorem dX8_leastNow_78 : decode cX8_leastNow 78 = .ok (.iconst (-1), 1) := by decide +kernel
theorem dX8_leastNow_79 : decode cX8_leastNow 79 = .ok (.goto 4, 3) := by decide +kernel
theorem dX8_leastNow_82 : decode cX8_leastNow 82 = .ok (.iload_n 3, 1) := by decide +kernel
theorem dX8_leastNow_83 : decode cX8_leastNow 83 = .ok (.ireturn, 1) := by decide +kernel
theorem dX8_leastNow_84 : decode cX8_leastNow 84 = .ok (.aload_n 0, 1) := by decide +kernel
theorem dX8_leastNow_85 : decode cX8_leastNow 85 = .ok (.iload_n 2, 1) := by decide +kernel
theorem dX8_leastNow_86 : decode cX8_leastNow 86 = .ok (.invokevirtual 188, 3) := by decide +kernel
theorem dX8_leastNow_89 : decode cX8_leastNow 89 = .ok (.pop, 1) := by decide +kernel
theorem dX8_leastNow_90 : decode cX8_leastNow 90 = .ok (.iload_n 1, 1) := by decide +kernel
theorem dX8_leastNow_91 : decode cX8_leastNow 91 = .ok (.bipush 10, 2) := by decide +kernel
theorem dX8_leastNow_93 : decode cX8_leastNow 93 = .ok (.isub, 1) := by decide +kernel
theorem dX8_leastNow_94 : decode cX8_leastNow 94 = .ok (.aload_n 0, 1) := by decide +kernel
theorem dX8_leastNow_95 : decode cX8_leastNow 95 = .ok (.getfield 119, 3) := by decide +kernel
theorem dX8_leastNow_98 : decode cX8_leastNow 98 = .ok (.if_icmp .ge 15, 3) := by decide +kernel
theorem dX8_leastNow_101 : decode cX8_leastNow 101 = .ok (.aload_n 0, 1) := by decide +kernel
theorem dX8_leastNow_102 : decode cX8_leastNow 102 = .ok (.getfield 50, 3) := by decide +kernel
theorem dX8_leastNow_105 : decode cX8_leastNow 105 = .ok (.iload_n 1, 1) := by decide +kernel
theorem dX8_leastNow_106 : decode cX8_leastNow 106 = .ok (.bipush 10, 2) := by decide +kernel
theorem dX8_leastNow_108 : decode cX8_leastNow 108 = .ok (.isub, 1) := by decide +kernel
theorem dX8_leastNow_109 : decode cX8_leastNow 109 = .ok (.iaload, 1) := by decide +kernel
theorem dX8_leastNow_110 : decode cX8_leastNow 110 = .ok (.goto 4, 3) := by decide +kernel
theorem dX8_leastNow_113 : decode cX8_leastNow 113 = .ok (.iconst (-1), 1) := by decide +kernel
theorem dX8_leastNow_114 : decode cX8_leastNow 114 = .ok (.ireturn, 1) := by decide +kernel
theorem dX8_least_0 : decode cX8_least 0 = .ok (.iload_n 1, 1) := by decide +kernel
theorem dX8_least_1 : decode cX8_least 1 = .ok (.ifCond .eq 17, 3) := by decide +kernel
theorem dX8_least_4 : decode cX8_least 4 = .ok (.iload_n 1, 1) := by decide +kernel
theorem dX8_least_5 : decode cX8_least 5 = .ok (.bipush 10, 2) := by decide +kernel
theorem dX8_least_7 : decode cX8_least 7 = .ok (.bipush 14, 2) := by decide +kernel
theorem dX8_least_9 : decode cX8_least 9 = .ok (.invokestatic 86, 3) := by decide +kernel
theorem dX8_least_12 : decode cX8_least 12 = .ok (.ifCond .ne 6, 3) := by decide +kernel
theorem dX8_least_15 : decode cX8_least 15 = .ok (.bipush (-102), 2) := by decide +kernel
theorem dX8_least_17 : decode cX8_least 17 = .ok (.ireturn, 1) := by decide +kernel
theorem dX8_least_18 : decode cX8_least 18 = .ok (.aload_n 0, 1) := by decide +kernel
theorem dX8_least_19 : decode cX8_least 19 = .ok (.getfield 119, 3) := by decide +kernel
theorem dX8_least_22 : decode cX8_least 22 = .ok (.ifCond .eq 12, 3) := by decide +kernel
theorem dX8_least_25 : decode cX8_least 25 = .ok (.aload_n 0, 1) := by decide +kernel
theorem dX8_least_26 : decode cX8_least 26 = .ok (.getfield 194, 3) := by decide +kernel
theorem dX8_least_29 : decode cX8_least 29 = .ok (.bipush 20, 2) := by decide +kernel
theorem dX8_least_31 : decode cX8_least 31 = .ok (.if_icmp .ne 6, 3) := by decide +kernel
theorem dX8_least_34 : decode cX8_least 34 = .ok (.bipush (-103), 2) := by decide +kernel
theorem dX8_least_36 : decode cX8_least 36 = .ok (.ireturn, 1) := by decide +kernel
theorem dX8_least_37 : decode cX8_least 37 = .ok (.aload_n 0, 1) := by decide +kernel
theorem dX8_least_38 : decode cX8_least 38 = .ok (.dup, 1) := by decide +kernel
theorem dX8_least_39 : decode cX8_least 39 = .ok (.getfield 194, 3) := by decide +kernel
theorem dX8_least_42 : decode cX8_least 42 = .ok (.iconst 1, 1) := by decide +kernel
theorem dX8_least_43 : decode cX8_least 43 = .ok (.iadd, 1) := by decide +kernel
theorem dX8_least_44 : decode cX8_least 44 = .ok (.putfield 194, 3) := by decide +kernel
theorem dX8_least_47 : decode cX8_least 47 = .ok (.aload_n 0, 1) := by decide +kernel
theorem dX8_least_48 : decode cX8_least 48 = .ok (.iload_n 1, 1) := by decide +kernel
theorem dX8_least_49 : decode cX8_least 49 = .ok (.invokevirtual 197, 3) := by decide +kernel
theorem dX8_least_52 : decode cX8_least 52 = .ok (.ireturn, 1) := by decide +kernel
theorem dX8_wantedNow_0 : decode cX8_wantedNow 0 = .ok (.iconst 0, 1) := by decide +kernel
theorem dX8_wantedNow_1 : decode cX8_wantedNow 1 = .ok (.istore_n 3, 1) := by decide +kernel
theorem dX8_wantedNow_2 : decode cX8_wantedNow 2 = .ok (.iconst 0, 1) := by decide +kernel
theorem dX8_wantedNow_3 : decode cX8_wantedNow 3 = .ok (.istore 4, 2) := by decide +kernel
theorem dX8_wantedNow_5 : decode cX8_wantedNow 5 = .ok (.iconst 0, 1) := by decide +kernel
theorem dX8_wantedNow_6 : decode cX8_wantedNow 6 = .ok (.istore 5, 2) := by decide +kernel
theorem dX8_wantedNow_8 : decode cX8_wantedNow 8 = .ok (.iconst 0, 1) := by decide +kernel
theorem dX8_wantedNow_9 : decode cX8_wantedNow 9 = .ok (.istore 6, 2) := by decide +kernel
theorem dX8_wantedNow_11 : decode cX8_wantedNow 11 = .ok (.iload 6, 2) := by decide +kernel
theorem dX8_wantedNow_13 : decode cX8_wantedNow 13 = .ok (.aload_n 0, 1) := by decide +kernel
theorem dX8_wantedNow_14 : decode cX8_wantedNow 14 = .ok (.getfield 119, 3) := by decide +kernel
theorem dX8_wantedNow_17 : decode cX8_wantedNow 17 = .ok (.if_icmp .ge 88, 3) := by decide +kernel
theorem dX8_wantedNow_20 : decode cX8_wantedNow 20 = .ok (.iload_n 3, 1) := by decide +kernel
theorem dX8_wantedNow_21 : decode cX8_wantedNow 21 = .ok (.aload_n 0, 1) := by decide +kernel
theorem dX8_wantedNow_22 : decode cX8_wantedNow 22 = .ok (.getfield 16, 3) := by decide +kernel
theorem dX8_wantedNow_25 : decode cX8_wantedNow 25 = .ok (.iload 6, 2) := by decide +kernel
theorem dX8_wantedNow_27 : decode cX8_wantedNow 27 = .ok (.iaload, 1) := by decide +kernel
theorem dX8_wantedNow_28 : decode cX8_wantedNow 28 = .ok (.iconst (-1), 1) := by decide +kernel
theorem dX8_wantedNow_29 : decode cX8_wantedNow 29 = .ok (.if_icmp .ne 13, 3) := by decide +kernel
theorem dX8_wantedNow_32 : decode cX8_wantedNow 32 = .ok (.aload_n 0, 1) := by decide +kernel
theorem dX8_wantedNow_33 : decode cX8_wantedNow 33 = .ok (.getfield 13, 3) := by decide +kernel
theorem dX8_wantedNow_36 : decode cX8_wantedNow 36 = .ok (.iload 6, 2) := by decide +kernel
theorem dX8_wantedNow_38 : decode cX8_wantedNow 38 = .ok (.iaload, 1) := by decide +kernel
theorem dX8_wantedNow_39 : decode cX8_wantedNow 39 = .ok (.goto 4, 3) := by decide +kernel
theorem dX8_wantedNow_42 : decode cX8_wantedNow 42 = .ok (.iconst 0, 1) := by decide +kernel
theorem dX8_wantedNow_43 : decode cX8_wantedNow 43 = .ok (.iadd, 1) := by decide +kernel
theorem dX8_wantedNow_44 : decode cX8_wantedNow 44 = .ok (.istore_n 3, 1) := by decide +kernel
theorem dX8_wantedNow_45 : decode cX8_wantedNow 45 = .ok (.iload 4, 2) := by decide +kernel
theorem dX8_wantedNow_47 : decode cX8_wantedNow 47 = .ok (.aload_n 0, 1) := by decide +kernel
theorem dX8_wantedNow_48 : decode cX8_wantedNow 48 = .ok (.getfield 28, 3) := by decide +kernel
theorem dX8_wantedNow_51 : decode cX8_wantedNow 51 = .ok (.iload 6, 2) := by decide +kernel
theorem dX8_wantedNow_53 : decode cX8_wantedNow 53 = .ok (.iaload, 1) := by decide +kernel
theorem dX8_wantedNow_54 : decode cX8_wantedNow 54 = .ok (.iconst (-1), 1) := by decide +kernel
theorem dX8_wantedNow_55 : decode cX8_wantedNow 55 = .ok (.if_icmp .ne 7, 3) := by decide +kernel
theorem dX8_wantedNow_58 : decode cX8_wantedNow 58 = .ok (.iconst 0, 1) := by decide +kernel
theorem dX8_wantedNow_59 : decode cX8_wantedNow 59 = .ok (.goto 10, 3) := by decide +kernel
theorem dX8_wantedNow_62 : decode cX8_wantedNow 62 = .ok (.aload_n 0, 1) := by decide +kernel
theorem dX8_wantedNow_63 : decode cX8_wantedNow 63 = .ok (.getfield 28, 3) := by decide +kernel
theorem dX8_wantedNow_66 : decode cX8_wantedNow 66 = .ok (.iload 6, 2) := by decide +kernel
theorem dX8_wantedNow_68 : decode cX8_wantedNow 68 = .ok (.iaload, 1) := by decide +kernel
theorem dX8_wantedNow_69 : decode cX8_wantedNow 69 = .ok (.iadd, 1) := by decide +kernel
theorem dX8_wantedNow_70 : decode cX8_wantedNow 70 = .ok (.istore 4, 2) := by decide +kernel
theorem dX8_wantedNow_72 : decode cX8_wantedNow 72 = .ok (.iload 5, 2) := by decide +kernel
theorem dX8_wantedNow_74 : decode cX8_wantedNow 74 = .ok (.aload_n 0, 1) := by decide +kernel
theorem dX8_wantedNow_75 : decode cX8_wantedNow 75 = .ok (.getfield 28, 3) := by decide +kernel
theorem dX8_wantedNow_78 : decode cX8_wantedNow 78 = .ok (.iload 6, 2) := by decide +kernel
theorem dX8_wantedNow_80 : decode cX8_wantedNow 80 = .ok (.iaload, 1) := by decide +kernel
theorem dX8_wantedNow_81 : decode cX8_wantedNow 81 = .ok (.iconst (-1), 1) := by decide +kernel
theorem dX8_wantedNow_82 : decode cX8_wantedNow 82 = .ok (.if_icmp .ne 7, 3) := by decide +kernel
theorem dX8_wantedNow_85 : decode cX8_wantedNow 85 = .ok (.iconst 0, 1) := by decide +kernel
theorem dX8_wantedNow_86 : decode cX8_wantedNow 86 = .ok (.goto 10, 3) := by decide +kernel
theorem dX8_wantedNow_89 : decode cX8_wantedNow 89 = .ok (.aload_n 0, 1) := by decide +kernel
theorem dX8_wantedNow_90 : decode cX8_wantedNow 90 = .ok (.getfield 13, 3) := by decide +kernel
theorem dX8_wantedNow_93 : decode cX8_wantedNow 93 = .ok (.iload 6, 2) := by decide +kernel
theorem dX8_wantedNow_95 : decode cX8_wantedNow 95 = .ok (.iaload, 1) := by decide +kernel
theorem dX8_wantedNow_96 : decode cX8_wantedNow 96 = .ok (.iadd, 1) := by decide +kernel
theorem dX8_wantedNow_97 : decode cX8_wantedNow 97 = .ok (.istore 5, 2) := by decide +kernel
theorem dX8_wantedNow_99 : decode cX8_wantedNow 99 = .ok (.iinc 6 1, 3) := by decide +kernel
theorem dX8_wantedNow_102 : decode cX8_wantedNow 102 = .ok (.goto (-91), 3) := by decide +kernel
theorem dX8_wantedNow_105 : decode cX8_wantedNow 105 = .ok (.iload_n 2, 1) := by decide +kernel
theorem dX8_wantedNow_106 : decode cX8_wantedNow 106 = .ok (.ifCond .eq 8, 3) := by decide +kernel
theorem dX8_wantedNow_109 : decode cX8_wantedNow 109 = .ok (.iload 5, 2) := by decide +kernel
theorem dX8_wantedNow_111 : decode cX8_wantedNow 111 = .ok (.ifCond .ne 7, 3) := by decide +kernel
theorem dX8_wantedNow_114 : decode cX8_wantedNow 114 = .ok (.iload_n 3, 1) := by decide +kernel
theorem dX8_wantedNow_115 : decode cX8_wantedNow 115 = .ok (.goto 15, 3) := by decide +kernel
theorem dX8_wantedNow_118 : decode cX8_wantedNow 118 = .ok (.iload_n 3, 1) := by decide +kernel
theorem dX8_wantedNow_119 : decode cX8_wantedNow 119 = .ok (.iload 4, 2) := by decide +kernel
theorem dX8_wantedNow_121 : decode cX8_wantedNow 121 = .ok (.imul, 1) := by decide +kernel
theorem dX8_wantedNow_122 : decode cX8_wantedNow 122 = .ok (.iload 5, 2) := by decide +kernel
theorem dX8_wantedNow_124 : decode cX8_wantedNow 124 = .ok (.iadd, 1) := by decide +kernel
theorem dX8_wantedNow_125 : decode cX8_wantedNow 125 = .ok (.iconst 1, 1) := by decide +kernel
theorem dX8_wantedNow_126 : decode cX8_wantedNow 126 = .ok (.isub, 1) := by decide +kernel
theorem dX8_wantedNow_127 : decode cX8_wantedNow 127 = .ok (.iload 5, 2) := by decide +kernel
theorem dX8_wantedNow_129 : decode cX8_wantedNow 129 = .ok (.idiv, 1) := by decide +kernel
theorem dX8_wantedNow_130 : decode cX8_wantedNow 130 = .ok (.istore 6, 2) := by decide +kernel
theorem dX8_wantedNow_132 : decode cX8_wantedNow 132 = .ok (.iload 6, 2) := by decide +kernel
theorem dX8_wantedNow_134 : decode cX8_wantedNow 134 = .ok (.aload_n 0, 1) := by decide +kernel
theorem dX8_wantedNow_135 : decode cX8_wantedNow 135 = .ok (.iload_n 1, 1) := by decide +kernel
theorem dX8_wantedNow_136 : decode cX8_wantedNow 136 = .ok (.invokevirtual 165, 3) := by decide +kernel
theorem dX8_wantedNow_139 : decode cX8_wantedNow 139 = .ok (.isub, 1) := by decide +kernel
theorem dX8_wantedNow_140 : decode cX8_wantedNow 140 = .ok (.istore 7, 2) := by decide +kernel
theorem dX8_wantedNow_142 : decode cX8_wantedNow 142 = .ok (.iload 7, 2) := by decide +kernel
theorem dX8_wantedNow_144 : decode cX8_wantedNow 144 = .ok (.ifCond .gt 7, 3) := by decide +kernel
theorem dX8_wantedNow_147 : decode cX8_wantedNow 147 = .ok (.iconst 0, 1) := by decide +kernel
theorem dX8_wantedNow_148 : decode cX8_wantedNow 148 = .ok (.goto 11, 3) := by decide +kernel
theorem dX8_wantedNow_151 : decode cX8_wantedNow 151 = .ok (.iload 7, 2) := by decide +kernel
theorem dX8_wantedNow_153 : decode cX8_wantedNow 153 = .ok (.iconst 4, 1) := by decide +kernel
theorem dX8_wantedNow_154 : decode cX8_wantedNow 154 = .ok (.iadd, 1) := by decide +kernel
theorem dX8_wantedNow_155 : decode cX8_wantedNow 155 = .ok (.iconst 1, 1) := by decide +kernel
theorem dX8_wantedNow_156 : decode cX8_wantedNow 156 = .ok (.isub, 1) := by decide +kernel
theorem dX8_wantedNow_157 : decode cX8_wantedNow 157 = .ok (.iconst 4, 1) := by decide +kernel
theorem dX8_wantedNow_158 : decode cX8_wantedNow 158 = .ok (.idiv, 1) := by decide +kernel
theorem dX8_wantedNow_159 : decode cX8_wantedNow 159 = .ok (.ireturn, 1) := by decide +kernel
theorem dX8_wanted_0 : decode cX8_wanted 0 = .ok (.aload_n 0, 1) := by decide +kernel
theorem dX8_wanted_1 : decode cX8_wanted 1 = .ok (.iload_n 1, 1) := by decide +kernel
theorem dX8_wanted_2 : decode cX8_wanted 2 = .ok (.invokevirtual 156, 3) := by decide +kernel
theorem dX8_wanted_5 : decode cX8_wanted 5 = .ok (.ifCond .ne 6, 3) := by decide +kernel
theorem dX8_wanted_8 : decode cX8_wanted 8 = .ok (.bipush (-101), 2) := by decide +kernel
theorem dX8_wanted_10 : decode cX8_wanted 10 = .ok (.ireturn, 1) := by decide +kernel
theorem dX8_wanted_11 : decode cX8_wanted 11 = .ok (.iload_n 2, 1) := by decide +kernel
theorem dX8_wanted_12 : decode cX8_wanted 12 = .ok (.iconst 0, 1) := by decide +kernel
theorem dX8_wanted_13 : decode cX8_wanted 13 = .ok (.iconst 1, 1) := by decide +kernel
theorem dX8_wanted_14 : decode cX8_wanted 14 = .ok (.invokestatic 86, 3) := by decide +kernel
theorem dX8_wanted_17 : decode cX8_wanted 17 = .ok (.ifCond .eq 12, 3) := by decide +kernel
theorem dX8_wanted_20 : decode cX8_wanted 20 = .ok (.aload_n 0, 1) := by decide +kernel
theorem dX8_wanted_21 : decode cX8_wanted 21 = .ok (.iload_n 1, 1) := by decide +kernel
theorem dX8_wanted_22 : decode cX8_wanted 22 = .ok (.iload_n 2, 1) := by decide +kernel
theorem dX8_wanted_23 : decode cX8_wanted 23 = .ok (.invokevirtual 200, 3) := by decide +kernel
theorem dX8_wanted_26 : decode cX8_wanted 26 = .ok (.goto 5, 3) := by decide +kernel
theorem dX8_wanted_29 : decode cX8_wanted 29 = .ok (.bipush (-102), 2) := by decide +kernel
theorem dX8_wanted_31 : decode cX8_wanted 31 = .ok (.ireturn, 1) := by decide +kernel
theorem dX8_found_0 : decode cX8_found 0 = .ok (.iload_n 1, 1) := by decide +kernel
theorem dX8_found_1 : decode cX8_found 1 = .ok (.iconst 0, 1) := by decide +kernel
theorem dX8_found_2 : decode cX8_found 2 = .ok (.aload_n 0, 1) := by decide +kernel
theorem dX8_found_3 : decode cX8_found 3 = .ok (.getfield 119, 3) := by decide +kernel
theorem dX8_found_6 : decode cX8_found 6 = .ok (.iconst 2, 1) := by decide +kernel
theorem dX8_found_7 : decode cX8_found 7 = .ok (.isub, 1) := by decide +kernel
theorem dX8_found_8 : decode cX8_found 8 = .ok (.invokestatic 86, 3) := by decide +kernel
theorem dX8_found_11 : decode cX8_found 11 = .ok (.ifCond .ne 6, 3) := by decide +kernel
theorem dX8_found_14 : decode cX8_found 14 = .ok (.bipush (-101), 2) := by decide +kernel
theorem dX8_found_16 : decode cX8_found 16 = .ok (.ireturn, 1) := by decide +kernel
theorem dX8_found_17 : decode cX8_found 17 = .ok (.iload_n 2, 1) := by decide +kernel
theorem dX8_found_18 : decode cX8_found 18 = .ok (.iconst (-1), 1) := by decide +kernel
theorem dX8_found_19 : decode cX8_found 19 = .ok (.sipush 320, 3) := by decide +kernel
theorem dX8_found_22 : decode cX8_found 22 = .ok (.invokestatic 86, 3) := by decide +kernel
theorem dX8_found_25 : decode cX8_found 25 = .ok (.ifCond .ne 6, 3) := by decide +kernel
theorem dX8_found_28 : decode cX8_found 28 = .ok (.bipush (-102), 2) := by decide +kernel
theorem dX8_found_30 : decode cX8_found 30 = .ok (.ireturn, 1) := by decide +kernel
theorem dX8_found_31 : decode cX8_found 31 = .ok (.aload_n 0, 1) := by decide +kernel
theorem dX8_found_32 : decode cX8_found 32 = .ok (.getfield 31, 3) := by decide +kernel
theorem dX8_found_35 : decode cX8_found 35 = .ok (.iload_n 1, 1) := by decide +kernel
theorem dX8_found_36 : decode cX8_found 36 = .ok (.iaload, 1) := by decide +kernel
theorem dX8_found_37 : decode cX8_found 37 = .ok (.istore_n 3, 1) := by decide +kernel
theorem dX8_found_38 : decode cX8_found 38 = .ok (.aload_n 0, 1) := by decide +kernel
theorem dX8_found_39 : decode cX8_found 39 = .ok (.getfield 31, 3) := by decide +kernel
theorem dX8_found_42 : decode cX8_found 42 = .ok (.iload_n 1, 1) := by decide +kernel
theorem dX8_found_43 : decode cX8_found 43 = .ok (.iload_n 2, 1) := by decide +kernel
theorem dX8_found_44 : decode cX8_found 44 = .ok (.iastore, 1) := by decide +kernel
theorem dX8_found_45 : decode cX8_found 45 = .ok (.iload_n 3, 1) := by decide +kernel
theorem dX8_found_46 : decode cX8_found 46 = .ok (.ireturn, 1) := by decide +kernel
theorem dX8_sorts_0 : decode cX8_sorts 0 = .ok (.aload_n 0, 1) := by decide +kernel
theorem dX8_sorts_1 : decode cX8_sorts 1 = .ok (.getfield 132, 3) := by decide +kernel
theorem dX8_sorts_4 : decode cX8_sorts 4 = .ok (.aload_n 0, 1) := by decide +kernel
theorem dX8_sorts_5 : decode cX8_sorts 5 = .ok (.getfield 132, 3) := by decide +kernel
theorem dX8_sorts_8 : decode cX8_sorts 8 = .ok (.aload_n 0, 1) := by decide +kernel
theorem dX8_sorts_9 : decode cX8_sorts 9 = .ok (.getfield 132, 3) := by decide +kernel
theorem dX8_sorts_12 : decode cX8_sorts 12 = .ok (.iconst 1, 1) := by decide +kernel
theorem dX8_sorts_13 : decode cX8_sorts 13 = .ok (.isub, 1) := by decide +kernel
theorem dX8_sorts_14 : decode cX8_sorts 14 = .ok (.imul, 1) := by decide +kernel
theorem dX8_sorts_15 : decode cX8_sorts 15 = .ok (.iconst 2, 1) := by decide +kernel
theorem dX8_sorts_16 : decode cX8_sorts 16 = .ok (.idiv, 1) := by decide +kernel
theorem dX8_sorts_17 : decode cX8_sorts 17 = .ok (.iadd, 1) := by decide +kernel
theorem dX8_sorts_18 : decode cX8_sorts 18 = .ok (.ireturn, 1) := by decide +kernel
theorem dX8_sortTone_0 : decode cX8_sortTone 0 = .ok (.iload_n 1, 1) := by decide +kernel
theorem dX8_sortTone_1 : decode cX8_sortTone 1 = .ok (.aload_n 0, 1) := by decide +kernel
theorem dX8_sortTone_2 : decode cX8_sortTone 2 = .ok (.getfield 132, 3) := by decide +kernel
theorem dX8_sortTone_5 : decode cX8_sortTone 5 = .ok (.if_icmp .ge 12, 3) := by decide +kernel
theorem dX8_sortTone_8 : decode cX8_sortTone 8 = .ok (.iconst 2, 1) := by decide +kernel
theorem dX8_sortTone_9 : decode cX8_sortTone 9 = .ok (.aload_n 0, 1) := by decide +kernel
theorem dX8_sortTone_10 : decode cX8_sortTone 10 = .ok (.getfield 34, 3) := by decide +kernel
theorem dX8_sortTone_13 : decode cX8_sortTone 13 = .ok (.iload_n 1, 1) := by decide +kernel
theorem dX8_sortTone_14 : decode cX8_sortTone 14 = .ok (.iaload, 1) := by decide +kernel
theorem dX8_sortTone_15 : decode cX8_sortTone 15 = .ok (.imul, 1) := by decide +kernel
theorem dX8_sortTone_16 : decode cX8_sortTone 16 = .ok (.ireturn, 1) := by decide +kernel
theorem dX8_sortTone_17 : decode cX8_sortTone 17 = .ok (.iload_n 1, 1) := by decide +kernel
theorem dX8_sortTone_18 : decode cX8_sortTone 18 = .ok (.aload_n 0, 1) := by decide +kernel
theorem dX8_sortTone_19 : decode cX8_sortTone 19 = .ok (.getfield 132, 3) := by decide +kernel
theorem dX8_sortTone_22 : decode cX8_sortTone 22 = .ok (.isub, 1) := by decide +kernel
theorem dX8_sortTone_23 : decode cX8_sortTone 23 = .ok (.istore_n 2, 1) := by decide +kernel
theorem dX8_sortTone_24 : decode cX8_sortTone 24 = .ok (.iload_n 2, 1) := by decide +kernel
theorem dX8_sortTone_25 : decode cX8_sortTone 25 = .ok (.iconst 2, 1) := by decide +kernel
theorem dX8_sortTone_26 : decode cX8_sortTone 26 = .ok (.if_icmp .ne 7, 3) := by decide +kernel
theorem dX8_sortTone_29 : decode cX8_sortTone 29 = .ok (.iconst 1, 1) := by decide +kernel
theorem dX8_sortTone_30 : decode cX8_sortTone 30 = .ok (.goto 4, 3) := by decide +kernel
theorem dX8_sortTone_33 : decode cX8_sortTone 33 = .ok (.iconst 0, 1) := by decide +kernel
theorem dX8_sortTone_34 : decode cX8_sortTone 34 = .ok (.istore_n 3, 1) := by decide +kernel
theorem dX8_sortTone_35 : decode cX8_sortTone 35 = .ok (.iload_n 2, 1) := by decide +kernel
theorem dX8_sortTone_36 : decode cX8_sortTone 36 = .ok (.ifCond .ne 7, 3) := by decide +kernel
theorem dX8_sortTone_39 : decode cX8_sortTone 39 = .ok (.iconst 1, 1) := by decide +kernel
theorem dX8_sortTone_40 : decode cX8_sortTone 40 = .ok (.goto 4, 3) := by decide +kernel
theorem dX8_sortTone_43 : decode cX8_sortTone 43 = .ok (.iconst 2, 1) := by decide +kernel
theorem dX8_sortTone_44 : decode cX8_sortTone 44 = .ok (.istore 4, 2) := by decide +kernel
theorem dX8_sortTone_46 : decode cX8_sortTone 46 = .ok (.aload_n 0, 1) := by decide +kernel
theorem dX8_sortTone_47 : decode cX8_sortTone 47 = .ok (.getfield 34, 3) := by decide +kernel
theorem dX8_sortTone_50 : decode cX8_sortTone 50 = .ok (.iload_n 3, 1) := by decide +kernel
theorem dX8_sortTone_51 : decode cX8_sortTone 51 = .ok (.iaload, 1) := by decide +kernel
theorem dX8_sortTone_52 : decode cX8_sortTone 52 = .ok (.aload_n 0, 1) := by decide +kernel
theorem dX8_sortTone_53 : decode cX8_sortTone 53 = .ok (.getfield 34, 3) := by decide +kernel
theorem dX8_sortTone_56 : decode cX8_sortTone 56 = .ok (.iload 4, 2) := by decide +kernel
theorem dX8_sortTone_58 : decode cX8_sortTone 58 = .ok (.iaload, 1) := by decide +kernel
theorem dX8_sortTone_59 : decode cX8_sortTone 59 = .ok (.iadd, 1) := by decide +kernel
theorem dX8_sortTone_60 : decode cX8_sortTone 60 = .ok (.ireturn, 1) := by decide +kernel
theorem dX8_waysMany_0 : decode cX8_waysMany 0 = .ok (.iconst 1, 1) := by decide +kernel
theorem dX8_waysMany_1 : decode cX8_waysMany 1 = .ok (.istore_n 1, 1) := by decide +kernel
theorem dX8_waysMany_2 : decode cX8_waysMany 2 = .ok (.iconst 0, 1) := by decide +kernel
theorem dX8_waysMany_3 : decode cX8_waysMany 3 = .ok (.istore_n 2, 1) := by decide +kernel
theorem dX8_waysMany_4 : decode cX8_waysMany 4 = .ok (.iload_n 2, 1) := by decide +kernel
theorem dX8_waysMany_5 : decode cX8_waysMany 5 = .ok (.aload_n 0, 1) := by decide +kernel
theorem dX8_waysMany_6 : decode cX8_waysMany 6 = .ok (.getfield 119, 3) := by decide +kernel
theorem dX8_waysMany_9 : decode cX8_waysMany 9 = .ok (.if_icmp .ge 16, 3) := by decide +kernel
theorem dX8_waysMany_12 : decode cX8_waysMany 12 = .ok (.iload_n 1, 1) := by decide +kernel
theorem dX8_waysMany_13 : decode cX8_waysMany 13 = .ok (.aload_n 0, 1) := by decide +kernel
theorem dX8_waysMany_14 : decode cX8_waysMany 14 = .ok (.invokevirtual 203, 3) := by decide +kernel
theorem dX8_waysMany_17 : decode cX8_waysMany 17 = .ok (.imul, 1) := by decide +kernel
theorem dX8_waysMany_18 : decode cX8_waysMany 18 = .ok (.istore_n 1, 1) := by decide +kernel
theorem dX8_waysMany_19 : decode cX8_waysMany 19 = .ok (.iinc 2 1, 3) := by decide +kernel
theorem dX8_waysMany_22 : decode cX8_waysMany 22 = .ok (.goto (-18), 3) := by decide +kernel
theorem dX8_waysMany_25 : decode cX8_waysMany 25 = .ok (.iload_n 1, 1) := by decide +kernel
theorem dX8_waysMany_26 : decode cX8_waysMany 26 = .ok (.ireturn, 1) := by decide +kernel
theorem dX8_couldBe_0 : decode cX8_couldBe 0 = .ok (.iload_n 1, 1) := by decide +kernel
theorem dX8_couldBe_1 : decode cX8_couldBe 1 = .ok (.istore_n 2, 1) := by decide +kernel
theorem dX8_couldBe_2 : decode cX8_couldBe 2 = .ok (.iconst 0, 1) := by decide +kernel
theorem dX8_couldBe_3 : decode cX8_couldBe 3 = .ok (.istore_n 3, 1) := by decide +kernel
theorem dX8_couldBe_4 : decode cX8_couldBe 4 = .ok (.iload_n 3, 1) := by decide +kernel
theorem dX8_couldBe_5 : decode cX8_couldBe 5 = .ok (.aload_n 0, 1) := by decide +kernel
theorem dX8_couldBe_6 : decode cX8_couldBe 6 = .ok (.getfield 119, 3) := by decide +kernel
theorem dX8_couldBe_9 : decode cX8_couldBe 9 = .ok (.if_icmp .ge 32, 3) := by decide +kernel
theorem dX8_couldBe_12 : decode cX8_couldBe 12 = .ok (.aload_n 0, 1) := by decide +kernel
theorem dX8_couldBe_13 : decode cX8_couldBe 13 = .ok (.getfield 47, 3) := by decide +kernel
theorem dX8_couldBe_16 : decode cX8_couldBe 16 = .ok (.iload_n 3, 1) := by decide +kernel
theorem dX8_couldBe_17 : decode cX8_couldBe 17 = .ok (.aload_n 0, 1) := by decide +kernel
theorem dX8_couldBe_18 : decode cX8_couldBe 18 = .ok (.iload_n 2, 1) := by decide +kernel
theorem dX8_couldBe_19 : decode cX8_couldBe 19 = .ok (.aload_n 0, 1) := by decide +kernel
theorem dX8_couldBe_20 : decode cX8_couldBe 20 = .ok (.invokevirtual 203, 3) := by decide +kernel
theorem dX8_couldBe_23 : decode cX8_couldBe 23 = .ok (.irem, 1) := by decide +kernel
theorem dX8_couldBe_24 : decode cX8_couldBe 24 = .ok (.invokevirtual 206, 3) := by decide +kernel
theorem dX8_couldBe_27 : decode cX8_couldBe 27 = .ok (.iastore, 1) := by decide +kernel
theorem dX8_couldBe_28 : decode cX8_couldBe 28 = .ok (.iload_n 2, 1) := by decide +kernel
theorem dX8_couldBe_29 : decode cX8_couldBe 29 = .ok (.aload_n 0, 1) := by decide +kernel
theorem dX8_couldBe_30 : decode cX8_couldBe 30 = .ok (.invokevirtual 203, 3) := by decide +kernel
theorem dX8_couldBe_33 : decode cX8_couldBe 33 = .ok (.idiv, 1) := by decide +kernel
theorem dX8_couldBe_34 : decode cX8_couldBe 34 = .ok (.istore_n 2, 1) := by decide +kernel
theorem dX8_couldBe_35 : decode cX8_couldBe 35 = .ok (.iinc 3 1, 3) := by decide +kernel
theorem dX8_couldBe_38 : decode cX8_couldBe 38 = .ok (.goto (-34), 3) := by decide +kernel
theorem dX8_couldBe_41 : decode cX8_couldBe 41 = .ok (.iconst 1, 1) := by decide +kernel
theorem dX8_couldBe_42 : decode cX8_couldBe 42 = .ok (.istore_n 3, 1) := by decide +kernel
theorem dX8_couldBe_43 : decode cX8_couldBe 43 = .ok (.iconst 0, 1) := by decide +kernel
theorem dX8_couldBe_44 : decode cX8_couldBe 44 = .ok (.istore 4, 2) := by decide +kernel
theorem dX8_couldBe_46 : decode cX8_couldBe 46 = .ok (.iload 4, 2) := by decide +kernel
theorem dX8_couldBe_48 : decode cX8_couldBe 48 = .ok (.iconst 1, 1) := by decide +kernel
theorem dX8_couldBe_49 : decode cX8_couldBe 49 = .ok (.iadd, 1) := by decide +kernel
theorem dX8_couldBe_50 : decode cX8_couldBe 50 = .ok (.aload_n 0, 1) := by decide +kernel
theorem dX8_couldBe_51 : decode cX8_couldBe 51 = .ok (.getfield 119, 3) := by decide +kernel
theorem dX8_couldBe_54 : decode cX8_couldBe 54 = .ok (.if_icmp .ge 62, 3) := by decide +kernel
theorem dX8_couldBe_57 : decode cX8_couldBe 57 = .ok (.iload_n 3, 1) := by decide +kernel
theorem dX8_couldBe_58 : decode cX8_couldBe 58 = .ok (.ifCond .eq 50, 3) := by decide +kernel
theorem dX8_couldBe_61 : decode cX8_couldBe 61 = .ok (.aload_n 0, 1) := by decide +kernel
theorem dX8_couldBe_62 : decode cX8_couldBe 62 = .ok (.getfield 31, 3) := by decide +kernel
theorem dX8_couldBe_65 : decode cX8_couldBe 65 = .ok (.iload 4, 2) := by decide +kernel
theorem dX8_couldBe_67 : decode cX8_couldBe 67 = .ok (.iaload, 1) := by decide +kernel
theorem dX8_couldBe_68 : decode cX8_couldBe 68 = .ok (.iconst (-1), 1) := by decide +kernel
theorem dX8_couldBe_69 : decode cX8_couldBe 69 = .ok (.if_icmp .eq 35, 3) := by decide +kernel
theorem dX8_couldBe_72 : decode cX8_couldBe 72 = .ok (.aload_n 0, 1) := by decide +kernel
theorem dX8_couldBe_73 : decode cX8_couldBe 73 = .ok (.getfield 31, 3) := by decide +kernel
theorem dX8_couldBe_76 : decode cX8_couldBe 76 = .ok (.iload 4, 2) := by decide +kernel
theorem dX8_couldBe_78 : decode cX8_couldBe 78 = .ok (.iaload, 1) := by decide +kernel
theorem dX8_couldBe_79 : decode cX8_couldBe 79 = .ok (.aload_n 0, 1) := by decide +kernel
theorem dX8_couldBe_80 : decode cX8_couldBe 80 = .ok (.iload 4, 2) := by decide +kernel
theorem dX8_couldBe_82 : decode cX8_couldBe 82 = .ok (.aload_n 0, 1) := by decide +kernel
theorem dX8_couldBe_83 : decode cX8_couldBe 83 = .ok (.getfield 47, 3) := by decide +kernel
theorem dX8_couldBe_86 : decode cX8_couldBe 86 = .ok (.iload 4, 2) := by decide +kernel
theorem dX8_couldBe_88 : decode cX8_couldBe 88 = .ok (.iaload, 1) := by decide +kernel
theorem dX8_couldBe_89 : decode cX8_couldBe 89 = .ok (.aload_n 0, 1) := by decide +kernel
theorem dX8_couldBe_90 : decode cX8_couldBe 90 = .ok (.getfield 47, 3) := by decide +kernel
theorem dX8_couldBe_93 : decode cX8_couldBe 93 = .ok (.iload 4, 2) := by decide +kernel
theorem dX8_couldBe_95 : decode cX8_couldBe 95 = .ok (.iconst 1, 1) := by decide +kernel
theorem dX8_couldBe_96 : decode cX8_couldBe 96 = .ok (.iadd, 1) := by decide +kernel
theorem dX8_couldBe_97 : decode cX8_couldBe 97 = .ok (.iaload, 1) := by decide +kernel
theorem dX8_couldBe_98 : decode cX8_couldBe 98 = .ok (.invokevirtual 141, 3) := by decide +kernel
theorem dX8_couldBe_101 : decode cX8_couldBe 101 = .ok (.if_icmp .ne 7, 3) := by decide +kernel
theorem dX8_couldBe_104 : decode cX8_couldBe 104 = .ok (.iconst 1, 1) := by decide +kernel
theorem dX8_couldBe_105 : decode cX8_couldBe 105 = .ok (.goto 4, 3) := by decide +kernel
theorem dX8_couldBe_108 : decode cX8_couldBe 108 = .ok (.iconst 0, 1) := by decide +kernel
theorem dX8_couldBe_109 : decode cX8_couldBe 109 = .ok (.istore_n 3, 1) := by decide +kernel
theorem dX8_couldBe_110 : decode cX8_couldBe 110 = .ok (.iinc 4 1, 3) := by decide +kernel
theorem dX8_couldBe_113 : decode cX8_couldBe 113 = .ok (.goto (-67), 3) := by decide +kernel
theorem dX8_couldBe_116 : decode cX8_couldBe 116 = .ok (.iload_n 3, 1) := by decide +kernel
theorem dX8_couldBe_117 : decode cX8_couldBe 117 = .ok (.ireturn, 1) := by decide +kernel
theorem dX8_fitsNow_0 : decode cX8_fitsNow 0 = .ok (.iconst 0, 1) := by decide +kernel
theorem dX8_fitsNow_1 : decode cX8_fitsNow 1 = .ok (.istore_n 1, 1) := by decide +kernel
theorem dX8_fitsNow_2 : decode cX8_fitsNow 2 = .ok (.iconst 0, 1) := by decide +kernel
theorem dX8_fitsNow_3 : decode cX8_fitsNow 3 = .ok (.istore_n 2, 1) := by decide +kernel
theorem dX8_fitsNow_4 : decode cX8_fitsNow 4 = .ok (.iload_n 2, 1) := by decide +kernel
theorem dX8_fitsNow_5 : decode cX8_fitsNow 5 = .ok (.aload_n 0, 1) := by decide +kernel
theorem dX8_fitsNow_6 : decode cX8_fitsNow 6 = .ok (.invokevirtual 209, 3) := by decide +kernel
theorem dX8_fitsNow_9 : decode cX8_fitsNow 9 = .ok (.if_icmp .ge 25, 3) := by decide +kernel
theorem dX8_fitsNow_12 : decode cX8_fitsNow 12 = .ok (.iload_n 1, 1) := by decide +kernel
theorem dX8_fitsNow_13 : decode cX8_fitsNow 13 = .ok (.aload_n 0, 1) := by decide +kernel
theorem dX8_fitsNow_14 : decode cX8_fitsNow 14 = .ok (.iload_n 2, 1) := by decide +kernel
theorem dX8_fitsNow_15 : decode cX8_fitsNow 15 = .ok (.invokevirtual 212, 3) := by decide +kernel
theorem dX8_fitsNow_18 : decode cX8_fitsNow 18 = .ok (.ifCond .eq 7, 3) := by decide +kernel
theorem dX8_fitsNow_21 : decode cX8_fitsNow 21 = .ok (.iconst 1, 1) := by decide +kernel
theorem dX8_fitsNow_22 : decode cX8_fitsNow 22 = .ok (.goto 4, 3) := by decide +kernel
theorem dX8_fitsNow_25 : decode cX8_fitsNow 25 = .ok (.iconst 0, 1) := by decide +kernel
theorem dX8_fitsNow_26 : decode cX8_fitsNow 26 = .ok (.iadd, 1) := by decide +kernel
theorem dX8_fitsNow_27 : decode cX8_fitsNow 27 = .ok (.istore_n 1, 1) := by decide +kernel
theorem dX8_fitsNow_28 : decode cX8_fitsNow 28 = .ok (.iinc 2 1, 3) := by decide +kernel
theorem dX8_fitsNow_31 : decode cX8_fitsNow 31 = .ok (.goto (-27), 3) := by decide +kernel
theorem dX8_fitsNow_34 : decode cX8_fitsNow 34 = .ok (.iload_n 1, 1) := by decide +kernel
theorem dX8_fitsNow_35 : decode cX8_fitsNow 35 = .ok (.ireturn, 1) := by decide +kernel
theorem dX8_fits_0 : decode cX8_fits 0 = .ok (.aload_n 0, 1) := by decide +kernel
theorem dX8_fits_1 : decode cX8_fits 1 = .ok (.getfield 119, 3) := by decide +kernel
theorem dX8_fits_4 : decode cX8_fits 4 = .ok (.ifCond .ne 8, 3) := by decide +kernel
theorem dX8_fits_7 : decode cX8_fits 7 = .ok (.bipush (-103), 2) := by decide +kernel
theorem dX8_fits_9 : decode cX8_fits 9 = .ok (.goto 7, 3) := by decide +kernel
theorem dX8_fits_12 : decode cX8_fits 12 = .ok (.aload_n 0, 1) := by decide +kernel
theorem dX8_fits_13 : decode cX8_fits 13 = .ok (.invokevirtual 215, 3) := by decide +kernel
theorem dX8_fits_16 : decode cX8_fits 16 = .ok (.ireturn, 1) := by decide +kernel
theorem dX8_sureNow_0 : decode cX8_sureNow 0 = .ok (.iconst (-1), 1) := by decide +kernel
theorem dX8_sureNow_1 : decode cX8_sureNow 1 = .ok (.istore_n 2, 1) := by decide +kernel
theorem dX8_sureNow_2 : decode cX8_sureNow 2 = .ok (.iconst 1, 1) := by decide +kernel
theorem dX8_sureNow_3 : decode cX8_sureNow 3 = .ok (.istore_n 3, 1) := by decide +kernel
theorem dX8_sureNow_4 : decode cX8_sureNow 4 = .ok (.iconst 0, 1) := by decide +kernel
theorem dX8_sureNow_5 : decode cX8_sureNow 5 = .ok (.istore 4, 2) := by decide +kernel
theorem dX8_sureNow_7 : decode cX8_sureNow 7 = .ok (.iload 4, 2) := by decide +kernel
theorem dX8_sureNow_9 : decode cX8_sureNow 9 = .ok (.aload_n 0, 1) := by decide +kernel
theorem dX8_sureNow_10 : decode cX8_sureNow 10 = .ok (.invokevirtual 209, 3) := by decide +kernel
theorem dX8_sureNow_13 : decode cX8_sureNow 13 = .ok (.if_icmp .ge 50, 3) := by decide +kernel
theorem dX8_sureNow_16 : decode cX8_sureNow 16 = .ok (.aload_n 0, 1) := by decide +kernel
theorem dX8_sureNow_17 : decode cX8_sureNow 17 = .ok (.iload 4, 2) := by decide +kernel
theorem dX8_sureNow_19 : decode cX8_sureNow 19 = .ok (.invokevirtual 212, 3) := by decide +kernel
theorem dX8_sureNow_22 : decode cX8_sureNow 22 = .ok (.ifCond .eq 35, 3) := by decide +kernel
theorem dX8_sureNow_25 : decode cX8_sureNow 25 = .ok (.iload_n 3, 1) := by decide +kernel
theorem dX8_sureNow_26 : decode cX8_sureNow 26 = .ok (.ifCond .eq 22, 3) := by decide +kernel
theorem dX8_sureNow_29 : decode cX8_sureNow 29 = .ok (.iload_n 2, 1) := by decide +kernel
theorem dX8_sureNow_30 : decode cX8_sureNow 30 = .ok (.iconst (-1), 1) := by decide +kernel
theorem dX8_sureNow_31 : decode cX8_sureNow 31 = .ok (.if_icmp .eq 13, 3) := by decide +kernel
theorem dX8_sureNow_34 : decode cX8_sureNow 34 = .ok (.iload_n 2, 1) := by decide +kernel
theorem dX8_sureNow_35 : decode cX8_sureNow 35 = .ok (.aload_n 0, 1) := by decide +kernel
theorem dX8_sureNow_36 : decode cX8_sureNow 36 = .ok (.getfield 47, 3) := by decide +kernel
theorem dX8_sureNow_39 : decode cX8_sureNow 39 = .ok (.iload_n 1, 1) := by decide +kernel
theorem dX8_sureNow_40 : decode cX8_sureNow 40 = .ok (.iaload, 1) := by decide +kernel
theorem dX8_sureNow_41 : decode cX8_sureNow 41 = .ok (.if_icmp .ne 7, 3) := by decide +kernel
theorem dX8_sureNow_44 : decode cX8_sureNow 44 = .ok (.iconst 1, 1) := by decide +kernel
theorem dX8_sureNow_45 : decode cX8_sureNow 45 = .ok (.goto 4, 3) := by decide +kernel
theorem dX8_sureNow_48 : decode cX8_sureNow 48 = .ok (.iconst 0, 1) := by decide +kernel
theorem dX8_sureNow_49 : decode cX8_sureNow 49 = .ok (.istore_n 3, 1) := by decide +kernel
theorem dX8_sureNow_50 : decode cX8_sureNow 50 = .ok (.aload_n 0, 1) := by decide +kernel
theorem dX8_sureNow_51 : decode cX8_sureNow 51 = .ok (.getfield 47, 3) := by decide +kernel
theorem dX8_sureNow_54 : decode cX8_sureNow 54 = .ok (.iload_n 1, 1) := by decide +kernel
theorem dX8_sureNow_55 : decode cX8_sureNow 55 = .ok (.iaload, 1) := by decide +kernel
theorem dX8_sureNow_56 : decode cX8_sureNow 56 = .ok (.istore_n 2, 1) := by decide +kernel
theorem dX8_sureNow_57 : decode cX8_sureNow 57 = .ok (.iinc 4 1, 3) := by decide +kernel
theorem dX8_sureNow_60 : decode cX8_sureNow 60 = .ok (.goto (-53), 3) := by decide +kernel
theorem dX8_sureNow_63 : decode cX8_sureNow 63 = .ok (.iload_n 3, 1) := by decide +kernel
theorem dX8_sureNow_64 : decode cX8_sureNow 64 = .ok (.ifCond .eq 7, 3) := by decide +kernel
theorem dX8_sureNow_67 : decode cX8_sureNow 67 = .ok (.iload_n 2, 1) := by decide +kernel
theorem dX8_sureNow_68 : decode cX8_sureNow 68 = .ok (.goto 4, 3) := by decide +kernel
theorem dX8_sureNow_71 : decode cX8_sureNow 71 = .ok (.iconst (-1), 1) := by decide +kernel
theorem dX8_sureNow_72 : decode cX8_sureNow 72 = .ok (.ireturn, 1) := by decide +kernel
theorem dX8_sure_0 : decode cX8_sure 0 = .ok (.aload_n 0, 1) := by decide +kernel
theorem dX8_sure_1 : decode cX8_sure 1 = .ok (.iload_n 1, 1) := by decide +kernel
theorem dX8_sure_2 : decode cX8_sure 2 = .ok (.invokevirtual 148, 3) := by decide +kernel
theorem dX8_sure_5 : decode cX8_sure 5 = .ok (.ifCond .eq 11, 3) := by decide +kernel
theorem dX8_sure_8 : decode cX8_sure 8 = .ok (.aload_n 0, 1) := by decide +kernel
theorem dX8_sure_9 : decode cX8_sure 9 = .ok (.iload_n 1, 1) := by decide +kernel
theorem dX8_sure_10 : decode cX8_sure 10 = .ok (.invokevirtual 218, 3) := by decide +kernel
theorem dX8_sure_13 : decode cX8_sure 13 = .ok (.goto 5, 3) := by decide +kernel
theorem dX8_sure_16 : decode cX8_sure 16 = .ok (.bipush (-101), 2) := by decide +kernel
theorem dX8_sure_18 : decode cX8_sure 18 = .ok (.ireturn, 1) := by decide +kernel
theorem dX8_draw_0 : decode cX8_draw 0 = .ok (.aload_n 0, 1) := by decide +kernel
theorem dX8_draw_1 : decode cX8_draw 1 = .ok (.ldc2_w 221, 3) := by decide +kernel
theorem dX8_draw_4 : decode cX8_draw 4 = .ok (.aload_n 0, 1) := by decide +kernel
theorem dX8_draw_5 : decode cX8_draw 5 = .ok (.getfield 223, 3) := by decide +kernel
theorem dX8_draw_8 : decode cX8_draw 8 = .ok (.lmul, 1) := by decide +kernel
theorem dX8_draw_9 : decode cX8_draw 9 = .ok (.ldc2_w 227, 3) := by decide +kernel
theorem dX8_draw_12 : decode cX8_draw 12 = .ok (.ladd, 1) := by decide +kernel
theorem dX8_draw_13 : decode cX8_draw 13 = .ok (.ldc2_w 229, 3) := by decide +kernel
theorem dX8_draw_16 : decode cX8_draw 16 = .ok (.land, 1) := by decide +kernel
theorem dX8_draw_17 : decode cX8_draw 17 = .ok (.putfield 223, 3) := by decide +kernel
theorem dX8_draw_20 : decode cX8_draw 20 = .ok (.aload_n 0, 1) := by decide +kernel
theorem dX8_draw_21 : decode cX8_draw 21 = .ok (.getfield 223, 3) := by decide +kernel
theorem dX8_draw_24 : decode cX8_draw 24 = .ok (.ldc2_w 231, 3) := by decide +kernel
theorem dX8_draw_27 : decode cX8_draw 27 = .ok (.ldiv, 1) := by decide +kernel
theorem dX8_draw_28 : decode cX8_draw 28 = .ok (.iload_n 1, 1) := by decide +kernel
theorem dX8_draw_29 : decode cX8_draw 29 = .ok (.i2l, 1) := by decide +kernel
theorem dX8_draw_30 : decode cX8_draw 30 = .ok (.lrem, 1) := by decide +kernel
theorem dX8_draw_31 : decode cX8_draw 31 = .ok (.l2i, 1) := by decide +kernel
theorem dX8_draw_32 : decode cX8_draw 32 = .ok (.ireturn, 1) := by decide +kernel
theorem dX8_goYear_0 : decode cX8_goYear 0 = .ok (.iconst 0, 1) := by decide +kernel
theorem dX8_goYear_1 : decode cX8_goYear 1 = .ok (.istore_n 1, 1) := by decide +kernel
theorem dX8_goYear_2 : decode cX8_goYear 2 = .ok (.iload_n 1, 1) := by decide +kernel
theorem dX8_goYear_3 : decode cX8_goYear 3 = .ok (.aload_n 0, 1) := by decide +kernel
theorem dX8_goYear_4 : decode cX8_goYear 4 = .ok (.getfield 132, 3) := by decide +kernel
theorem dX8_goYear_7 : decode cX8_goYear 7 = .ok (.if_icmp .ge 25, 3) := by decide +kernel
theorem dX8_goYear_10 : decode cX8_goYear 10 = .ok (.aload_n 0, 1) := by decide +kernel
theorem dX8_goYear_11 : decode cX8_goYear 11 = .ok (.getfield 56, 3) := by decide +kernel
theorem dX8_goYear_14 : decode cX8_goYear 14 = .ok (.iload_n 1, 1) := by decide +kernel
theorem dX8_goYear_15 : decode cX8_goYear 15 = .ok (.aload_n 0, 1) := by decide +kernel
theorem dX8_goYear_16 : decode cX8_goYear 16 = .ok (.aload_n 0, 1) := by decide +kernel
theorem dX8_goYear_17 : decode cX8_goYear 17 = .ok (.bipush 21, 2) := by decide +kernel
theorem dX8_goYear_19 : decode cX8_goYear 19 = .ok (.invokevirtual 233, 3) := by decide +kernel
theorem dX8_goYear_22 : decode cX8_goYear 22 = .ok (.invokevirtual 178, 3) := by decide +kernel
theorem dX8_goYear_25 : decode cX8_goYear 25 = .ok (.iastore, 1) := by decide +kernel
theorem dX8_goYear_26 : decode cX8_goYear 26 = .ok (.iinc 1 1, 3) := by decide +kernel
theorem dX8_goYear_29 : decode cX8_goYear 29 = .ok (.goto (-27), 3) := by decide +kernel
theorem dX8_goYear_32 : decode cX8_goYear 32 = .ok (.iconst 0, 1) := by decide +kernel
theorem dX8_goYear_33 : decode cX8_goYear 33 = .ok (.istore_n 1, 1) := by decide +kernel
theorem dX8_goYear_34 : decode cX8_goYear 34 = .ok (.iload_n 1, 1) := by decide +kernel
theorem dX8_goYear_35 : decode cX8_goYear 35 = .ok (.aload_n 0, 1) := by decide +kernel
theorem dX8_goYear_36 : decode cX8_goYear 36 = .ok (.getfield 119, 3) := by decide +kernel
theorem dX8_goYear_39 : decode cX8_goYear 39 = .ok (.if_icmp .ge 30, 3) := by decide +kernel
theorem dX8_goYear_42 : decode cX8_goYear 42 = .ok (.aload_n 0, 1) := by decide +kernel
theorem dX8_goYear_43 : decode cX8_goYear 43 = .ok (.getfield 47, 3) := by decide +kernel
theorem dX8_goYear_46 : decode cX8_goYear 46 = .ok (.iload_n 1, 1) := by decide +kernel
theorem dX8_goYear_47 : decode cX8_goYear 47 = .ok (.iconst 2, 1) := by decide +kernel
theorem dX8_goYear_48 : decode cX8_goYear 48 = .ok (.aload_n 0, 1) := by decide +kernel
theorem dX8_goYear_49 : decode cX8_goYear 49 = .ok (.getfield 56, 3) := by decide +kernel
theorem dX8_goYear_52 : decode cX8_goYear 52 = .ok (.aload_n 0, 1) := by decide +kernel
theorem dX8_goYear_53 : decode cX8_goYear 53 = .ok (.aload_n 0, 1) := by decide +kernel
theorem dX8_goYear_54 : decode cX8_goYear 54 = .ok (.getfield 132, 3) := by decide +kernel
theorem dX8_goYear_57 : decode cX8_goYear 57 = .ok (.invokevirtual 233, 3) := by decide +kernel
theorem dX8_goYear_60 : decode cX8_goYear 60 = .ok (.iaload, 1) := by decide +kernel
theorem dX8_goYear_61 : decode cX8_goYear 61 = .ok (.imul, 1) := by decide +kernel
theorem dX8_goYear_62 : decode cX8_goYear 62 = .ok (.iastore, 1) := by decide +kernel
theorem dX8_goYear_63 : decode cX8_goYear 63 = .ok (.iinc 1 1, 3) := by decide +kernel
theorem dX8_goYear_66 : decode cX8_goYear 66 = .ok (.goto (-32), 3) := by decide +kernel
theorem dX8_goYear_69 : decode cX8_goYear 69 = .ok (.aload_n 0, 1) := by decide +kernel
theorem dX8_goYear_70 : decode cX8_goYear 70 = .ok (.invokevirtual 191, 3) := by decide +kernel
theorem dX8_goYear_73 : decode cX8_goYear 73 = .ok (.ireturn, 1) := by decide +kernel
theorem dX8_yearsNow_0 : decode cX8_yearsNow 0 = .ok (.aload_n 0, 1) := by decide +kernel
theorem dX8_yearsNow_1 : decode cX8_yearsNow 1 = .ok (.iload_n 2, 1) := by decide +kernel
theorem dX8_yearsNow_2 : decode cX8_yearsNow 2 = .ok (.i2l, 1) := by decide +kernel
theorem dX8_yearsNow_3 : decode cX8_yearsNow 3 = .ok (.putfield 223, 3) := by decide +kernel
theorem dX8_yearsNow_6 : decode cX8_yearsNow 6 = .ok (.iconst 0, 1) := by decide +kernel
theorem dX8_yearsNow_7 : decode cX8_yearsNow 7 = .ok (.istore 4, 2) := by decide +kernel
theorem dX8_yearsNow_9 : decode cX8_yearsNow 9 = .ok (.iconst 0, 1) := by decide +kernel
theorem dX8_yearsNow_10 : decode cX8_yearsNow 10 = .ok (.istore 5, 2) := by decide +kernel
theorem dX8_yearsNow_12 : decode cX8_yearsNow 12 = .ok (.iload 5, 2) := by decide +kernel
theorem dX8_yearsNow_14 : decode cX8_yearsNow 14 = .ok (.iload_n 1, 1) := by decide +kernel
theorem dX8_yearsNow_15 : decode cX8_yearsNow 15 = .ok (.if_icmp .ge 18, 3) := by decide +kernel
theorem dX8_yearsNow_18 : decode cX8_yearsNow 18 = .ok (.iload 4, 2) := by decide +kernel
theorem dX8_yearsNow_20 : decode cX8_yearsNow 20 = .ok (.aload_n 0, 1) := by decide +kernel
theorem dX8_yearsNow_21 : decode cX8_yearsNow 21 = .ok (.invokevirtual 236, 3) := by decide +kernel
theorem dX8_yearsNow_24 : decode cX8_yearsNow 24 = .ok (.iadd, 1) := by decide +kernel
theorem dX8_yearsNow_25 : decode cX8_yearsNow 25 = .ok (.istore 4, 2) := by decide +kernel
theorem dX8_yearsNow_27 : decode cX8_yearsNow 27 = .ok (.iinc 5 1, 3) := by decide +kernel
theorem dX8_yearsNow_30 : decode cX8_yearsNow 30 = .ok (.goto (-18), 3) := by decide +kernel
theorem dX8_yearsNow_33 : decode cX8_yearsNow 33 = .ok (.iload_n 3, 1) := by decide +kernel
theorem dX8_yearsNow_34 : decode cX8_yearsNow 34 = .ok (.ifCond .ne 8, 3) := by decide +kernel
theorem dX8_yearsNow_37 : decode cX8_yearsNow 37 = .ok (.iload 4, 2) := by decide +kernel
theorem dX8_yearsNow_39 : decode cX8_yearsNow 39 = .ok (.goto 8, 3) := by decide +kernel
theorem dX8_yearsNow_42 : decode cX8_yearsNow 42 = .ok (.aload_n 0, 1) := by decide +kernel
theorem dX8_yearsNow_43 : decode cX8_yearsNow 43 = .ok (.getfield 223, 3) := by decide +kernel
theorem dX8_yearsNow_46 : decode cX8_yearsNow 46 = .ok (.l2i, 1) := by decide +kernel
theorem dX8_yearsNow_47 : decode cX8_yearsNow 47 = .ok (.ireturn, 1) := by decide +kernel
theorem dX8_years_0 : decode cX8_years 0 = .ok (.iload_n 1, 1) := by decide +kernel
theorem dX8_years_1 : decode cX8_years 1 = .ok (.iconst 1, 1) := by decide +kernel
theorem dX8_years_2 : decode cX8_years 2 = .ok (.bipush 30, 2) := by decide +kernel
theorem dX8_years_4 : decode cX8_years 4 = .ok (.invokestatic 86, 3) := by decide +kernel
theorem dX8_years_7 : decode cX8_years 7 = .ok (.ifCond .eq 16, 3) := by decide +kernel
theorem dX8_years_10 : decode cX8_years 10 = .ok (.iload_n 2, 1) := by decide +kernel
theorem dX8_years_11 : decode cX8_years 11 = .ok (.ifCond .lt 12, 3) := by decide +kernel
theorem dX8_years_14 : decode cX8_years 14 = .ok (.iload_n 3, 1) := by decide +kernel
theorem dX8_years_15 : decode cX8_years 15 = .ok (.iconst 0, 1) := by decide +kernel
theorem dX8_years_16 : decode cX8_years 16 = .ok (.iconst 1, 1) := by decide +kernel
theorem dX8_years_17 : decode cX8_years 17 = .ok (.invokestatic 86, 3) := by decide +kernel
theorem dX8_years_20 : decode cX8_years 20 = .ok (.ifCond .ne 6, 3) := by decide +kernel
theorem dX8_years_23 : decode cX8_years 23 = .ok (.bipush (-102), 2) := by decide +kernel
theorem dX8_years_25 : decode cX8_years 25 = .ok (.ireturn, 1) := by decide +kernel
theorem dX8_years_26 : decode cX8_years 26 = .ok (.aload_n 0, 1) := by decide +kernel
theorem dX8_years_27 : decode cX8_years 27 = .ok (.getfield 132, 3) := by decide +kernel
theorem dX8_years_30 : decode cX8_years 30 = .ok (.ifCond .ne 8, 3) := by decide +kernel
theorem dX8_years_33 : decode cX8_years 33 = .ok (.bipush (-103), 2) := by decide +kernel
theorem dX8_years_35 : decode cX8_years 35 = .ok (.goto 10, 3) := by decide +kernel
theorem dX8_years_38 : decode cX8_years 38 = .ok (.aload_n 0, 1) := by decide +kernel
theorem dX8_years_39 : decode cX8_years 39 = .ok (.iload_n 1, 1) := by decide +kernel
theorem dX8_years_40 : decode cX8_years 40 = .ok (.iload_n 2, 1) := by decide +kernel
theorem dX8_years_41 : decode cX8_years 41 = .ok (.iload_n 3, 1) := by decide +kernel
theorem dX8_years_42 : decode cX8_years 42 = .ok (.invokevirtual 239, 3) := by decide +kernel
theorem dX8_years_45 : decode cX8_years 45 = .ok (.ireturn, 1) := by decide +kernel
theorem dX8_image_0 : decode cX8_image 0 = .ok (.aload_n 0, 1) := by decide +kernel
theorem dX8_image_1 : decode cX8_image 1 = .ok (.getfield 119, 3) := by decide +kernel
theorem dX8_image_4 : decode cX8_image 4 = .ok (.ifCond .ne 6, 3) := by decide +kernel
theorem dX8_image_7 : decode cX8_image 7 = .ok (.bipush (-103), 2) := by decide +kernel
theorem dX8_image_9 : decode cX8_image 9 = .ok (.ireturn, 1) := by decide +kernel
theorem dX8_image_10 : decode cX8_image 10 = .ok (.aload_n 0, 1) := by decide +kernel
theorem dX8_image_11 : decode cX8_image 11 = .ok (.iconst 1, 1) := by decide +kernel
theorem dX8_image_12 : decode cX8_image 12 = .ok (.putfield 242, 3) := by decide +kernel
theorem dX8_image_15 : decode cX8_image 15 = .ok (.aload_n 0, 1) := by decide +kernel
theorem dX8_image_16 : decode cX8_image 16 = .ok (.aload_n 0, 1) := by decide +kernel
theorem dX8_image_17 : decode cX8_image 17 = .ok (.getfield 129, 3) := by decide +kernel
theorem dX8_image_20 : decode cX8_image 20 = .ok (.putfield 245, 3) := by decide +kernel
theorem dX8_image_23 : decode cX8_image 23 = .ok (.aload_n 0, 1) := by decide +kernel
theorem dX8_image_24 : decode cX8_image 24 = .ok (.aload_n 0, 1) := by decide +kernel
theorem dX8_image_25 : decode cX8_image 25 = .ok (.getfield 132, 3) := by decide +kernel
theorem dX8_image_28 : decode cX8_image 28 = .ok (.putfield 248, 3) := by decide +kernel
theorem dX8_image_31 : decode cX8_image 31 = .ok (.iconst 0, 1) := by decide +kernel
theorem dX8_image_32 : decode cX8_image 32 = .ok (.istore_n 1, 1) := by decide +kernel
theorem dX8_image_33 : decode cX8_image 33 = .ok (.iload_n 1, 1) := by decide +kernel
theorem dX8_image_34 : decode cX8_image 34 = .ok (.aload_n 0, 1) := by decide +kernel
theorem dX8_image_35 : decode cX8_image 35 = .ok (.getfield 119, 3) := by decide +kernel
theorem dX8_image_38 : decode cX8_image 38 = .ok (.if_icmp .ge 81, 3) := by decide +kernel
theorem dX8_image_41 : decode cX8_image 41 = .ok (.aload_n 0, 1) := by decide +kernel
theorem dX8_image_42 : decode cX8_image 42 = .ok (.getfield 59, 3) := by decide +kernel
theorem dX8_image_45 : decode cX8_image 45 = .ok (.iload_n 1, 1) := by decide +kernel
theorem dX8_image_46 : decode cX8_image 46 = .ok (.aload_n 0, 1) := by decide +kernel
theorem dX8_image_47 : decode cX8_image 47 = .ok (.getfield 16, 3) := by decide +kernel
theorem dX8_image_50 : decode cX8_image 50 = .ok (.iload_n 1, 1) := by decide +kernel
theorem dX8_image_51 : decode cX8_image 51 = .ok (.iaload, 1) := by decide +kernel
theorem dX8_image_52 : decode cX8_image 52 = .ok (.iastore, 1) := by decide +kernel
theorem dX8_image_53 : decode cX8_image 53 = .ok (.aload_n 0, 1) := by decide +kernel
theorem dX8_image_54 : decode cX8_image 54 = .ok (.getfield 62, 3) := by decide +kernel
theorem dX8_image_57 : decode cX8_image 57 = .ok (.iload_n 1, 1) := by decide +kernel
theorem dX8_image_58 : decode cX8_image 58 = .ok (.aload_n 0, 1) := by decide +kernel
theorem dX8_image_59 : decode cX8_image 59 = .ok (.getfield 19, 3) := by decide +kernel
theorem dX8_image_62 : decode cX8_image 62 = .ok (.iload_n 1, 1) := by decide +kernel
theorem dX8_image_63 : decode cX8_image 63 = .ok (.iaload, 1) := by decide +kernel
theorem dX8_image_64 : decode cX8_image 64 = .ok (.iastore, 1) := by decide +kernel
theorem dX8_image_65 : decode cX8_image 65 = .ok (.aload_n 0, 1) := by decide +kernel
theorem dX8_image_66 : decode cX8_image 66 = .ok (.getfield 65, 3) := by decide +kernel
theorem dX8_image_69 : decode cX8_image 69 = .ok (.iload_n 1, 1) := by decide +kernel
theorem dX8_image_70 : decode cX8_image 70 = .ok (.aload_n 0, 1) := by decide +kernel
theorem dX8_image_71 : decode cX8_image 71 = .ok (.getfield 22, 3) := by decide +kernel
theorem dX8_image_74 : decode cX8_image 74 = .ok (.iload_n 1, 1) := by decide +kernel
theorem dX8_image_75 : decode cX8_image 75 = .ok (.iaload, 1) := by decide +kernel
theorem dX8_image_76 : decode cX8_image 76 = .ok (.iastore, 1) := by decide +kernel
theorem dX8_image_77 : decode cX8_image 77 = .ok (.aload_n 0, 1) := by decide +kernel
theorem dX8_image_78 : decode cX8_image 78 = .ok (.getfield 68, 3) := by decide +kernel
theorem dX8_image_81 : decode cX8_image 81 = .ok (.iload_n 1, 1) := by decide +kernel
theorem dX8_image_82 : decode cX8_image 82 = .ok (.aload_n 0, 1) := by decide +kernel
theorem dX8_image_83 : decode cX8_image 83 = .ok (.getfield 25, 3) := by decide +kernel
theorem dX8_image_86 : decode cX8_image 86 = .ok (.iload_n 1, 1) := by decide +kernel
theorem dX8_image_87 : decode cX8_image 87 = .ok (.iaload, 1) := by decide +kernel
theorem dX8_image_88 : decode cX8_image 88 = .ok (.iastore, 1) := by decide +kernel
theorem dX8_image_89 : decode cX8_image 89 = .ok (.aload_n 0, 1) := by decide +kernel
theorem dX8_image_90 : decode cX8_image 90 = .ok (.getfield 71, 3) := by decide +kernel
theorem dX8_image_93 : decode cX8_image 93 = .ok (.iload_n 1, 1) := by decide +kernel
theorem dX8_image_94 : decode cX8_image 94 = .ok (.aload_n 0, 1) := by decide +kernel
theorem dX8_image_95 : decode cX8_image 95 = .ok (.getfield 28, 3) := by decide +kernel
theorem dX8_image_98 : decode cX8_image 98 = .ok (.iload_n 1, 1) := by decide +kernel
theorem dX8_image_99 : decode cX8_image 99 = .ok (.iaload, 1) := by decide +kernel
theorem dX8_image_100 : decode cX8_image 100 = .ok (.iastore, 1) := by decide +kernel
theorem dX8_image_101 : decode cX8_image 101 = .ok (.aload_n 0, 1) := by decide +kernel
theorem dX8_image_102 : decode cX8_image 102 = .ok (.getfield 74, 3) := by decide +kernel
theorem dX8_image_105 : decode cX8_image 105 = .ok (.iload_n 1, 1) := by decide +kernel
theorem dX8_image_106 : decode cX8_image 106 = .ok (.aload_n 0, 1) := by decide +kernel
theorem dX8_image_107 : decode cX8_image 107 = .ok (.getfield 31, 3) := by decide +kernel
theorem dX8_image_110 : decode cX8_image 110 = .ok (.iload_n 1, 1) := by decide +kernel
theorem dX8_image_111 : decode cX8_image 111 = .ok (.iaload, 1) := by decide +kernel
theorem dX8_image_112 : decode cX8_image 112 = .ok (.iastore, 1) := by decide +kernel
theorem dX8_image_113 : decode cX8_image 113 = .ok (.iinc 1 1, 3) := by decide +kernel
theorem dX8_image_116 : decode cX8_image 116 = .ok (.goto (-83), 3) := by decide +kernel
theorem dX8_image_119 : decode cX8_image 119 = .ok (.iconst 0, 1) := by decide +kernel
theorem dX8_image_120 : decode cX8_image 120 = .ok (.istore_n 1, 1) := by decide +kernel
theorem dX8_image_121 : decode cX8_image 121 = .ok (.iload_n 1, 1) := by decide +kernel
theorem dX8_image_122 : decode cX8_image 122 = .ok (.iconst 3, 1) := by decide +kernel
theorem dX8_image_123 : decode cX8_image 123 = .ok (.if_icmp .ge 45, 3) := by decide +kernel
theorem dX8_image_126 : decode cX8_image 126 = .ok (.aload_n 0, 1) := by decide +kernel
theorem dX8_image_127 : decode cX8_image 127 = .ok (.getfield 77, 3) := by decide +kernel
theorem dX8_image_130 : decode cX8_image 130 = .ok (.iload_n 1, 1) := by decide +kernel
theorem dX8_image_131 : decode cX8_image 131 = .ok (.aload_n 0, 1) := by decide +kernel
theorem dX8_image_132 : decode cX8_image 132 = .ok (.getfield 34, 3) := by decide +kernel
theorem dX8_image_135 : decode cX8_image 135 = .ok (.iload_n 1, 1) := by decide +kernel
theorem dX8_image_136 : decode cX8_image 136 = .ok (.iaload, 1) := by decide +kernel
theorem dX8_image_137 : decode cX8_image 137 = .ok (.iastore, 1) := by decide +kernel
theorem dX8_image_138 : decode cX8_image 138 = .ok (.aload_n 0, 1) := by decide +kernel
theorem dX8_image_139 : decode cX8_image 139 = .ok (.getfield 80, 3) := by decide +kernel
theorem dX8_image_142 : decode cX8_image 142 = .ok (.iload_n 1, 1) := by decide +kernel
theorem dX8_image_143 : decode cX8_image 143 = .ok (.aload_n 0, 1) := by decide +kernel
theorem dX8_image_144 : decode cX8_image 144 = .ok (.getfield 37, 3) := by decide +kernel
theorem dX8_image_147 : decode cX8_image 147 = .ok (.iload_n 1, 1) := by decide +kernel
theorem dX8_image_148 : decode cX8_image 148 = .ok (.iaload, 1) := by decide +kernel
theorem dX8_image_149 : decode cX8_image 149 = .ok (.iastore, 1) := by decide +kernel
theorem dX8_image_150 : decode cX8_image 150 = .ok (.aload_n 0, 1) := by decide +kernel
theorem dX8_image_151 : decode cX8_image 151 = .ok (.getfield 83, 3) := by decide +kernel
theorem dX8_image_154 : decode cX8_image 154 = .ok (.iload_n 1, 1) := by decide +kernel
theorem dX8_image_155 : decode cX8_image 155 = .ok (.aload_n 0, 1) := by decide +kernel
theorem dX8_image_156 : decode cX8_image 156 = .ok (.getfield 40, 3) := by decide +kernel
theorem dX8_image_159 : decode cX8_image 159 = .ok (.iload_n 1, 1) := by decide +kernel
theorem dX8_image_160 : decode cX8_image 160 = .ok (.iaload, 1) := by decide +kernel
theorem dX8_image_161 : decode cX8_image 161 = .ok (.iastore, 1) := by decide +kernel
theorem dX8_image_162 : decode cX8_image 162 = .ok (.iinc 1 1, 3) := by decide +kernel
theorem dX8_image_165 : decode cX8_image 165 = .ok (.goto (-44), 3) := by decide +kernel
theorem dX8_image_168 : decode cX8_image 168 = .ok (.aload_n 0, 1) := by decide +kernel
theorem dX8_image_169 : decode cX8_image 169 = .ok (.getfield 119, 3) := by decide +kernel
theorem dX8_image_172 : decode cX8_image 172 = .ok (.aload_n 0, 1) := by decide +kernel
theorem dX8_image_173 : decode cX8_image 173 = .ok (.invokevirtual 181, 3) := by decide +kernel
theorem dX8_image_176 : decode cX8_image 176 = .ok (.isub, 1) := by decide +kernel
theorem dX8_image_177 : decode cX8_image 177 = .ok (.ireturn, 1) := by decide +kernel
theorem dX8_restore_0 : decode cX8_restore 0 = .ok (.aload_n 0, 1) := by decide +kernel
theorem dX8_restore_1 : decode cX8_restore 1 = .ok (.getfield 242, 3) := by decide +kernel
theorem dX8_restore_4 : decode cX8_restore 4 = .ok (.ifCond .eq 14, 3) := by decide +kernel
theorem dX8_restore_7 : decode cX8_restore 7 = .ok (.aload_n 0, 1) := by decide +kernel
theorem dX8_restore_8 : decode cX8_restore 8 = .ok (.getfield 245, 3) := by decide +kernel
theorem dX8_restore_11 : decode cX8_restore 11 = .ok (.aload_n 0, 1) := by decide +kernel
theorem dX8_restore_12 : decode cX8_restore 12 = .ok (.getfield 129, 3) := by decide +kernel
theorem dX8_restore_15 : decode cX8_restore 15 = .ok (.if_icmp .eq 6, 3) := by decide +kernel
theorem dX8_restore_18 : decode cX8_restore 18 = .ok (.bipush (-103), 2) := by decide +kernel
theorem dX8_restore_20 : decode cX8_restore 20 = .ok (.ireturn, 1) := by decide +kernel
theorem dX8_restore_21 : decode cX8_restore 21 = .ok (.aload_n 0, 1) := by decide +kernel
theorem dX8_restore_22 : decode cX8_restore 22 = .ok (.aload_n 0, 1) := by decide +kernel
theorem dX8_restore_23 : decode cX8_restore 23 = .ok (.getfield 248, 3) := by decide +kernel
theorem dX8_restore_26 : decode cX8_restore 26 = .ok (.putfield 132, 3) := by decide +kernel
theorem dX8_restore_29 : decode cX8_restore 29 = .ok (.iconst 0, 1) := by decide +kernel
theorem dX8_restore_30 : decode cX8_restore 30 = .ok (.istore_n 1, 1) := by decide +kernel
theorem dX8_restore_31 : decode cX8_restore 31 = .ok (.iload_n 1, 1) := by decide +kernel
theorem dX8_restore_32 : decode cX8_restore 32 = .ok (.aload_n 0, 1) := by decide +kernel
theorem dX8_restore_33 : decode cX8_restore 33 = .ok (.getfield 119, 3) := by decide +kernel
theorem dX8_restore_36 : decode cX8_restore 36 = .ok (.if_icmp .ge 81, 3) := by decide +kernel
theorem dX8_restore_39 : decode cX8_restore 39 = .ok (.aload_n 0, 1) := by decide +kernel
theorem dX8_restore_40 : decode cX8_restore 40 = .ok (.getfield 16, 3) := by decide +kernel
theorem dX8_restore_43 : decode cX8_restore 43 = .ok (.iload_n 1, 1) := by decide +kernel
theorem dX8_restore_44 : decode cX8_restore 44 = .ok (.aload_n 0, 1) := by decide +kernel
theorem dX8_restore_45 : decode cX8_restore 45 = .ok (.getfield 59, 3) := by decide +kernel
theorem dX8_restore_48 : decode cX8_restore 48 = .ok (.iload_n 1, 1) := by decide +kernel
theorem dX8_restore_49 : decode cX8_restore 49 = .ok (.iaload, 1) := by decide +kernel
theorem dX8_restore_50 : decode cX8_restore 50 = .ok (.iastore, 1) := by decide +kernel
theorem dX8_restore_51 : decode cX8_restore 51 = .ok (.aload_n 0, 1) := by decide +kernel
theorem dX8_restore_52 : decode cX8_restore 52 = .ok (.getfield 19, 3) := by decide +kernel
theorem dX8_restore_55 : decode cX8_restore 55 = .ok (.iload_n 1, 1) := by decide +kernel
theorem dX8_restore_56 : decode cX8_restore 56 = .ok (.aload_n 0, 1) := by decide +kernel
theorem dX8_restore_57 : decode cX8_restore 57 = .ok (.getfield 62, 3) := by decide +kernel
theorem dX8_restore_60 : decode cX8_restore 60 = .ok (.iload_n 1, 1) := by decide +kernel
theorem dX8_restore_61 : decode cX8_restore 61 = .ok (.iaload, 1) := by decide +kernel
theorem dX8_restore_62 : decode cX8_restore 62 = .ok (.iastore, 1) := by decide +kernel
theorem dX8_restore_63 : decode cX8_restore 63 = .ok (.aload_n 0, 1) := by decide +kernel
theorem dX8_restore_64 : decode cX8_restore 64 = .ok (.getfield 22, 3) := by decide +kernel
theorem dX8_restore_67 : decode cX8_restore 67 = .ok (.iload_n 1, 1) := by decide +kernel
theorem dX8_restore_68 : decode cX8_restore 68 = .ok (.aload_n 0, 1) := by decide +kernel
theorem dX8_restore_69 : decode cX8_restore 69 = .ok (.getfield 65, 3) := by decide +kernel
theorem dX8_restore_72 : decode cX8_restore 72 = .ok (.iload_n 1, 1) := by decide +kernel
theorem dX8_restore_73 : decode cX8_restore 73 = .ok (.iaload, 1) := by decide +kernel
theorem dX8_restore_74 : decode cX8_restore 74 = .ok (.iastore, 1) := by decide +kernel
theorem dX8_restore_75 : decode cX8_restore 75 = .ok (.aload_n 0, 1) := by decide +kernel
theorem dX8_restore_76 : decode cX8_restore 76 = .ok (.getfield 25, 3) := by decide +kernel
theorem dX8_restore_79 : decode cX8_restore 79 = .ok (.iload_n 1, 1) := by decide +kernel
theorem dX8_restore_80 : decode cX8_restore 80 = .ok (.aload_n 0, 1) := by decide +kernel
theorem dX8_restore_81 : decode cX8_restore 81 = .ok (.getfield 68, 3) := by decide +kernel
theorem dX8_restore_84 : decode cX8_restore 84 = .ok (.iload_n 1, 1) := by decide +kernel
theorem dX8_restore_85 : decode cX8_restore 85 = .ok (.iaload, 1) := by decide +kernel
theorem dX8_restore_86 : decode cX8_restore 86 = .ok (.iastore, 1) := by decide +kernel
theorem dX8_restore_87 : decode cX8_restore 87 = .ok (.aload_n 0, 1) := by decide +kernel
theorem dX8_restore_88 : decode cX8_restore 88 = .ok (.getfield 28, 3) := by decide +kernel
theorem dX8_restore_91 : decode cX8_restore 91 = .ok (.iload_n 1, 1) := by decide +kernel
theorem dX8_restore_92 : decode cX8_restore 92 = .ok (.aload_n 0, 1) := by decide +kernel
theorem dX8_restore_93 : decode cX8_restore 93 = .ok (.getfield 71, 3) := by decide +kernel
theorem dX8_restore_96 : decode cX8_restore 96 = .ok (.iload_n 1, 1) := by decide +kernel
theorem dX8_restore_97 : decode cX8_restore 97 = .ok (.iaload, 1) := by decide +kernel
theorem dX8_restore_98 : decode cX8_restore 98 = .ok (.iastore, 1) := by decide +kernel
theorem dX8_restore_99 : decode cX8_restore 99 = .ok (.aload_n 0, 1) := by decide +kernel
theorem dX8_restore_100 : decode cX8_restore 100 = .ok (.getfield 31, 3) := by decide +kernel
theorem dX8_restore_103 : decode cX8_restore 103 = .ok (.iload_n 1, 1) := by decide +kernel
theorem dX8_restore_104 : decode cX8_restore 104 = .ok (.aload_n 0, 1) := by decide +kernel
theorem dX8_restore_105 : decode cX8_restore 105 = .ok (.getfield 74, 3) := by decide +kernel
theorem dX8_restore_108 : decode cX8_restore 108 = .ok (.iload_n 1, 1) := by decide +kernel
theorem dX8_restore_109 : decode cX8_restore 109 = .ok (.iaload, 1) := by decide +kernel
theorem dX8_restore_110 : decode cX8_restore 110 = .ok (.iastore, 1) := by decide +kernel
theorem dX8_restore_111 : decode cX8_restore 111 = .ok (.iinc 1 1, 3) := by decide +kernel
theorem dX8_restore_114 : decode cX8_restore 114 = .ok (.goto (-83), 3) := by decide +kernel
theorem dX8_restore_117 : decode cX8_restore 117 = .ok (.iconst 0, 1) := by decide +kernel
theorem dX8_restore_118 : decode cX8_restore 118 = .ok (.istore_n 1, 1) := by decide +kernel
theorem dX8_restore_119 : decode cX8_restore 119 = .ok (.iload_n 1, 1) := by decide +kernel
theorem dX8_restore_120 : decode cX8_restore 120 = .ok (.iconst 3, 1) := by decide +kernel
theorem dX8_restore_121 : decode cX8_restore 121 = .ok (.if_icmp .ge 45, 3) := by decide +kernel
theorem dX8_restore_124 : decode cX8_restore 124 = .ok (.aload_n 0, 1) := by decide +kernel
theorem dX8_restore_125 : decode cX8_restore 125 = .ok (.getfield 34, 3) := by decide +kernel
theorem dX8_restore_128 : decode cX8_restore 128 = .ok (.iload_n 1, 1) := by decide +kernel
theorem dX8_restore_129 : decode cX8_restore 129 = .ok (.aload_n 0, 1) := by decide +kernel
theorem dX8_restore_130 : decode cX8_restore 130 = .ok (.getfield 77, 3) := by decide +kernel
theorem dX8_restore_133 : decode cX8_restore 133 = .ok (.iload_n 1, 1) := by decide +kernel
theorem dX8_restore_134 : decode cX8_restore 134 = .ok (.iaload, 1) := by decide +kernel
theorem dX8_restore_135 : decode cX8_restore 135 = .ok (.iastore, 1) := by decide +kernel
theorem dX8_restore_136 : decode cX8_restore 136 = .ok (.aload_n 0, 1) := by decide +kernel
theorem dX8_restore_137 : decode cX8_restore 137 = .ok (.getfield 37, 3) := by decide +kernel
theorem dX8_restore_140 : decode cX8_restore 140 = .ok (.iload_n 1, 1) := by decide +kernel
theorem dX8_restore_141 : decode cX8_restore 141 = .ok (.aload_n 0, 1) := by decide +kernel
theorem dX8_restore_142 : decode cX8_restore 142 = .ok (.getfield 80, 3) := by decide +kernel
theorem dX8_restore_145 : decode cX8_restore 145 = .ok (.iload_n 1, 1) := by decide +kernel
theorem dX8_restore_146 : decode cX8_restore 146 = .ok (.iaload, 1) := by decide +kernel
theorem dX8_restore_147 : decode cX8_restore 147 = .ok (.iastore, 1) := by decide +kernel
theorem dX8_restore_148 : decode cX8_restore 148 = .ok (.aload_n 0, 1) := by decide +kernel
theorem dX8_restore_149 : decode cX8_restore 149 = .ok (.getfield 40, 3) := by decide +kernel
theorem dX8_restore_152 : decode cX8_restore 152 = .ok (.iload_n 1, 1) := by decide +kernel
theorem dX8_restore_153 : decode cX8_restore 153 = .ok (.aload_n 0, 1) := by decide +kernel
theorem dX8_restore_154 : decode cX8_restore 154 = .ok (.getfield 83, 3) := by decide +kernel
theorem dX8_restore_157 : decode cX8_restore 157 = .ok (.iload_n 1, 1) := by decide +kernel
theorem dX8_restore_158 : decode cX8_restore 158 = .ok (.iaload, 1) := by decide +kernel
theorem dX8_restore_159 : decode cX8_restore 159 = .ok (.iastore, 1) := by decide +kernel
theorem dX8_restore_160 : decode cX8_restore 160 = .ok (.iinc 1 1, 3) := by decide +kernel
theorem dX8_restore_163 : decode cX8_restore 163 = .ok (.goto (-44), 3) := by decide +kernel
theorem dX8_restore_166 : decode cX8_restore 166 = .ok (.aload_n 0, 1) := by decide +kernel
theorem dX8_restore_167 : decode cX8_restore 167 = .ok (.getfield 119, 3) := by decide +kernel
theorem dX8_restore_170 : decode cX8_restore 170 = .ok (.aload_n 0, 1) := by decide +kernel
theorem dX8_restore_171 : decode cX8_restore 171 = .ok (.invokevirtual 181, 3) := by decide +kernel
theorem dX8_restore_174 : decode cX8_restore 174 = .ok (.isub, 1) := by decide +kernel
theorem dX8_restore_175 : decode cX8_restore 175 = .ok (.ireturn, 1) := by decide +kernel
theorem dX8_sum_0 : decode cX8_sum 0 = .ok (.iconst 0, 1) := by decide +kernel
theorem dX8_sum_1 : decode cX8_sum 1 = .ok (.istore_n 2, 1) := by decide +kernel
theorem dX8_sum_2 : decode cX8_sum 2 = .ok (.iconst 0, 1) := by decide +kernel
theorem dX8_sum_3 : decode cX8_sum 3 = .ok (.istore_n 3, 1) := by decide +kernel
theorem dX8_sum_4 : decode cX8_sum 4 = .ok (.iload_n 3, 1) := by decide +kernel
theorem dX8_sum_5 : decode cX8_sum 5 = .ok (.aload_n 0, 1) := by decide +kernel
theorem dX8_sum_6 : decode cX8_sum 6 = .ok (.getfield 132, 3) := by decide +kernel
theorem dX8_sum_9 : decode cX8_sum 9 = .ok (.if_icmp .ge 18, 3) := by decide +kernel
theorem dX8_sum_12 : decode cX8_sum 12 = .ok (.iload_n 2, 1) := by decide +kernel
theorem dX8_sum_13 : decode cX8_sum 13 = .ok (.aload_n 0, 1) := by decide +kernel
theorem dX8_sum_14 : decode cX8_sum 14 = .ok (.iload_n 3, 1) := by decide +kernel
theorem dX8_sum_15 : decode cX8_sum 15 = .ok (.iload_n 1, 1) := by decide +kernel
theorem dX8_sum_16 : decode cX8_sum 16 = .ok (.invokevirtual 159, 3) := by decide +kernel
theorem dX8_sum_19 : decode cX8_sum 19 = .ok (.iadd, 1) := by decide +kernel
theorem dX8_sum_20 : decode cX8_sum 20 = .ok (.istore_n 2, 1) := by decide +kernel
theorem dX8_sum_21 : decode cX8_sum 21 = .ok (.iinc 3 1, 3) := by decide +kernel
theorem dX8_sum_24 : decode cX8_sum 24 = .ok (.goto (-20), 3) := by decide +kernel
theorem dX8_sum_27 : decode cX8_sum 27 = .ok (.iload_n 2, 1) := by decide +kernel
theorem dX8_sum_28 : decode cX8_sum 28 = .ok (.ireturn, 1) := by decide +kernel
theorem dX8_foundMany_0 : decode cX8_foundMany 0 = .ok (.iconst 0, 1) := by decide +kernel
theorem dX8_foundMany_1 : decode cX8_foundMany 1 = .ok (.istore_n 1, 1) := by decide +kernel
theorem dX8_foundMany_2 : decode cX8_foundMany 2 = .ok (.iconst 0, 1) := by decide +kernel
theorem dX8_foundMany_3 : decode cX8_foundMany 3 = .ok (.istore_n 2, 1) := by decide +kernel
theorem dX8_foundMany_4 : decode cX8_foundMany 4 = .ok (.iload_n 2, 1) := by decide +kernel
theorem dX8_foundMany_5 : decode cX8_foundMany 5 = .ok (.aload_n 0, 1) := by decide +kernel
theorem dX8_foundMany_6 : decode cX8_foundMany 6 = .ok (.getfield 119, 3) := by decide +kernel
theorem dX8_foundMany_9 : decode cX8_foundMany 9 = .ok (.if_icmp .ge 27, 3) := by decide +kernel
theorem dX8_foundMany_12 : decode cX8_foundMany 12 = .ok (.iload_n 1, 1) := by decide +kernel
theorem dX8_foundMany_13 : decode cX8_foundMany 13 = .ok (.aload_n 0, 1) := by decide +kernel
theorem dX8_foundMany_14 : decode cX8_foundMany 14 = .ok (.getfield 31, 3) := by decide +kernel
theorem dX8_foundMany_17 : decode cX8_foundMany 17 = .ok (.iload_n 2, 1) := by decide +kernel
theorem dX8_foundMany_18 : decode cX8_foundMany 18 = .ok (.iaload, 1) := by decide +kernel
theorem dX8_foundMany_19 : decode cX8_foundMany 19 = .ok (.iconst (-1), 1) := by decide +kernel
theorem dX8_foundMany_20 : decode cX8_foundMany 20 = .ok (.if_icmp .ne 7, 3) := by decide +kernel
theorem dX8_foundMany_23 : decode cX8_foundMany 23 = .ok (.iconst 0, 1) := by decide +kernel
theorem dX8_foundMany_24 : decode cX8_foundMany 24 = .ok (.goto 4, 3) := by decide +kernel
theorem dX8_foundMany_27 : decode cX8_foundMany 27 = .ok (.iconst 1, 1) := by decide +kernel
theorem dX8_foundMany_28 : decode cX8_foundMany 28 = .ok (.iadd, 1) := by decide +kernel
theorem dX8_foundMany_29 : decode cX8_foundMany 29 = .ok (.istore_n 1, 1) := by decide +kernel
theorem dX8_foundMany_30 : decode cX8_foundMany 30 = .ok (.iinc 2 1, 3) := by decide +kernel
theorem dX8_foundMany_33 : decode cX8_foundMany 33 = .ok (.goto (-29), 3) := by decide +kernel
theorem dX8_foundMany_36 : decode cX8_foundMany 36 = .ok (.iload_n 1, 1) := by decide +kernel
theorem dX8_foundMany_37 : decode cX8_foundMany 37 = .ok (.ireturn, 1) := by decide +kernel
theorem dX8_howMany_0 : decode cX8_howMany 0 = .ok (.iload_n 1, 1) := by decide +kernel
theorem dX8_howMany_1 : decode cX8_howMany 1 = .ok (.tableswitch 121 0 10 #[59, 64, 69, 74, 84, 89, 95, 101, 106, 111, 116], 59) := by decide +kernel
theorem dX8_howMany_60 : decode cX8_howMany 60 = .ok (.aload_n 0, 1) := by decide +kernel
theorem dX8_howMany_61 : decode cX8_howMany 61 = .ok (.getfield 119, 3) := by decide +kernel
theorem dX8_howMany_64 : decode cX8_howMany 64 = .ok (.ireturn, 1) := by decide +kernel
theorem dX8_howMany_65 : decode cX8_howMany 65 = .ok (.aload_n 0, 1) := by decide +kernel
theorem dX8_howMany_66 : decode cX8_howMany 66 = .ok (.getfield 122, 3) := by decide +kernel
theorem dX8_howMany_69 : decode cX8_howMany 69 = .ok (.ireturn, 1) := by decide +kernel
theorem dX8_howMany_70 : decode cX8_howMany 70 = .ok (.aload_n 0, 1) := by decide +kernel
theorem dX8_howMany_71 : decode cX8_howMany 71 = .ok (.getfield 132, 3) := by decide +kernel
theorem dX8_howMany_74 : decode cX8_howMany 74 = .ok (.ireturn, 1) := by decide +kernel
theorem dX8_howMany_75 : decode cX8_howMany 75 = .ok (.aload_n 0, 1) := by decide +kernel
theorem dX8_howMany_76 : decode cX8_howMany 76 = .ok (.getfield 119, 3) := by decide +kernel
theorem dX8_howMany_79 : decode cX8_howMany 79 = .ok (.aload_n 0, 1) := by decide +kernel
theorem dX8_howMany_80 : decode cX8_howMany 80 = .ok (.invokevirtual 181, 3) := by decide +kernel
theorem dX8_howMany_83 : decode cX8_howMany 83 = .ok (.isub, 1) := by decide +kernel
theorem dX8_howMany_84 : decode cX8_howMany 84 = .ok (.ireturn, 1) := by decide +kernel
theorem dX8_howMany_85 : decode cX8_howMany 85 = .ok (.aload_n 0, 1) := by decide +kernel
theorem dX8_howMany_86 : decode cX8_howMany 86 = .ok (.invokevirtual 172, 3) := by decide +kernel
theorem dX8_howMany_89 : decode cX8_howMany 89 = .ok (.ireturn, 1) := by decide +kernel
theorem dX8_howMany_90 : decode cX8_howMany 90 = .ok (.aload_n 0, 1) := by decide +kernel
theorem dX8_howMany_91 : decode cX8_howMany 91 = .ok (.iconst 1, 1) := by decide +kernel
theorem dX8_howMany_92 : decode cX8_howMany 92 = .ok (.invokevirtual 251, 3) := by decide +kernel
theorem dX8_howMany_95 : decode cX8_howMany 95 = .ok (.ireturn, 1) := by decide +kernel
theorem dX8_howMany_96 : decode cX8_howMany 96 = .ok (.aload_n 0, 1) := by decide +kernel
theorem dX8_howMany_97 : decode cX8_howMany 97 = .ok (.iconst 2, 1) := by decide +kernel
theorem dX8_howMany_98 : decode cX8_howMany 98 = .ok (.invokevirtual 251, 3) := by decide +kernel
theorem dX8_howMany_101 : decode cX8_howMany 101 = .ok (.ireturn, 1) := by decide +kernel
theorem dX8_howMany_102 : decode cX8_howMany 102 = .ok (.aload_n 0, 1) := by decide +kernel
theorem dX8_howMany_103 : decode cX8_howMany 103 = .ok (.invokevirtual 254, 3) := by decide +kernel
theorem dX8_howMany_106 : decode cX8_howMany 106 = .ok (.ireturn, 1) := by decide +kernel
theorem dX8_howMany_107 : decode cX8_howMany 107 = .ok (.aload_n 0, 1) := by decide +kernel
theorem dX8_howMany_108 : decode cX8_howMany 108 = .ok (.getfield 90, 3) := by decide +kernel
theorem dX8_howMany_111 : decode cX8_howMany 111 = .ok (.ireturn, 1) := by decide +kernel
theorem dX8_howMany_112 : decode cX8_howMany 112 = .ok (.aload_n 0, 1) := by decide +kernel
theorem dX8_howMany_113 : decode cX8_howMany 113 = .ok (.getfield 129, 3) := by decide +kernel
theorem dX8_howMany_116 : decode cX8_howMany 116 = .ok (.ireturn, 1) := by decide +kernel
theorem dX8_howMany_117 : decode cX8_howMany 117 = .ok (.aload_n 0, 1) := by decide +kernel
theorem dX8_howMany_118 : decode cX8_howMany 118 = .ok (.getfield 194, 3) := by decide +kernel
theorem dX8_howMany_121 : decode cX8_howMany 121 = .ok (.ireturn, 1) := by decide +kernel
theorem dX8_howMany_122 : decode cX8_howMany 122 = .ok (.bipush (-102), 2) := by decide +kernel
theorem dX8_howMany_124 : decode cX8_howMany 124 = .ok (.ireturn, 1) := by decide +kernel
theorem dX8_count_0 : decode cX8_count 0 = .ok (.aload_n 0, 1) := by decide +kernel
theorem dX8_count_1 : decode cX8_count 1 = .ok (.iload_n 1, 1) := by decide +kernel
theorem dX8_count_2 : decode cX8_count 2 = .ok (.invokevirtual 257, 3) := by decide +kernel
theorem dX8_count_5 : decode cX8_count 5 = .ok (.ireturn, 1) := by decide +kernel
theorem dX8_mix_0 : decode cX8_mix 0 = .ok (.aload_n 0, 1) := by decide +kernel
theorem dX8_mix_1 : decode cX8_mix 1 = .ok (.ldc2_w 260, 3) := by decide +kernel
theorem dX8_mix_4 : decode cX8_mix 4 = .ok (.aload_n 0, 1) := by decide +kernel
theorem dX8_mix_5 : decode cX8_mix 5 = .ok (.getfield 262, 3) := by decide +kernel
theorem dX8_mix_8 : decode cX8_mix 8 = .ok (.lmul, 1) := by decide +kernel
theorem dX8_mix_9 : decode cX8_mix 9 = .ok (.lload_n 1, 1) := by decide +kernel
theorem dX8_mix_10 : decode cX8_mix 10 = .ok (.ladd, 1) := by decide +kernel
theorem dX8_mix_11 : decode cX8_mix 11 = .ok (.putfield 262, 3) := by decide +kernel
theorem dX8_mix_14 : decode cX8_mix 14 = .ok (.return_, 1) := by decide +kernel
theorem dX8_digest_0 : decode cX8_digest 0 = .ok (.aload_n 0, 1) := by decide +kernel
theorem dX8_digest_1 : decode cX8_digest 1 = .ok (.ldc2_w 265, 3) := by decide +kernel
theorem dX8_digest_4 : decode cX8_digest 4 = .ok (.putfield 262, 3) := by decide +kernel
theorem dX8_digest_7 : decode cX8_digest 7 = .ok (.iconst 0, 1) := by decide +kernel
theorem dX8_digest_8 : decode cX8_digest 8 = .ok (.istore_n 1, 1) := by decide +kernel
theorem dX8_digest_9 : decode cX8_digest 9 = .ok (.iload_n 1, 1) := by decide +kernel
theorem dX8_digest_10 : decode cX8_digest 10 = .ok (.aload_n 0, 1) := by decide +kernel
theorem dX8_digest_11 : decode cX8_digest 11 = .ok (.getfield 119, 3) := by decide +kernel
theorem dX8_digest_14 : decode cX8_digest 14 = .ok (.if_icmp .ge 44, 3) := by decide +kernel
theorem dX8_digest_17 : decode cX8_digest 17 = .ok (.iconst 0, 1) := by decide +kernel
theorem dX8_digest_18 : decode cX8_digest 18 = .ok (.istore_n 2, 1) := by decide +kernel
theorem dX8_digest_19 : decode cX8_digest 19 = .ok (.iload_n 2, 1) := by decide +kernel
theorem dX8_digest_20 : decode cX8_digest 20 = .ok (.bipush 9, 2) := by decide +kernel
theorem dX8_digest_22 : decode cX8_digest 22 = .ok (.if_icmp .ge 20, 3) := by decide +kernel
theorem dX8_digest_25 : decode cX8_digest 25 = .ok (.aload_n 0, 1) := by decide +kernel
theorem dX8_digest_26 : decode cX8_digest 26 = .ok (.aload_n 0, 1) := by decide +kernel
theorem dX8_digest_27 : decode cX8_digest 27 = .ok (.iload_n 1, 1) := by decide +kernel
theorem dX8_digest_28 : decode cX8_digest 28 = .ok (.iload_n 2, 1) := by decide +kernel
theorem dX8_digest_29 : decode cX8_digest 29 = .ok (.invokevirtual 152, 3) := by decide +kernel
theorem dX8_digest_32 : decode cX8_digest 32 = .ok (.i2l, 1) := by decide +kernel
theorem dX8_digest_33 : decode cX8_digest 33 = .ok (.invokevirtual 267, 3) := by decide +kernel
theorem dX8_digest_36 : decode cX8_digest 36 = .ok (.iinc 2 1, 3) := by decide +kernel
theorem dX8_digest_39 : decode cX8_digest 39 = .ok (.goto (-20), 3) := by decide +kernel
theorem dX8_digest_42 : decode cX8_digest 42 = .ok (.aload_n 0, 1) := by decide +kernel
theorem dX8_digest_43 : decode cX8_digest 43 = .ok (.aload_n 0, 1) := by decide +kernel
theorem dX8_digest_44 : decode cX8_digest 44 = .ok (.iload_n 1, 1) := by decide +kernel
theorem dX8_digest_45 : decode cX8_digest 45 = .ok (.invokevirtual 218, 3) := by decide +kernel
theorem dX8_digest_48 : decode cX8_digest 48 = .ok (.i2l, 1) := by decide +kernel
theorem dX8_digest_49 : decode cX8_digest 49 = .ok (.invokevirtual 267, 3) := by decide +kernel
theorem dX8_digest_52 : decode cX8_digest 52 = .ok (.iinc 1 1, 3) := by decide +kernel
theorem dX8_digest_55 : decode cX8_digest 55 = .ok (.goto (-46), 3) := by decide +kernel
theorem dX8_digest_58 : decode cX8_digest 58 = .ok (.iconst 0, 1) := by decide +kernel
theorem dX8_digest_59 : decode cX8_digest 59 = .ok (.istore_n 1, 1) := by decide +kernel
theorem dX8_digest_60 : decode cX8_digest 60 = .ok (.iload_n 1, 1) := by decide +kernel
theorem dX8_digest_61 : decode cX8_digest 61 = .ok (.aload_n 0, 1) := by decide +kernel
theorem dX8_digest_62 : decode cX8_digest 62 = .ok (.getfield 132, 3) := by decide +kernel
theorem dX8_digest_65 : decode cX8_digest 65 = .ok (.if_icmp .ge 55, 3) := by decide +kernel
theorem dX8_digest_68 : decode cX8_digest 68 = .ok (.iconst 0, 1) := by decide +kernel
theorem dX8_digest_69 : decode cX8_digest 69 = .ok (.istore_n 2, 1) := by decide +kernel
theorem dX8_digest_70 : decode cX8_digest 70 = .ok (.iload_n 2, 1) := by decide +kernel
theorem dX8_digest_71 : decode cX8_digest 71 = .ok (.iconst 3, 1) := by decide +kernel
theorem dX8_digest_72 : decode cX8_digest 72 = .ok (.if_icmp .ge 20, 3) := by decide +kernel
theorem dX8_digest_75 : decode cX8_digest 75 = .ok (.aload_n 0, 1) := by decide +kernel
theorem dX8_digest_76 : decode cX8_digest 76 = .ok (.aload_n 0, 1) := by decide +kernel
theorem dX8_digest_77 : decode cX8_digest 77 = .ok (.iload_n 1, 1) := by decide +kernel
theorem dX8_digest_78 : decode cX8_digest 78 = .ok (.iload_n 2, 1) := by decide +kernel
theorem dX8_digest_79 : decode cX8_digest 79 = .ok (.invokevirtual 159, 3) := by decide +kernel
theorem dX8_digest_82 : decode cX8_digest 82 = .ok (.i2l, 1) := by decide +kernel
theorem dX8_digest_83 : decode cX8_digest 83 = .ok (.invokevirtual 267, 3) := by decide +kernel
theorem dX8_digest_86 : decode cX8_digest 86 = .ok (.iinc 2 1, 3) := by decide +kernel
theorem dX8_digest_89 : decode cX8_digest 89 = .ok (.goto (-19), 3) := by decide +kernel
theorem dX8_digest_92 : decode cX8_digest 92 = .ok (.aload_n 0, 1) := by decide +kernel
theorem dX8_digest_93 : decode cX8_digest 93 = .ok (.aload_n 0, 1) := by decide +kernel
theorem dX8_digest_94 : decode cX8_digest 94 = .ok (.iload_n 1, 1) := by decide +kernel
theorem dX8_digest_95 : decode cX8_digest 95 = .ok (.iconst 0, 1) := by decide +kernel
theorem dX8_digest_96 : decode cX8_digest 96 = .ok (.invokevirtual 200, 3) := by decide +kernel
theorem dX8_digest_99 : decode cX8_digest 99 = .ok (.i2l, 1) := by decide +kernel
theorem dX8_digest_100 : decode cX8_digest 100 = .ok (.invokevirtual 267, 3) := by decide +kernel
theorem dX8_digest_103 : decode cX8_digest 103 = .ok (.aload_n 0, 1) := by decide +kernel
theorem dX8_digest_104 : decode cX8_digest 104 = .ok (.aload_n 0, 1) := by decide +kernel
theorem dX8_digest_105 : decode cX8_digest 105 = .ok (.iload_n 1, 1) := by decide +kernel
theorem dX8_digest_106 : decode cX8_digest 106 = .ok (.iconst 1, 1) := by decide +kernel
theorem dX8_digest_107 : decode cX8_digest 107 = .ok (.invokevirtual 200, 3) := by decide +kernel
theorem dX8_digest_110 : decode cX8_digest 110 = .ok (.i2l, 1) := by decide +kernel
theorem dX8_digest_111 : decode cX8_digest 111 = .ok (.invokevirtual 267, 3) := by decide +kernel
theorem dX8_digest_114 : decode cX8_digest 114 = .ok (.iinc 1 1, 3) := by decide +kernel
theorem dX8_digest_117 : decode cX8_digest 117 = .ok (.goto (-57), 3) := by decide +kernel
theorem dX8_digest_120 : decode cX8_digest 120 = .ok (.aload_n 0, 1) := by decide +kernel
theorem dX8_digest_121 : decode cX8_digest 121 = .ok (.getfield 119, 3) := by decide +kernel
theorem dX8_digest_124 : decode cX8_digest 124 = .ok (.ifCond .le 12, 3) := by decide +kernel
theorem dX8_digest_127 : decode cX8_digest 127 = .ok (.aload_n 0, 1) := by decide +kernel
theorem dX8_digest_128 : decode cX8_digest 128 = .ok (.aload_n 0, 1) := by decide +kernel
theorem dX8_digest_129 : decode cX8_digest 129 = .ok (.invokevirtual 215, 3) := by decide +kernel
theorem dX8_digest_132 : decode cX8_digest 132 = .ok (.i2l, 1) := by decide +kernel
theorem dX8_digest_133 : decode cX8_digest 133 = .ok (.invokevirtual 267, 3) := by decide +kernel
theorem dX8_digest_136 : decode cX8_digest 136 = .ok (.iconst 0, 1) := by decide +kernel
theorem dX8_digest_137 : decode cX8_digest 137 = .ok (.istore_n 1, 1) := by decide +kernel
theorem dX8_digest_138 : decode cX8_digest 138 = .ok (.iload_n 1, 1) := by decide +kernel
theorem dX8_digest_139 : decode cX8_digest 139 = .ok (.aload_n 0, 1) := by decide +kernel
theorem dX8_digest_140 : decode cX8_digest 140 = .ok (.getfield 90, 3) := by decide +kernel
theorem dX8_digest_143 : decode cX8_digest 143 = .ok (.if_icmp .ge 20, 3) := by decide +kernel
theorem dX8_digest_146 : decode cX8_digest 146 = .ok (.aload_n 0, 1) := by decide +kernel
theorem dX8_digest_147 : decode cX8_digest 147 = .ok (.aload_n 0, 1) := by decide +kernel
theorem dX8_digest_148 : decode cX8_digest 148 = .ok (.getfield 43, 3) := by decide +kernel
theorem dX8_digest_151 : decode cX8_digest 151 = .ok (.iload_n 1, 1) := by decide +kernel
theorem dX8_digest_152 : decode cX8_digest 152 = .ok (.baload, 1) := by decide +kernel
theorem dX8_digest_153 : decode cX8_digest 153 = .ok (.i2l, 1) := by decide +kernel
theorem dX8_digest_154 : decode cX8_digest 154 = .ok (.invokevirtual 267, 3) := by decide +kernel
theorem dX8_digest_157 : decode cX8_digest 157 = .ok (.iinc 1 1, 3) := by decide +kernel
theorem dX8_digest_160 : decode cX8_digest 160 = .ok (.goto (-22), 3) := by decide +kernel
theorem dX8_digest_163 : decode cX8_digest 163 = .ok (.iconst 0, 1) := by decide +kernel
theorem dX8_digest_164 : decode cX8_digest 164 = .ok (.istore_n 1, 1) := by decide +kernel
theorem dX8_digest_165 : decode cX8_digest 165 = .ok (.iload_n 1, 1) := by decide +kernel
theorem dX8_digest_166 : decode cX8_digest 166 = .ok (.bipush 11, 2) := by decide +kernel
theorem dX8_digest_168 : decode cX8_digest 168 = .ok (.if_icmp .ge 19, 3) := by decide +kernel
theorem dX8_digest_171 : decode cX8_digest 171 = .ok (.aload_n 0, 1) := by decide +kernel
theorem dX8_digest_172 : decode cX8_digest 172 = .ok (.aload_n 0, 1) := by decide +kernel
theorem dX8_digest_173 : decode cX8_digest 173 = .ok (.iload_n 1, 1) := by decide +kernel
theorem dX8_digest_174 : decode cX8_digest 174 = .ok (.invokevirtual 257, 3) := by decide +kernel
theorem dX8_digest_177 : decode cX8_digest 177 = .ok (.i2l, 1) := by decide +kernel
theorem dX8_digest_178 : decode cX8_digest 178 = .ok (.invokevirtual 267, 3) := by decide +kernel
theorem dX8_digest_181 : decode cX8_digest 181 = .ok (.iinc 1 1, 3) := by decide +kernel
theorem dX8_digest_184 : decode cX8_digest 184 = .ok (.goto (-19), 3) := by decide +kernel
theorem dX8_digest_187 : decode cX8_digest 187 = .ok (.aload_n 0, 1) := by decide +kernel
theorem dX8_digest_188 : decode cX8_digest 188 = .ok (.getfield 262, 3) := by decide +kernel
theorem dX8_digest_191 : decode cX8_digest 191 = .ok (.lreturn, 1) := by decide +kernel
