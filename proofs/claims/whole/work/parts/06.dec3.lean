theorem dX6_tick_215 : decode cX6_tick 215 = .ok (.iaload, 1) := by decide +kernel
theorem dX6_tick_216 : decode cX6_tick 216 = .ok (.iconst 1, 1) := by decide +kernel
theorem dX6_tick_217 : decode cX6_tick 217 = .ok (.iadd, 1) := by decide +kernel
theorem dX6_tick_218 : decode cX6_tick 218 = .ok (.iastore, 1) := by decide +kernel
theorem dX6_tick_219 : decode cX6_tick 219 = .ok (.aload_n 0, 1) := by decide +kernel
theorem dX6_tick_220 : decode cX6_tick 220 = .ok (.getfield 7, 3) := by decide +kernel
theorem dX6_tick_223 : decode cX6_tick 223 = .ok (.bipush 9, 2) := by decide +kernel
theorem dX6_tick_225 : decode cX6_tick 225 = .ok (.iaload, 1) := by decide +kernel
theorem dX6_tick_226 : decode cX6_tick 226 = .ok (.iload_n 1, 1) := by decide +kernel
theorem dX6_tick_227 : decode cX6_tick 227 = .ok (.isub, 1) := by decide +kernel
theorem dX6_tick_228 : decode cX6_tick 228 = .ok (.ireturn, 1) := by decide +kernel
theorem dX6_goBy_0 : decode cX6_goBy 0 = .ok (.iconst 0, 1) := by decide +kernel
theorem dX6_goBy_1 : decode cX6_goBy 1 = .ok (.istore_n 2, 1) := by decide +kernel
theorem dX6_goBy_2 : decode cX6_goBy 2 = .ok (.iconst 0, 1) := by decide +kernel
theorem dX6_goBy_3 : decode cX6_goBy 3 = .ok (.istore_n 3, 1) := by decide +kernel
theorem dX6_goBy_4 : decode cX6_goBy 4 = .ok (.iload_n 3, 1) := by decide +kernel
theorem dX6_goBy_5 : decode cX6_goBy 5 = .ok (.iload_n 1, 1) := by decide +kernel
theorem dX6_goBy_6 : decode cX6_goBy 6 = .ok (.if_icmp .ge 16, 3) := by decide +kernel
theorem dX6_goBy_9 : decode cX6_goBy 9 = .ok (.iload_n 2, 1) := by decide +kernel
theorem dX6_goBy_10 : decode cX6_goBy 10 = .ok (.aload_n 0, 1) := by decide +kernel
theorem dX6_goBy_11 : decode cX6_goBy 11 = .ok (.invokevirtual 127, 3) := by decide +kernel
theorem dX6_goBy_14 : decode cX6_goBy 14 = .ok (.iadd, 1) := by decide +kernel
theorem dX6_goBy_15 : decode cX6_goBy 15 = .ok (.istore_n 2, 1) := by decide +kernel
theorem dX6_goBy_16 : decode cX6_goBy 16 = .ok (.iinc 3 1, 3) := by decide +kernel
theorem dX6_goBy_19 : decode cX6_goBy 19 = .ok (.goto (-15), 3) := by decide +kernel
theorem dX6_goBy_22 : decode cX6_goBy 22 = .ok (.iload_n 2, 1) := by decide +kernel
theorem dX6_goBy_23 : decode cX6_goBy 23 = .ok (.ireturn, 1) := by decide +kernel
theorem dX6_pass_0 : decode cX6_pass 0 = .ok (.iload_n 1, 1) := by decide +kernel
theorem dX6_pass_1 : decode cX6_pass 1 = .ok (.iconst 1, 1) := by decide +kernel
theorem dX6_pass_2 : decode cX6_pass 2 = .ok (.bipush 99, 2) := by decide +kernel
theorem dX6_pass_4 : decode cX6_pass 4 = .ok (.invokestatic 43, 3) := by decide +kernel
theorem dX6_pass_7 : decode cX6_pass 7 = .ok (.ifCond .ne 6, 3) := by decide +kernel
theorem dX6_pass_10 : decode cX6_pass 10 = .ok (.bipush (-2), 2) := by decide +kernel
theorem dX6_pass_12 : decode cX6_pass 12 = .ok (.ireturn, 1) := by decide +kernel
theorem dX6_pass_13 : decode cX6_pass 13 = .ok (.aload_n 0, 1) := by decide +kernel
theorem dX6_pass_14 : decode cX6_pass 14 = .ok (.getfield 7, 3) := by decide +kernel
theorem dX6_pass_17 : decode cX6_pass 17 = .ok (.iconst 0, 1) := by decide +kernel
theorem dX6_pass_18 : decode cX6_pass 18 = .ok (.iaload, 1) := by decide +kernel
theorem dX6_pass_19 : decode cX6_pass 19 = .ok (.iload_n 1, 1) := by decide +kernel
theorem dX6_pass_20 : decode cX6_pass 20 = .ok (.iadd, 1) := by decide +kernel
theorem dX6_pass_21 : decode cX6_pass 21 = .ok (.sipush 9999, 3) := by decide +kernel
theorem dX6_pass_24 : decode cX6_pass 24 = .ok (.if_icmp .le 6, 3) := by decide +kernel
theorem dX6_pass_27 : decode cX6_pass 27 = .ok (.bipush (-3), 2) := by decide +kernel
theorem dX6_pass_29 : decode cX6_pass 29 = .ok (.ireturn, 1) := by decide +kernel
theorem dX6_pass_30 : decode cX6_pass 30 = .ok (.aload_n 0, 1) := by decide +kernel
theorem dX6_pass_31 : decode cX6_pass 31 = .ok (.invokevirtual 51, 3) := by decide +kernel
theorem dX6_pass_34 : decode cX6_pass 34 = .ok (.aload_n 0, 1) := by decide +kernel
theorem dX6_pass_35 : decode cX6_pass 35 = .ok (.iload_n 1, 1) := by decide +kernel
theorem dX6_pass_36 : decode cX6_pass 36 = .ok (.invokevirtual 130, 3) := by decide +kernel
theorem dX6_pass_39 : decode cX6_pass 39 = .ok (.ireturn, 1) := by decide +kernel
theorem dX6_sign_0 : decode cX6_sign 0 = .ok (.aload_n 0, 1) := by decide +kernel
theorem dX6_sign_1 : decode cX6_sign 1 = .ok (.getfield 133, 3) := by decide +kernel
theorem dX6_sign_4 : decode cX6_sign 4 = .ok (.aload_n 0, 1) := by decide +kernel
theorem dX6_sign_5 : decode cX6_sign 5 = .ok (.getfield 136, 3) := by decide +kernel
theorem dX6_sign_8 : decode cX6_sign 8 = .ok (.if_icmp .ge 15, 3) := by decide +kernel
theorem dX6_sign_11 : decode cX6_sign 11 = .ok (.aload_n 0, 1) := by decide +kernel
theorem dX6_sign_12 : decode cX6_sign 12 = .ok (.getfield 22, 3) := by decide +kernel
theorem dX6_sign_15 : decode cX6_sign 15 = .ok (.aload_n 0, 1) := by decide +kernel
theorem dX6_sign_16 : decode cX6_sign 16 = .ok (.getfield 133, 3) := by decide +kernel
theorem dX6_sign_19 : decode cX6_sign 19 = .ok (.iaload, 1) := by decide +kernel
theorem dX6_sign_20 : decode cX6_sign 20 = .ok (.goto 4, 3) := by decide +kernel
theorem dX6_sign_23 : decode cX6_sign 23 = .ok (.iconst 0, 1) := by decide +kernel
theorem dX6_sign_24 : decode cX6_sign 24 = .ok (.istore_n 3, 1) := by decide +kernel
theorem dX6_sign_25 : decode cX6_sign 25 = .ok (.aload_n 0, 1) := by decide +kernel
theorem dX6_sign_26 : decode cX6_sign 26 = .ok (.aload_n 0, 1) := by decide +kernel
theorem dX6_sign_27 : decode cX6_sign 27 = .ok (.getfield 139, 3) := by decide +kernel
theorem dX6_sign_30 : decode cX6_sign 30 = .ok (.ifCond .ne 12, 3) := by decide +kernel
theorem dX6_sign_33 : decode cX6_sign 33 = .ok (.iload_n 3, 1) := by decide +kernel
theorem dX6_sign_34 : decode cX6_sign 34 = .ok (.iload_n 1, 1) := by decide +kernel
theorem dX6_sign_35 : decode cX6_sign 35 = .ok (.iload_n 2, 1) := by decide +kernel
theorem dX6_sign_36 : decode cX6_sign 36 = .ok (.invokestatic 43, 3) := by decide +kernel
theorem dX6_sign_39 : decode cX6_sign 39 = .ok (.ifCond .ne 7, 3) := by decide +kernel
theorem dX6_sign_42 : decode cX6_sign 42 = .ok (.iconst 1, 1) := by decide +kernel
theorem dX6_sign_43 : decode cX6_sign 43 = .ok (.goto 4, 3) := by decide +kernel
theorem dX6_sign_46 : decode cX6_sign 46 = .ok (.iconst 0, 1) := by decide +kernel
theorem dX6_sign_47 : decode cX6_sign 47 = .ok (.putfield 139, 3) := by decide +kernel
theorem dX6_sign_50 : decode cX6_sign 50 = .ok (.aload_n 0, 1) := by decide +kernel
theorem dX6_sign_51 : decode cX6_sign 51 = .ok (.dup, 1) := by decide +kernel
theorem dX6_sign_52 : decode cX6_sign 52 = .ok (.getfield 133, 3) := by decide +kernel
theorem dX6_sign_55 : decode cX6_sign 55 = .ok (.aload_n 0, 1) := by decide +kernel
theorem dX6_sign_56 : decode cX6_sign 56 = .ok (.getfield 139, 3) := by decide +kernel
theorem dX6_sign_59 : decode cX6_sign 59 = .ok (.ifCond .eq 7, 3) := by decide +kernel
theorem dX6_sign_62 : decode cX6_sign 62 = .ok (.iconst 0, 1) := by decide +kernel
theorem dX6_sign_63 : decode cX6_sign 63 = .ok (.goto 4, 3) := by decide +kernel
theorem dX6_sign_66 : decode cX6_sign 66 = .ok (.iconst 1, 1) := by decide +kernel
theorem dX6_sign_67 : decode cX6_sign 67 = .ok (.iadd, 1) := by decide +kernel
theorem dX6_sign_68 : decode cX6_sign 68 = .ok (.putfield 133, 3) := by decide +kernel
theorem dX6_sign_71 : decode cX6_sign 71 = .ok (.iload_n 3, 1) := by decide +kernel
theorem dX6_sign_72 : decode cX6_sign 72 = .ok (.ireturn, 1) := by decide +kernel
theorem dX6_order_0 : decode cX6_order 0 = .ok (.aload_n 0, 1) := by decide +kernel
theorem dX6_order_1 : decode cX6_order 1 = .ok (.getfield 133, 3) := by decide +kernel
theorem dX6_order_4 : decode cX6_order 4 = .ok (.aload_n 0, 1) := by decide +kernel
theorem dX6_order_5 : decode cX6_order 5 = .ok (.getfield 136, 3) := by decide +kernel
theorem dX6_order_8 : decode cX6_order 8 = .ok (.if_icmp .ge 15, 3) := by decide +kernel
theorem dX6_order_11 : decode cX6_order 11 = .ok (.aload_n 0, 1) := by decide +kernel
theorem dX6_order_12 : decode cX6_order 12 = .ok (.getfield 22, 3) := by decide +kernel
theorem dX6_order_15 : decode cX6_order 15 = .ok (.aload_n 0, 1) := by decide +kernel
theorem dX6_order_16 : decode cX6_order 16 = .ok (.getfield 133, 3) := by decide +kernel
theorem dX6_order_19 : decode cX6_order 19 = .ok (.iaload, 1) := by decide +kernel
theorem dX6_order_20 : decode cX6_order 20 = .ok (.goto 4, 3) := by decide +kernel
theorem dX6_order_23 : decode cX6_order 23 = .ok (.iconst 0, 1) := by decide +kernel
theorem dX6_order_24 : decode cX6_order 24 = .ok (.istore_n 1, 1) := by decide +kernel
theorem dX6_order_25 : decode cX6_order 25 = .ok (.iload_n 1, 1) := by decide +kernel
theorem dX6_order_26 : decode cX6_order 26 = .ok (.bipush 114, 2) := by decide +kernel
theorem dX6_order_28 : decode cX6_order 28 = .ok (.if_icmp .eq 15, 3) := by decide +kernel
theorem dX6_order_31 : decode cX6_order 31 = .ok (.iload_n 1, 1) := by decide +kernel
theorem dX6_order_32 : decode cX6_order 32 = .ok (.bipush 102, 2) := by decide +kernel
theorem dX6_order_34 : decode cX6_order 34 = .ok (.if_icmp .eq 9, 3) := by decide +kernel
theorem dX6_order_37 : decode cX6_order 37 = .ok (.iload_n 1, 1) := by decide +kernel
theorem dX6_order_38 : decode cX6_order 38 = .ok (.bipush 112, 2) := by decide +kernel
theorem dX6_order_40 : decode cX6_order 40 = .ok (.if_icmp .ne 7, 3) := by decide +kernel
theorem dX6_order_43 : decode cX6_order 43 = .ok (.iconst 1, 1) := by decide +kernel
theorem dX6_order_44 : decode cX6_order 44 = .ok (.goto 4, 3) := by decide +kernel
theorem dX6_order_47 : decode cX6_order 47 = .ok (.iconst 0, 1) := by decide +kernel
theorem dX6_order_48 : decode cX6_order 48 = .ok (.istore_n 2, 1) := by decide +kernel
theorem dX6_order_49 : decode cX6_order 49 = .ok (.aload_n 0, 1) := by decide +kernel
theorem dX6_order_50 : decode cX6_order 50 = .ok (.getfield 29, 3) := by decide +kernel
theorem dX6_order_53 : decode cX6_order 53 = .ok (.iconst 0, 1) := by decide +kernel
theorem dX6_order_54 : decode cX6_order 54 = .ok (.iload_n 2, 1) := by decide +kernel
theorem dX6_order_55 : decode cX6_order 55 = .ok (.ifCond .eq 12, 3) := by decide +kernel
theorem dX6_order_58 : decode cX6_order 58 = .ok (.aload_n 0, 1) := by decide +kernel
theorem dX6_order_59 : decode cX6_order 59 = .ok (.iload_n 1, 1) := by decide +kernel
theorem dX6_order_60 : decode cX6_order 60 = .ok (.iload_n 1, 1) := by decide +kernel
theorem dX6_order_61 : decode cX6_order 61 = .ok (.invokevirtual 142, 3) := by decide +kernel
theorem dX6_order_64 : decode cX6_order 64 = .ok (.goto 4, 3) := by decide +kernel
theorem dX6_order_67 : decode cX6_order 67 = .ok (.iconst 0, 1) := by decide +kernel
theorem dX6_order_68 : decode cX6_order 68 = .ok (.iastore, 1) := by decide +kernel
theorem dX6_order_69 : decode cX6_order 69 = .ok (.aload_n 0, 1) := by decide +kernel
theorem dX6_order_70 : decode cX6_order 70 = .ok (.getfield 29, 3) := by decide +kernel
theorem dX6_order_73 : decode cX6_order 73 = .ok (.iconst 1, 1) := by decide +kernel
theorem dX6_order_74 : decode cX6_order 74 = .ok (.iload_n 1, 1) := by decide +kernel
theorem dX6_order_75 : decode cX6_order 75 = .ok (.bipush 112, 2) := by decide +kernel
theorem dX6_order_77 : decode cX6_order 77 = .ok (.if_icmp .ne 17, 3) := by decide +kernel
theorem dX6_order_80 : decode cX6_order 80 = .ok (.aload_n 0, 1) := by decide +kernel
theorem dX6_order_81 : decode cX6_order 81 = .ok (.bipush 49, 2) := by decide +kernel
theorem dX6_order_83 : decode cX6_order 83 = .ok (.bipush 57, 2) := by decide +kernel
theorem dX6_order_85 : decode cX6_order 85 = .ok (.invokevirtual 142, 3) := by decide +kernel
theorem dX6_order_88 : decode cX6_order 88 = .ok (.bipush 48, 2) := by decide +kernel
theorem dX6_order_90 : decode cX6_order 90 = .ok (.isub, 1) := by decide +kernel
theorem dX6_order_91 : decode cX6_order 91 = .ok (.goto 32, 3) := by decide +kernel
theorem dX6_order_94 : decode cX6_order 94 = .ok (.iload_n 2, 1) := by decide +kernel
theorem dX6_order_95 : decode cX6_order 95 = .ok (.ifCond .eq 17, 3) := by decide +kernel
theorem dX6_order_98 : decode cX6_order 98 = .ok (.aload_n 0, 1) := by decide +kernel
theorem dX6_order_99 : decode cX6_order 99 = .ok (.bipush 48, 2) := by decide +kernel
theorem dX6_order_101 : decode cX6_order 101 = .ok (.bipush 55, 2) := by decide +kernel
theorem dX6_order_103 : decode cX6_order 103 = .ok (.invokevirtual 142, 3) := by decide +kernel
theorem dX6_order_106 : decode cX6_order 106 = .ok (.bipush 48, 2) := by decide +kernel
theorem dX6_order_108 : decode cX6_order 108 = .ok (.isub, 1) := by decide +kernel
theorem dX6_order_109 : decode cX6_order 109 = .ok (.goto 14, 3) := by decide +kernel
theorem dX6_order_112 : decode cX6_order 112 = .ok (.aload_n 0, 1) := by decide +kernel
theorem dX6_order_113 : decode cX6_order 113 = .ok (.bipush 48, 2) := by decide +kernel
theorem dX6_order_115 : decode cX6_order 115 = .ok (.bipush 51, 2) := by decide +kernel
theorem dX6_order_117 : decode cX6_order 117 = .ok (.invokevirtual 142, 3) := by decide +kernel
theorem dX6_order_120 : decode cX6_order 120 = .ok (.bipush 48, 2) := by decide +kernel
theorem dX6_order_122 : decode cX6_order 122 = .ok (.isub, 1) := by decide +kernel
theorem dX6_order_123 : decode cX6_order 123 = .ok (.iastore, 1) := by decide +kernel
theorem dX6_order_124 : decode cX6_order 124 = .ok (.iload_n 2, 1) := by decide +kernel
theorem dX6_order_125 : decode cX6_order 125 = .ok (.ifCond .eq 4, 3) := by decide +kernel
theorem dX6_order_128 : decode cX6_order 128 = .ok (.return_, 1) := by decide +kernel
theorem dX6_order_129 : decode cX6_order 129 = .ok (.aload_n 0, 1) := by decide +kernel
theorem dX6_order_130 : decode cX6_order 130 = .ok (.bipush 62, 2) := by decide +kernel
theorem dX6_order_132 : decode cX6_order 132 = .ok (.bipush 62, 2) := by decide +kernel
theorem dX6_order_134 : decode cX6_order 134 = .ok (.invokevirtual 142, 3) := by decide +kernel
theorem dX6_order_137 : decode cX6_order 137 = .ok (.istore_n 3, 1) := by decide +kernel
theorem dX6_order_138 : decode cX6_order 138 = .ok (.aload_n 0, 1) := by decide +kernel
theorem dX6_order_139 : decode cX6_order 139 = .ok (.getfield 29, 3) := by decide +kernel
theorem dX6_order_142 : decode cX6_order 142 = .ok (.iconst 2, 1) := by decide +kernel
theorem dX6_order_143 : decode cX6_order 143 = .ok (.aload_n 0, 1) := by decide +kernel
theorem dX6_order_144 : decode cX6_order 144 = .ok (.bipush 48, 2) := by decide +kernel
theorem dX6_order_146 : decode cX6_order 146 = .ok (.bipush 55, 2) := by decide +kernel
theorem dX6_order_148 : decode cX6_order 148 = .ok (.invokevirtual 142, 3) := by decide +kernel
theorem dX6_order_151 : decode cX6_order 151 = .ok (.bipush 48, 2) := by decide +kernel
theorem dX6_order_153 : decode cX6_order 153 = .ok (.isub, 1) := by decide +kernel
theorem dX6_order_154 : decode cX6_order 154 = .ok (.iastore, 1) := by decide +kernel
theorem dX6_order_155 : decode cX6_order 155 = .ok (.aload_n 0, 1) := by decide +kernel
theorem dX6_order_156 : decode cX6_order 156 = .ok (.bipush 61, 2) := by decide +kernel
theorem dX6_order_158 : decode cX6_order 158 = .ok (.bipush 61, 2) := by decide +kernel
theorem dX6_order_160 : decode cX6_order 160 = .ok (.invokevirtual 142, 3) := by decide +kernel
theorem dX6_order_163 : decode cX6_order 163 = .ok (.istore 4, 2) := by decide +kernel
theorem dX6_order_165 : decode cX6_order 165 = .ok (.aload_n 0, 1) := by decide +kernel
theorem dX6_order_166 : decode cX6_order 166 = .ok (.getfield 29, 3) := by decide +kernel
theorem dX6_order_169 : decode cX6_order 169 = .ok (.iconst 3, 1) := by decide +kernel
theorem dX6_order_170 : decode cX6_order 170 = .ok (.aload_n 0, 1) := by decide +kernel
theorem dX6_order_171 : decode cX6_order 171 = .ok (.bipush 48, 2) := by decide +kernel
theorem dX6_order_173 : decode cX6_order 173 = .ok (.bipush 57, 2) := by decide +kernel
theorem dX6_order_175 : decode cX6_order 175 = .ok (.invokevirtual 142, 3) := by decide +kernel
theorem dX6_order_178 : decode cX6_order 178 = .ok (.bipush 48, 2) := by decide +kernel
theorem dX6_order_180 : decode cX6_order 180 = .ok (.isub, 1) := by decide +kernel
theorem dX6_order_181 : decode cX6_order 181 = .ok (.iastore, 1) := by decide +kernel
theorem dX6_order_182 : decode cX6_order 182 = .ok (.aload_n 0, 1) := by decide +kernel
theorem dX6_order_183 : decode cX6_order 183 = .ok (.getfield 139, 3) := by decide +kernel
theorem dX6_order_186 : decode cX6_order 186 = .ok (.ifCond .ne 69, 3) := by decide +kernel
theorem dX6_order_189 : decode cX6_order 189 = .ok (.aload_n 0, 1) := by decide +kernel
theorem dX6_order_190 : decode cX6_order 190 = .ok (.getfield 29, 3) := by decide +kernel
theorem dX6_order_193 : decode cX6_order 193 = .ok (.iconst 3, 1) := by decide +kernel
theorem dX6_order_194 : decode cX6_order 194 = .ok (.iaload, 1) := by decide +kernel
theorem dX6_order_195 : decode cX6_order 195 = .ok (.ifCond .le 60, 3) := by decide +kernel
theorem dX6_order_198 : decode cX6_order 198 = .ok (.aload_n 0, 1) := by decide +kernel
theorem dX6_order_199 : decode cX6_order 199 = .ok (.getfield 133, 3) := by decide +kernel
theorem dX6_order_202 : decode cX6_order 202 = .ok (.aload_n 0, 1) := by decide +kernel
theorem dX6_order_203 : decode cX6_order 203 = .ok (.getfield 136, 3) := by decide +kernel
theorem dX6_order_206 : decode cX6_order 206 = .ok (.if_icmp .ge 49, 3) := by decide +kernel
theorem dX6_order_209 : decode cX6_order 209 = .ok (.aload_n 0, 1) := by decide +kernel
theorem dX6_order_210 : decode cX6_order 210 = .ok (.getfield 22, 3) := by decide +kernel
theorem dX6_order_213 : decode cX6_order 213 = .ok (.aload_n 0, 1) := by decide +kernel
theorem dX6_order_214 : decode cX6_order 214 = .ok (.getfield 133, 3) := by decide +kernel
theorem dX6_order_217 : decode cX6_order 217 = .ok (.iaload, 1) := by decide +kernel
theorem dX6_order_218 : decode cX6_order 218 = .ok (.bipush 48, 2) := by decide +kernel
theorem dX6_order_220 : decode cX6_order 220 = .ok (.bipush 57, 2) := by decide +kernel
theorem dX6_order_222 : decode cX6_order 222 = .ok (.invokestatic 43, 3) := by decide +kernel
theorem dX6_order_225 : decode cX6_order 225 = .ok (.ifCond .eq 30, 3) := by decide +kernel
theorem dX6_order_228 : decode cX6_order 228 = .ok (.aload_n 0, 1) := by decide +kernel
theorem dX6_order_229 : decode cX6_order 229 = .ok (.getfield 29, 3) := by decide +kernel
theorem dX6_order_232 : decode cX6_order 232 = .ok (.iconst 3, 1) := by decide +kernel
theorem dX6_order_233 : decode cX6_order 233 = .ok (.bipush 10, 2) := by decide +kernel
theorem dX6_order_235 : decode cX6_order 235 = .ok (.aload_n 0, 1) := by decide +kernel
theorem dX6_order_236 : decode cX6_order 236 = .ok (.getfield 29, 3) := by decide +kernel
theorem dX6_order_239 : decode cX6_order 239 = .ok (.iconst 3, 1) := by decide +kernel
theorem dX6_order_240 : decode cX6_order 240 = .ok (.iaload, 1) := by decide +kernel
theorem dX6_order_241 : decode cX6_order 241 = .ok (.imul, 1) := by decide +kernel
theorem dX6_order_242 : decode cX6_order 242 = .ok (.aload_n 0, 1) := by decide +kernel
theorem dX6_order_243 : decode cX6_order 243 = .ok (.bipush 48, 2) := by decide +kernel
theorem dX6_order_245 : decode cX6_order 245 = .ok (.bipush 57, 2) := by decide +kernel
theorem dX6_order_247 : decode cX6_order 247 = .ok (.invokevirtual 142, 3) := by decide +kernel
theorem dX6_order_250 : decode cX6_order 250 = .ok (.iadd, 1) := by decide +kernel
theorem dX6_order_251 : decode cX6_order 251 = .ok (.bipush 48, 2) := by decide +kernel
theorem dX6_order_253 : decode cX6_order 253 = .ok (.isub, 1) := by decide +kernel
theorem dX6_order_254 : decode cX6_order 254 = .ok (.iastore, 1) := by decide +kernel
theorem dX6_order_255 : decode cX6_order 255 = .ok (.return_, 1) := by decide +kernel
theorem dX6_does_0 : decode cX6_does 0 = .ok (.aload_n 0, 1) := by decide +kernel
theorem dX6_does_1 : decode cX6_does 1 = .ok (.getfield 29, 3) := by decide +kernel
theorem dX6_does_4 : decode cX6_does 4 = .ok (.iconst 1, 1) := by decide +kernel
theorem dX6_does_5 : decode cX6_does 5 = .ok (.iaload, 1) := by decide +kernel
theorem dX6_does_6 : decode cX6_does 6 = .ok (.istore_n 1, 1) := by decide +kernel
theorem dX6_does_7 : decode cX6_does 7 = .ok (.aload_n 0, 1) := by decide +kernel
theorem dX6_does_8 : decode cX6_does 8 = .ok (.getfield 29, 3) := by decide +kernel
theorem dX6_does_11 : decode cX6_does 11 = .ok (.iconst 0, 1) := by decide +kernel
theorem dX6_does_12 : decode cX6_does 12 = .ok (.iaload, 1) := by decide +kernel
theorem dX6_does_13 : decode cX6_does 13 = .ok (.lookupswitch 121 #[(0, 35), (102, 89), (114, 66)], 35) := by decide +kernel
theorem dX6_does_48 : decode cX6_does 48 = .ok (.aload_n 0, 1) := by decide +kernel
theorem dX6_does_49 : decode cX6_does 49 = .ok (.iload_n 1, 1) := by decide +kernel
theorem dX6_does_50 : decode cX6_does 50 = .ok (.invokevirtual 74, 3) := by decide +kernel
theorem dX6_does_53 : decode cX6_does 53 = .ok (.ifCond .eq 23, 3) := by decide +kernel
theorem dX6_does_56 : decode cX6_does 56 = .ok (.aload_n 0, 1) := by decide +kernel
theorem dX6_does_57 : decode cX6_does 57 = .ok (.iload_n 1, 1) := by decide +kernel
theorem dX6_does_58 : decode cX6_does 58 = .ok (.aload_n 0, 1) := by decide +kernel
theorem dX6_does_59 : decode cX6_does 59 = .ok (.getfield 29, 3) := by decide +kernel
theorem dX6_does_62 : decode cX6_does 62 = .ok (.iconst 2, 1) := by decide +kernel
theorem dX6_does_63 : decode cX6_does 63 = .ok (.iaload, 1) := by decide +kernel
theorem dX6_does_64 : decode cX6_does 64 = .ok (.aload_n 0, 1) := by decide +kernel
theorem dX6_does_65 : decode cX6_does 65 = .ok (.getfield 29, 3) := by decide +kernel
theorem dX6_does_68 : decode cX6_does 68 = .ok (.iconst 3, 1) := by decide +kernel
theorem dX6_does_69 : decode cX6_does 69 = .ok (.iaload, 1) := by decide +kernel
theorem dX6_does_70 : decode cX6_does 70 = .ok (.invokevirtual 77, 3) := by decide +kernel
theorem dX6_does_73 : decode cX6_does 73 = .ok (.goto 5, 3) := by decide +kernel
theorem dX6_does_76 : decode cX6_does 76 = .ok (.bipush (-3), 2) := by decide +kernel
theorem dX6_does_78 : decode cX6_does 78 = .ok (.ireturn, 1) := by decide +kernel
theorem dX6_does_79 : decode cX6_does 79 = .ok (.aload_n 0, 1) := by decide +kernel
theorem dX6_does_80 : decode cX6_does 80 = .ok (.getfield 7, 3) := by decide +kernel
theorem dX6_does_83 : decode cX6_does 83 = .ok (.iload_n 1, 1) := by decide +kernel
theorem dX6_does_84 : decode cX6_does 84 = .ok (.iconst 0, 1) := by decide +kernel
theorem dX6_does_85 : decode cX6_does 85 = .ok (.invokestatic 32, 3) := by decide +kernel
theorem dX6_does_88 : decode cX6_does 88 = .ok (.iaload, 1) := by decide +kernel
theorem dX6_does_89 : decode cX6_does 89 = .ok (.ifCond .ne 7, 3) := by decide +kernel
theorem dX6_does_92 : decode cX6_does 92 = .ok (.iconst 0, 1) := by decide +kernel
theorem dX6_does_93 : decode cX6_does 93 = .ok (.goto 8, 3) := by decide +kernel
theorem dX6_does_96 : decode cX6_does 96 = .ok (.aload_n 0, 1) := by decide +kernel
theorem dX6_does_97 : decode cX6_does 97 = .ok (.iload_n 1, 1) := by decide +kernel
theorem dX6_does_98 : decode cX6_does 98 = .ok (.invokevirtual 92, 3) := by decide +kernel
theorem dX6_does_101 : decode cX6_does 101 = .ok (.ireturn, 1) := by decide +kernel
theorem dX6_does_102 : decode cX6_does 102 = .ok (.aload_n 0, 1) := by decide +kernel
theorem dX6_does_103 : decode cX6_does 103 = .ok (.iload_n 1, 1) := by decide +kernel
theorem dX6_does_104 : decode cX6_does 104 = .ok (.invokevirtual 95, 3) := by decide +kernel
theorem dX6_does_107 : decode cX6_does 107 = .ok (.istore_n 2, 1) := by decide +kernel
theorem dX6_does_108 : decode cX6_does 108 = .ok (.iload_n 2, 1) := by decide +kernel
theorem dX6_does_109 : decode cX6_does 109 = .ok (.bipush (-4), 2) := by decide +kernel
theorem dX6_does_111 : decode cX6_does 111 = .ok (.if_icmp .ne 7, 3) := by decide +kernel
theorem dX6_does_114 : decode cX6_does 114 = .ok (.iload_n 2, 1) := by decide +kernel
theorem dX6_does_115 : decode cX6_does 115 = .ok (.goto 18, 3) := by decide +kernel
theorem dX6_does_118 : decode cX6_does 118 = .ok (.iload_n 2, 1) := by decide +kernel
theorem dX6_does_119 : decode cX6_does 119 = .ok (.bipush (-5), 2) := by decide +kernel
theorem dX6_does_121 : decode cX6_does 121 = .ok (.if_icmp .ne 7, 3) := by decide +kernel
theorem dX6_does_124 : decode cX6_does 124 = .ok (.iconst 0, 1) := by decide +kernel
theorem dX6_does_125 : decode cX6_does 125 = .ok (.goto 8, 3) := by decide +kernel
theorem dX6_does_128 : decode cX6_does 128 = .ok (.aload_n 0, 1) := by decide +kernel
theorem dX6_does_129 : decode cX6_does 129 = .ok (.iload_n 1, 1) := by decide +kernel
theorem dX6_does_130 : decode cX6_does 130 = .ok (.invokevirtual 98, 3) := by decide +kernel
theorem dX6_does_133 : decode cX6_does 133 = .ok (.ireturn, 1) := by decide +kernel
theorem dX6_does_134 : decode cX6_does 134 = .ok (.aload_n 0, 1) := by decide +kernel
theorem dX6_does_135 : decode cX6_does 135 = .ok (.getfield 7, 3) := by decide +kernel
theorem dX6_does_138 : decode cX6_does 138 = .ok (.iconst 0, 1) := by decide +kernel
theorem dX6_does_139 : decode cX6_does 139 = .ok (.iaload, 1) := by decide +kernel
theorem dX6_does_140 : decode cX6_does 140 = .ok (.iload_n 1, 1) := by decide +kernel
theorem dX6_does_141 : decode cX6_does 141 = .ok (.iadd, 1) := by decide +kernel
theorem dX6_does_142 : decode cX6_does 142 = .ok (.sipush 9999, 3) := by decide +kernel
theorem dX6_does_145 : decode cX6_does 145 = .ok (.if_icmp .le 8, 3) := by decide +kernel
theorem dX6_does_148 : decode cX6_does 148 = .ok (.bipush (-3), 2) := by decide +kernel
theorem dX6_does_150 : decode cX6_does 150 = .ok (.goto 8, 3) := by decide +kernel
theorem dX6_does_153 : decode cX6_does 153 = .ok (.aload_n 0, 1) := by decide +kernel
theorem dX6_does_154 : decode cX6_does 154 = .ok (.iload_n 1, 1) := by decide +kernel
theorem dX6_does_155 : decode cX6_does 155 = .ok (.invokevirtual 130, 3) := by decide +kernel
theorem dX6_does_158 : decode cX6_does 158 = .ok (.ireturn, 1) := by decide +kernel
theorem dX6_go_0 : decode cX6_go 0 = .ok (.aload_n 0, 1) := by decide +kernel
theorem dX6_go_1 : decode cX6_go 1 = .ok (.iconst 0, 1) := by decide +kernel
theorem dX6_go_2 : decode cX6_go 2 = .ok (.putfield 133, 3) := by decide +kernel
theorem dX6_go_5 : decode cX6_go 5 = .ok (.aload_n 0, 1) := by decide +kernel
theorem dX6_go_6 : decode cX6_go 6 = .ok (.iconst 0, 1) := by decide +kernel
theorem dX6_go_7 : decode cX6_go 7 = .ok (.putfield 139, 3) := by decide +kernel
theorem dX6_go_10 : decode cX6_go 10 = .ok (.aload_n 0, 1) := by decide +kernel
theorem dX6_go_11 : decode cX6_go 11 = .ok (.iconst 0, 1) := by decide +kernel
theorem dX6_go_12 : decode cX6_go 12 = .ok (.putfield 145, 3) := by decide +kernel
theorem dX6_go_15 : decode cX6_go 15 = .ok (.iconst 0, 1) := by decide +kernel
theorem dX6_go_16 : decode cX6_go 16 = .ok (.istore_n 2, 1) := by decide +kernel
theorem dX6_go_17 : decode cX6_go 17 = .ok (.iconst 1, 1) := by decide +kernel
theorem dX6_go_18 : decode cX6_go 18 = .ok (.istore_n 3, 1) := by decide +kernel
theorem dX6_go_19 : decode cX6_go 19 = .ok (.iload_n 3, 1) := by decide +kernel
theorem dX6_go_20 : decode cX6_go 20 = .ok (.ifCond .eq 100, 3) := by decide +kernel
theorem dX6_go_23 : decode cX6_go 23 = .ok (.aload_n 0, 1) := by decide +kernel
theorem dX6_go_24 : decode cX6_go 24 = .ok (.invokevirtual 148, 3) := by decide +kernel
theorem dX6_go_27 : decode cX6_go 27 = .ok (.iinc 2 1, 3) := by decide +kernel
theorem dX6_go_30 : decode cX6_go 30 = .ok (.iload_n 1, 1) := by decide +kernel
theorem dX6_go_31 : decode cX6_go 31 = .ok (.ifCond .eq 10, 3) := by decide +kernel
theorem dX6_go_34 : decode cX6_go 34 = .ok (.aload_n 0, 1) := by decide +kernel
theorem dX6_go_35 : decode cX6_go 35 = .ok (.invokevirtual 151, 3) := by decide +kernel
theorem dX6_go_38 : decode cX6_go 38 = .ok (.goto 4, 3) := by decide +kernel
theorem dX6_go_41 : decode cX6_go 41 = .ok (.iconst 0, 1) := by decide +kernel
theorem dX6_go_42 : decode cX6_go 42 = .ok (.istore 4, 2) := by decide +kernel
theorem dX6_go_44 : decode cX6_go 44 = .ok (.aload_n 0, 1) := by decide +kernel
theorem dX6_go_45 : decode cX6_go 45 = .ok (.iload 4, 2) := by decide +kernel
theorem dX6_go_47 : decode cX6_go 47 = .ok (.ifCond .ge 8, 3) := by decide +kernel
theorem dX6_go_50 : decode cX6_go 50 = .ok (.iload 4, 2) := by decide +kernel
theorem dX6_go_52 : decode cX6_go 52 = .ok (.goto 4, 3) := by decide +kernel
theorem dX6_go_55 : decode cX6_go 55 = .ok (.iconst 0, 1) := by decide +kernel
theorem dX6_go_56 : decode cX6_go 56 = .ok (.putfield 145, 3) := by decide +kernel
theorem dX6_go_59 : decode cX6_go 59 = .ok (.aload_n 0, 1) := by decide +kernel
theorem dX6_go_60 : decode cX6_go 60 = .ok (.getfield 139, 3) := by decide +kernel
theorem dX6_go_63 : decode cX6_go 63 = .ok (.ifCond .ne 25, 3) := by decide +kernel
theorem dX6_go_66 : decode cX6_go 66 = .ok (.aload_n 0, 1) := by decide +kernel
theorem dX6_go_67 : decode cX6_go 67 = .ok (.getfield 145, 3) := by decide +kernel
theorem dX6_go_70 : decode cX6_go 70 = .ok (.ifCond .ne 18, 3) := by decide +kernel
theorem dX6_go_73 : decode cX6_go 73 = .ok (.aload_n 0, 1) := by decide +kernel
theorem dX6_go_74 : decode cX6_go 74 = .ok (.getfield 133, 3) := by decide +kernel
theorem dX6_go_77 : decode cX6_go 77 = .ok (.aload_n 0, 1) := by decide +kernel
theorem dX6_go_78 : decode cX6_go 78 = .ok (.getfield 136, 3) := by decide +kernel
theorem dX6_go_81 : decode cX6_go 81 = .ok (.if_icmp .ge 7, 3) := by decide +kernel
theorem dX6_go_84 : decode cX6_go 84 = .ok (.iconst 1, 1) := by decide +kernel
theorem dX6_go_85 : decode cX6_go 85 = .ok (.goto 4, 3) := by decide +kernel
theorem dX6_go_88 : decode cX6_go 88 = .ok (.iconst 0, 1) := by decide +kernel
theorem dX6_go_89 : decode cX6_go 89 = .ok (.istore_n 3, 1) := by decide +kernel
theorem dX6_go_90 : decode cX6_go 90 = .ok (.iload_n 3, 1) := by decide +kernel
theorem dX6_go_91 : decode cX6_go 91 = .ok (.ifCond .eq 26, 3) := by decide +kernel
theorem dX6_go_94 : decode cX6_go 94 = .ok (.aload_n 0, 1) := by decide +kernel
theorem dX6_go_95 : decode cX6_go 95 = .ok (.bipush 59, 2) := by decide +kernel
theorem dX6_go_97 : decode cX6_go 97 = .ok (.bipush 59, 2) := by decide +kernel
theorem dX6_go_99 : decode cX6_go 99 = .ok (.invokevirtual 142, 3) := by decide +kernel
theorem dX6_go_102 : decode cX6_go 102 = .ok (.istore 5, 2) := by decide +kernel
theorem dX6_go_104 : decode cX6_go 104 = .ok (.aload_n 0, 1) := by decide +kernel
theorem dX6_go_105 : decode cX6_go 105 = .ok (.getfield 139, 3) := by decide +kernel
theorem dX6_go_108 : decode cX6_go 108 = .ok (.ifCond .ne 7, 3) := by decide +kernel
theorem dX6_go_111 : decode cX6_go 111 = .ok (.iconst 1, 1) := by decide +kernel
theorem dX6_go_112 : decode cX6_go 112 = .ok (.goto 4, 3) := by decide +kernel
theorem dX6_go_115 : decode cX6_go 115 = .ok (.iconst 0, 1) := by decide +kernel
theorem dX6_go_116 : decode cX6_go 116 = .ok (.istore_n 3, 1) := by decide +kernel
theorem dX6_go_117 : decode cX6_go 117 = .ok (.goto (-98), 3) := by decide +kernel
theorem dX6_go_120 : decode cX6_go 120 = .ok (.iload_n 2, 1) := by decide +kernel
theorem dX6_go_121 : decode cX6_go 121 = .ok (.ireturn, 1) := by decide +kernel
theorem dX6_follow_0 : decode cX6_follow 0 = .ok (.aload_n 0, 1) := by decide +kernel
theorem dX6_follow_1 : decode cX6_follow 1 = .ok (.iconst 0, 1) := by decide +kernel
theorem dX6_follow_2 : decode cX6_follow 2 = .ok (.invokevirtual 154, 3) := by decide +kernel
theorem dX6_follow_5 : decode cX6_follow 5 = .ok (.istore_n 1, 1) := by decide +kernel
theorem dX6_follow_6 : decode cX6_follow 6 = .ok (.aload_n 0, 1) := by decide +kernel
theorem dX6_follow_7 : decode cX6_follow 7 = .ok (.getfield 139, 3) := by decide +kernel
theorem dX6_follow_10 : decode cX6_follow 10 = .ok (.ifCond .eq 11, 3) := by decide +kernel
theorem dX6_follow_13 : decode cX6_follow 13 = .ok (.bipush (-100), 2) := by decide +kernel
theorem dX6_follow_15 : decode cX6_follow 15 = .ok (.aload_n 0, 1) := by decide +kernel
theorem dX6_follow_16 : decode cX6_follow 16 = .ok (.getfield 133, 3) := by decide +kernel
theorem dX6_follow_19 : decode cX6_follow 19 = .ok (.isub, 1) := by decide +kernel
theorem dX6_follow_20 : decode cX6_follow 20 = .ok (.ireturn, 1) := by decide +kernel
theorem dX6_follow_21 : decode cX6_follow 21 = .ok (.aload_n 0, 1) := by decide +kernel
theorem dX6_follow_22 : decode cX6_follow 22 = .ok (.invokevirtual 157, 3) := by decide +kernel
theorem dX6_follow_25 : decode cX6_follow 25 = .ok (.aload_n 0, 1) := by decide +kernel
theorem dX6_follow_26 : decode cX6_follow 26 = .ok (.iconst 1, 1) := by decide +kernel
theorem dX6_follow_27 : decode cX6_follow 27 = .ok (.invokevirtual 154, 3) := by decide +kernel
theorem dX6_follow_30 : decode cX6_follow 30 = .ok (.istore_n 1, 1) := by decide +kernel
theorem dX6_follow_31 : decode cX6_follow 31 = .ok (.aload_n 0, 1) := by decide +kernel
theorem dX6_follow_32 : decode cX6_follow 32 = .ok (.getfield 145, 3) := by decide +kernel
theorem dX6_follow_35 : decode cX6_follow 35 = .ok (.ifCond .ge 12, 3) := by decide +kernel
theorem dX6_follow_38 : decode cX6_follow 38 = .ok (.aload_n 0, 1) := by decide +kernel
theorem dX6_follow_39 : decode cX6_follow 39 = .ok (.invokevirtual 160, 3) := by decide +kernel
theorem dX6_follow_42 : decode cX6_follow 42 = .ok (.aload_n 0, 1) := by decide +kernel
theorem dX6_follow_43 : decode cX6_follow 43 = .ok (.getfield 145, 3) := by decide +kernel
theorem dX6_follow_46 : decode cX6_follow 46 = .ok (.ireturn, 1) := by decide +kernel
theorem dX6_follow_47 : decode cX6_follow 47 = .ok (.iconst 0, 1) := by decide +kernel
theorem dX6_follow_48 : decode cX6_follow 48 = .ok (.istore_n 2, 1) := by decide +kernel
theorem dX6_follow_49 : decode cX6_follow 49 = .ok (.iload_n 2, 1) := by decide +kernel
theorem dX6_follow_50 : decode cX6_follow 50 = .ok (.sipush 2204, 3) := by decide +kernel
theorem dX6_follow_53 : decode cX6_follow 53 = .ok (.if_icmp .ge 35, 3) := by decide +kernel
theorem dX6_follow_56 : decode cX6_follow 56 = .ok (.aload_n 0, 1) := by decide +kernel
theorem dX6_follow_57 : decode cX6_follow 57 = .ok (.getfield 7, 3) := by decide +kernel
theorem dX6_follow_60 : decode cX6_follow 60 = .ok (.iload_n 2, 1) := by decide +kernel
theorem dX6_follow_61 : decode cX6_follow 61 = .ok (.iaload, 1) := by decide +kernel
theorem dX6_follow_62 : decode cX6_follow 62 = .ok (.istore_n 3, 1) := by decide +kernel
theorem dX6_follow_63 : decode cX6_follow 63 = .ok (.aload_n 0, 1) := by decide +kernel
theorem dX6_follow_64 : decode cX6_follow 64 = .ok (.getfield 7, 3) := by decide +kernel
theorem dX6_follow_67 : decode cX6_follow 67 = .ok (.iload_n 2, 1) := by decide +kernel
theorem dX6_follow_68 : decode cX6_follow 68 = .ok (.aload_n 0, 1) := by decide +kernel
theorem dX6_follow_69 : decode cX6_follow 69 = .ok (.getfield 13, 3) := by decide +kernel
theorem dX6_follow_72 : decode cX6_follow 72 = .ok (.iload_n 2, 1) := by decide +kernel
theorem dX6_follow_73 : decode cX6_follow 73 = .ok (.iaload, 1) := by decide +kernel
theorem dX6_follow_74 : decode cX6_follow 74 = .ok (.iastore, 1) := by decide +kernel
theorem dX6_follow_75 : decode cX6_follow 75 = .ok (.aload_n 0, 1) := by decide +kernel
theorem dX6_follow_76 : decode cX6_follow 76 = .ok (.getfield 13, 3) := by decide +kernel
theorem dX6_follow_79 : decode cX6_follow 79 = .ok (.iload_n 2, 1) := by decide +kernel
theorem dX6_follow_80 : decode cX6_follow 80 = .ok (.iload_n 3, 1) := by decide +kernel
theorem dX6_follow_81 : decode cX6_follow 81 = .ok (.iastore, 1) := by decide +kernel
theorem dX6_follow_82 : decode cX6_follow 82 = .ok (.iinc 2 1, 3) := by decide +kernel
theorem dX6_follow_85 : decode cX6_follow 85 = .ok (.goto (-36), 3) := by decide +kernel
theorem dX6_follow_88 : decode cX6_follow 88 = .ok (.aload_n 0, 1) := by decide +kernel
theorem dX6_follow_89 : decode cX6_follow 89 = .ok (.invokevirtual 51, 3) := by decide +kernel
theorem dX6_follow_92 : decode cX6_follow 92 = .ok (.aload_n 0, 1) := by decide +kernel
theorem dX6_follow_93 : decode cX6_follow 93 = .ok (.invokevirtual 160, 3) := by decide +kernel
theorem dX6_follow_96 : decode cX6_follow 96 = .ok (.iload_n 1, 1) := by decide +kernel
theorem dX6_follow_97 : decode cX6_follow 97 = .ok (.ireturn, 1) := by decide +kernel
theorem dX6_type_0 : decode cX6_type 0 = .ok (.aload_n 0, 1) := by decide +kernel
theorem dX6_type_1 : decode cX6_type 1 = .ok (.getfield 136, 3) := by decide +kernel
theorem dX6_type_4 : decode cX6_type 4 = .ok (.bipush 60, 2) := by decide +kernel
theorem dX6_type_6 : decode cX6_type 6 = .ok (.if_icmp .ne 6, 3) := by decide +kernel
theorem dX6_type_9 : decode cX6_type 9 = .ok (.bipush (-3), 2) := by decide +kernel
theorem dX6_type_11 : decode cX6_type 11 = .ok (.ireturn, 1) := by decide +kernel
theorem dX6_type_12 : decode cX6_type 12 = .ok (.aload_n 0, 1) := by decide +kernel
theorem dX6_type_13 : decode cX6_type 13 = .ok (.getfield 22, 3) := by decide +kernel
theorem dX6_type_16 : decode cX6_type 16 = .ok (.aload_n 0, 1) := by decide +kernel
theorem dX6_type_17 : decode cX6_type 17 = .ok (.getfield 136, 3) := by decide +kernel
theorem dX6_type_20 : decode cX6_type 20 = .ok (.iload_n 1, 1) := by decide +kernel
theorem dX6_type_21 : decode cX6_type 21 = .ok (.iastore, 1) := by decide +kernel
theorem dX6_type_22 : decode cX6_type 22 = .ok (.aload_n 0, 1) := by decide +kernel
theorem dX6_type_23 : decode cX6_type 23 = .ok (.dup, 1) := by decide +kernel
theorem dX6_type_24 : decode cX6_type 24 = .ok (.getfield 136, 3) := by decide +kernel
theorem dX6_type_27 : decode cX6_type 27 = .ok (.iconst 1, 1) := by decide +kernel
theorem dX6_type_28 : decode cX6_type 28 = .ok (.iadd, 1) := by decide +kernel
theorem dX6_type_29 : decode cX6_type 29 = .ok (.putfield 136, 3) := by decide +kernel
theorem dX6_type_32 : decode cX6_type 32 = .ok (.aload_n 0, 1) := by decide +kernel
theorem dX6_type_33 : decode cX6_type 33 = .ok (.getfield 136, 3) := by decide +kernel
theorem dX6_type_36 : decode cX6_type 36 = .ok (.ireturn, 1) := by decide +kernel
theorem dX6_clearText_0 : decode cX6_clearText 0 = .ok (.aload_n 0, 1) := by decide +kernel
theorem dX6_clearText_1 : decode cX6_clearText 1 = .ok (.getfield 136, 3) := by decide +kernel
theorem dX6_clearText_4 : decode cX6_clearText 4 = .ok (.istore_n 1, 1) := by decide +kernel
theorem dX6_clearText_5 : decode cX6_clearText 5 = .ok (.aload_n 0, 1) := by decide +kernel
theorem dX6_clearText_6 : decode cX6_clearText 6 = .ok (.iconst 0, 1) := by decide +kernel
theorem dX6_clearText_7 : decode cX6_clearText 7 = .ok (.putfield 136, 3) := by decide +kernel
theorem dX6_clearText_10 : decode cX6_clearText 10 = .ok (.iload_n 1, 1) := by decide +kernel
theorem dX6_clearText_11 : decode cX6_clearText 11 = .ok (.ireturn, 1) := by decide +kernel
theorem dX6_undo_0 : decode cX6_undo 0 = .ok (.aload_n 0, 1) := by decide +kernel
theorem dX6_undo_1 : decode cX6_undo 1 = .ok (.getfield 47, 3) := by decide +kernel
theorem dX6_undo_4 : decode cX6_undo 4 = .ok (.ifCond .ne 6, 3) := by decide +kernel
theorem dX6_undo_7 : decode cX6_undo 7 = .ok (.bipush (-5), 2) := by decide +kernel
theorem dX6_undo_9 : decode cX6_undo 9 = .ok (.ireturn, 1) := by decide +kernel
theorem dX6_undo_10 : decode cX6_undo 10 = .ok (.aload_n 0, 1) := by decide +kernel
theorem dX6_undo_11 : decode cX6_undo 11 = .ok (.dup, 1) := by decide +kernel
theorem dX6_undo_12 : decode cX6_undo 12 = .ok (.getfield 47, 3) := by decide +kernel
theorem dX6_undo_15 : decode cX6_undo 15 = .ok (.iconst 1, 1) := by decide +kernel
theorem dX6_undo_16 : decode cX6_undo 16 = .ok (.isub, 1) := by decide +kernel
theorem dX6_undo_17 : decode cX6_undo 17 = .ok (.putfield 47, 3) := by decide +kernel
theorem dX6_undo_20 : decode cX6_undo 20 = .ok (.iconst 0, 1) := by decide +kernel
theorem dX6_undo_21 : decode cX6_undo 21 = .ok (.istore_n 1, 1) := by decide +kernel
theorem dX6_undo_22 : decode cX6_undo 22 = .ok (.iload_n 1, 1) := by decide +kernel
theorem dX6_undo_23 : decode cX6_undo 23 = .ok (.sipush 2204, 3) := by decide +kernel
theorem dX6_undo_26 : decode cX6_undo 26 = .ok (.if_icmp .ge 30, 3) := by decide +kernel
theorem dX6_undo_29 : decode cX6_undo 29 = .ok (.aload_n 0, 1) := by decide +kernel
theorem dX6_undo_30 : decode cX6_undo 30 = .ok (.getfield 7, 3) := by decide +kernel
theorem dX6_undo_33 : decode cX6_undo 33 = .ok (.iload_n 1, 1) := by decide +kernel
theorem dX6_undo_34 : decode cX6_undo 34 = .ok (.aload_n 0, 1) := by decide +kernel
theorem dX6_undo_35 : decode cX6_undo 35 = .ok (.getfield 16, 3) := by decide +kernel
theorem dX6_undo_38 : decode cX6_undo 38 = .ok (.sipush 2204, 3) := by decide +kernel
theorem dX6_undo_41 : decode cX6_undo 41 = .ok (.aload_n 0, 1) := by decide +kernel
theorem dX6_undo_42 : decode cX6_undo 42 = .ok (.getfield 47, 3) := by decide +kernel
theorem dX6_undo_45 : decode cX6_undo 45 = .ok (.imul, 1) := by decide +kernel
theorem dX6_undo_46 : decode cX6_undo 46 = .ok (.iload_n 1, 1) := by decide +kernel
theorem dX6_undo_47 : decode cX6_undo 47 = .ok (.iadd, 1) := by decide +kernel
theorem dX6_undo_48 : decode cX6_undo 48 = .ok (.iaload, 1) := by decide +kernel
theorem dX6_undo_49 : decode cX6_undo 49 = .ok (.iastore, 1) := by decide +kernel
theorem dX6_undo_50 : decode cX6_undo 50 = .ok (.iinc 1 1, 3) := by decide +kernel
theorem dX6_undo_53 : decode cX6_undo 53 = .ok (.goto (-31), 3) := by decide +kernel
theorem dX6_undo_56 : decode cX6_undo 56 = .ok (.aload_n 0, 1) := by decide +kernel
theorem dX6_undo_57 : decode cX6_undo 57 = .ok (.getfield 47, 3) := by decide +kernel
theorem dX6_undo_60 : decode cX6_undo 60 = .ok (.ireturn, 1) := by decide +kernel
theorem dX6_keep_0 : decode cX6_keep 0 = .ok (.iconst 0, 1) := by decide +kernel
theorem dX6_keep_1 : decode cX6_keep 1 = .ok (.istore_n 1, 1) := by decide +kernel
theorem dX6_keep_2 : decode cX6_keep 2 = .ok (.iload_n 1, 1) := by decide +kernel
theorem dX6_keep_3 : decode cX6_keep 3 = .ok (.sipush 2204, 3) := by decide +kernel
theorem dX6_keep_6 : decode cX6_keep 6 = .ok (.if_icmp .ge 21, 3) := by decide +kernel
theorem dX6_keep_9 : decode cX6_keep 9 = .ok (.aload_n 0, 1) := by decide +kernel
theorem dX6_keep_10 : decode cX6_keep 10 = .ok (.getfield 19, 3) := by decide +kernel
theorem dX6_keep_13 : decode cX6_keep 13 = .ok (.iload_n 1, 1) := by decide +kernel
theorem dX6_keep_14 : decode cX6_keep 14 = .ok (.aload_n 0, 1) := by decide +kernel
theorem dX6_keep_15 : decode cX6_keep 15 = .ok (.getfield 7, 3) := by decide +kernel
theorem dX6_keep_18 : decode cX6_keep 18 = .ok (.iload_n 1, 1) := by decide +kernel
theorem dX6_keep_19 : decode cX6_keep 19 = .ok (.iaload, 1) := by decide +kernel
theorem dX6_keep_20 : decode cX6_keep 20 = .ok (.iastore, 1) := by decide +kernel
theorem dX6_keep_21 : decode cX6_keep 21 = .ok (.iinc 1 1, 3) := by decide +kernel
theorem dX6_keep_24 : decode cX6_keep 24 = .ok (.goto (-22), 3) := by decide +kernel
theorem dX6_keep_27 : decode cX6_keep 27 = .ok (.aload_n 0, 1) := by decide +kernel
theorem dX6_keep_28 : decode cX6_keep 28 = .ok (.iconst 1, 1) := by decide +kernel
theorem dX6_keep_29 : decode cX6_keep 29 = .ok (.putfield 163, 3) := by decide +kernel
theorem dX6_keep_32 : decode cX6_keep 32 = .ok (.aload_n 0, 1) := by decide +kernel
theorem dX6_keep_33 : decode cX6_keep 33 = .ok (.getfield 7, 3) := by decide +kernel
theorem dX6_keep_36 : decode cX6_keep 36 = .ok (.iconst 0, 1) := by decide +kernel
theorem dX6_keep_37 : decode cX6_keep 37 = .ok (.iaload, 1) := by decide +kernel
theorem dX6_keep_38 : decode cX6_keep 38 = .ok (.ireturn, 1) := by decide +kernel
theorem dX6_restore_0 : decode cX6_restore 0 = .ok (.aload_n 0, 1) := by decide +kernel
theorem dX6_restore_1 : decode cX6_restore 1 = .ok (.getfield 163, 3) := by decide +kernel
theorem dX6_restore_4 : decode cX6_restore 4 = .ok (.ifCond .ne 6, 3) := by decide +kernel
theorem dX6_restore_7 : decode cX6_restore 7 = .ok (.bipush (-5), 2) := by decide +kernel
theorem dX6_restore_9 : decode cX6_restore 9 = .ok (.ireturn, 1) := by decide +kernel
theorem dX6_restore_10 : decode cX6_restore 10 = .ok (.aload_n 0, 1) := by decide +kernel
theorem dX6_restore_11 : decode cX6_restore 11 = .ok (.invokevirtual 51, 3) := by decide +kernel
theorem dX6_restore_14 : decode cX6_restore 14 = .ok (.iconst 0, 1) := by decide +kernel
theorem dX6_restore_15 : decode cX6_restore 15 = .ok (.istore_n 1, 1) := by decide +kernel
theorem dX6_restore_16 : decode cX6_restore 16 = .ok (.iload_n 1, 1) := by decide +kernel
theorem dX6_restore_17 : decode cX6_restore 17 = .ok (.sipush 2204, 3) := by decide +kernel
theorem dX6_restore_20 : decode cX6_restore 20 = .ok (.if_icmp .ge 21, 3) := by decide +kernel
theorem dX6_restore_23 : decode cX6_restore 23 = .ok (.aload_n 0, 1) := by decide +kernel
theorem dX6_restore_24 : decode cX6_restore 24 = .ok (.getfield 7, 3) := by decide +kernel
theorem dX6_restore_27 : decode cX6_restore 27 = .ok (.iload_n 1, 1) := by decide +kernel
theorem dX6_restore_28 : decode cX6_restore 28 = .ok (.aload_n 0, 1) := by decide +kernel
theorem dX6_restore_29 : decode cX6_restore 29 = .ok (.getfield 19, 3) := by decide +kernel
theorem dX6_restore_32 : decode cX6_restore 32 = .ok (.iload_n 1, 1) := by decide +kernel
theorem dX6_restore_33 : decode cX6_restore 33 = .ok (.iaload, 1) := by decide +kernel
theorem dX6_restore_34 : decode cX6_restore 34 = .ok (.iastore, 1) := by decide +kernel
theorem dX6_restore_35 : decode cX6_restore 35 = .ok (.iinc 1 1, 3) := by decide +kernel
theorem dX6_restore_38 : decode cX6_restore 38 = .ok (.goto (-22), 3) := by decide +kernel
theorem dX6_restore_41 : decode cX6_restore 41 = .ok (.aload_n 0, 1) := by decide +kernel
theorem dX6_restore_42 : decode cX6_restore 42 = .ok (.getfield 7, 3) := by decide +kernel
theorem dX6_restore_45 : decode cX6_restore 45 = .ok (.iconst 0, 1) := by decide +kernel
theorem dX6_restore_46 : decode cX6_restore 46 = .ok (.iaload, 1) := by decide +kernel
theorem dX6_restore_47 : decode cX6_restore 47 = .ok (.ireturn, 1) := by decide +kernel
theorem dX6_read_0 : decode cX6_read 0 = .ok (.iload_n 1, 1) := by decide +kernel
theorem dX6_read_1 : decode cX6_read 1 = .ok (.invokestatic 64, 3) := by decide +kernel
theorem dX6_read_4 : decode cX6_read 4 = .ok (.ifCond .ne 5, 3) := by decide +kernel
theorem dX6_read_7 : decode cX6_read 7 = .ok (.iconst (-1), 1) := by decide +kernel
theorem dX6_read_8 : decode cX6_read 8 = .ok (.ireturn, 1) := by decide +kernel
theorem dX6_read_9 : decode cX6_read 9 = .ok (.iload_n 2, 1) := by decide +kernel
theorem dX6_read_10 : decode cX6_read 10 = .ok (.ifCond .ge 6, 3) := by decide +kernel
theorem dX6_read_13 : decode cX6_read 13 = .ok (.bipush (-2), 2) := by decide +kernel
theorem dX6_read_15 : decode cX6_read 15 = .ok (.ireturn, 1) := by decide +kernel
theorem dX6_read_16 : decode cX6_read 16 = .ok (.iload_n 2, 1) := by decide +kernel
theorem dX6_read_17 : decode cX6_read 17 = .ok (.aload_n 0, 1) := by decide +kernel
theorem dX6_read_18 : decode cX6_read 18 = .ok (.getfield 7, 3) := by decide +kernel
theorem dX6_read_21 : decode cX6_read 21 = .ok (.iload_n 1, 1) := by decide +kernel
theorem dX6_read_22 : decode cX6_read 22 = .ok (.iconst 3, 1) := by decide +kernel
theorem dX6_read_23 : decode cX6_read 23 = .ok (.invokestatic 32, 3) := by decide +kernel
theorem dX6_read_26 : decode cX6_read 26 = .ok (.iaload, 1) := by decide +kernel
theorem dX6_read_27 : decode cX6_read 27 = .ok (.if_icmp .lt 6, 3) := by decide +kernel
theorem dX6_read_30 : decode cX6_read 30 = .ok (.bipush (-5), 2) := by decide +kernel
theorem dX6_read_32 : decode cX6_read 32 = .ok (.ireturn, 1) := by decide +kernel
theorem dX6_read_33 : decode cX6_read 33 = .ok (.aload_n 0, 1) := by decide +kernel
theorem dX6_read_34 : decode cX6_read 34 = .ok (.getfield 7, 3) := by decide +kernel
theorem dX6_read_37 : decode cX6_read 37 = .ok (.iload_n 1, 1) := by decide +kernel
theorem dX6_read_38 : decode cX6_read 38 = .ok (.bipush 6, 2) := by decide +kernel
theorem dX6_read_40 : decode cX6_read 40 = .ok (.iload_n 2, 1) := by decide +kernel
theorem dX6_read_41 : decode cX6_read 41 = .ok (.iadd, 1) := by decide +kernel
theorem dX6_read_42 : decode cX6_read 42 = .ok (.invokestatic 32, 3) := by decide +kernel
theorem dX6_read_45 : decode cX6_read 45 = .ok (.iaload, 1) := by decide +kernel
theorem dX6_read_46 : decode cX6_read 46 = .ok (.istore_n 3, 1) := by decide +kernel
theorem dX6_read_47 : decode cX6_read 47 = .ok (.iload_n 3, 1) := by decide +kernel
theorem dX6_read_48 : decode cX6_read 48 = .ok (.bipush (-5), 2) := by decide +kernel
theorem dX6_read_50 : decode cX6_read 50 = .ok (.if_icmp .ne 8, 3) := by decide +kernel
theorem dX6_read_53 : decode cX6_read 53 = .ok (.bipush (-4), 2) := by decide +kernel
theorem dX6_read_55 : decode cX6_read 55 = .ok (.goto 13, 3) := by decide +kernel
theorem dX6_read_58 : decode cX6_read 58 = .ok (.aload_n 0, 1) := by decide +kernel
theorem dX6_read_59 : decode cX6_read 59 = .ok (.getfield 7, 3) := by decide +kernel
theorem dX6_read_62 : decode cX6_read 62 = .ok (.iload_n 3, 1) := by decide +kernel
theorem dX6_read_63 : decode cX6_read 63 = .ok (.iconst 2, 1) := by decide +kernel
theorem dX6_read_64 : decode cX6_read 64 = .ok (.invokestatic 54, 3) := by decide +kernel
theorem dX6_read_67 : decode cX6_read 67 = .ok (.iaload, 1) := by decide +kernel
theorem dX6_read_68 : decode cX6_read 68 = .ok (.ireturn, 1) := by decide +kernel
theorem dX6_zone_0 : decode cX6_zone 0 = .ok (.iload_n 1, 1) := by decide +kernel
theorem dX6_zone_1 : decode cX6_zone 1 = .ok (.invokestatic 64, 3) := by decide +kernel
theorem dX6_zone_4 : decode cX6_zone 4 = .ok (.ifCond .ne 5, 3) := by decide +kernel
theorem dX6_zone_7 : decode cX6_zone 7 = .ok (.iconst (-1), 1) := by decide +kernel
theorem dX6_zone_8 : decode cX6_zone 8 = .ok (.ireturn, 1) := by decide +kernel
theorem dX6_zone_9 : decode cX6_zone 9 = .ok (.iload_n 2, 1) := by decide +kernel
theorem dX6_zone_10 : decode cX6_zone 10 = .ok (.tableswitch 115 0 8 #[50, 50, 50, 50, 50, 61, 67, 74, 81], 50) := by decide +kernel
theorem dX6_zone_60 : decode cX6_zone 60 = .ok (.aload_n 0, 1) := by decide +kernel
theorem dX6_zone_61 : decode cX6_zone 61 = .ok (.getfield 7, 3) := by decide +kernel
theorem dX6_zone_64 : decode cX6_zone 64 = .ok (.iload_n 1, 1) := by decide +kernel
theorem dX6_zone_65 : decode cX6_zone 65 = .ok (.iload_n 2, 1) := by decide +kernel
theorem dX6_zone_66 : decode cX6_zone 66 = .ok (.invokestatic 32, 3) := by decide +kernel
theorem dX6_zone_69 : decode cX6_zone 69 = .ok (.iaload, 1) := by decide +kernel
theorem dX6_zone_70 : decode cX6_zone 70 = .ok (.ireturn, 1) := by decide +kernel
theorem dX6_zone_71 : decode cX6_zone 71 = .ok (.aload_n 0, 1) := by decide +kernel
theorem dX6_zone_72 : decode cX6_zone 72 = .ok (.iload_n 1, 1) := by decide +kernel
theorem dX6_zone_73 : decode cX6_zone 73 = .ok (.invokevirtual 85, 3) := by decide +kernel
theorem dX6_zone_76 : decode cX6_zone 76 = .ok (.ireturn, 1) := by decide +kernel
theorem dX6_zone_77 : decode cX6_zone 77 = .ok (.aload_n 0, 1) := by decide +kernel
theorem dX6_zone_78 : decode cX6_zone 78 = .ok (.iconst 1, 1) := by decide +kernel
theorem dX6_zone_79 : decode cX6_zone 79 = .ok (.iload_n 1, 1) := by decide +kernel
theorem dX6_zone_80 : decode cX6_zone 80 = .ok (.invokevirtual 101, 3) := by decide +kernel
theorem dX6_zone_83 : decode cX6_zone 83 = .ok (.ireturn, 1) := by decide +kernel
theorem dX6_zone_84 : decode cX6_zone 84 = .ok (.aload_n 0, 1) := by decide +kernel
theorem dX6_zone_85 : decode cX6_zone 85 = .ok (.iconst 0, 1) := by decide +kernel
theorem dX6_zone_86 : decode cX6_zone 86 = .ok (.iload_n 1, 1) := by decide +kernel
theorem dX6_zone_87 : decode cX6_zone 87 = .ok (.invokevirtual 101, 3) := by decide +kernel
theorem dX6_zone_90 : decode cX6_zone 90 = .ok (.ireturn, 1) := by decide +kernel
theorem dX6_zone_91 : decode cX6_zone 91 = .ok (.iconst 0, 1) := by decide +kernel
theorem dX6_zone_92 : decode cX6_zone 92 = .ok (.istore_n 3, 1) := by decide +kernel
theorem dX6_zone_93 : decode cX6_zone 93 = .ok (.iload_n 3, 1) := by decide +kernel
theorem dX6_zone_94 : decode cX6_zone 94 = .ok (.bipush 16, 2) := by decide +kernel
theorem dX6_zone_96 : decode cX6_zone 96 = .ok (.if_icmp .ge 27, 3) := by decide +kernel
theorem dX6_zone_99 : decode cX6_zone 99 = .ok (.aload_n 0, 1) := by decide +kernel
theorem dX6_zone_100 : decode cX6_zone 100 = .ok (.getfield 7, 3) := by decide +kernel
theorem dX6_zone_103 : decode cX6_zone 103 = .ok (.iload_n 1, 1) := by decide +kernel
theorem dX6_zone_104 : decode cX6_zone 104 = .ok (.bipush 6, 2) := by decide +kernel
theorem dX6_zone_106 : decode cX6_zone 106 = .ok (.iload_n 3, 1) := by decide +kernel
theorem dX6_zone_107 : decode cX6_zone 107 = .ok (.iadd, 1) := by decide +kernel
theorem dX6_zone_108 : decode cX6_zone 108 = .ok (.invokestatic 32, 3) := by decide +kernel
theorem dX6_zone_111 : decode cX6_zone 111 = .ok (.iaload, 1) := by decide +kernel
theorem dX6_zone_112 : decode cX6_zone 112 = .ok (.bipush (-5), 2) := by decide +kernel
theorem dX6_zone_114 : decode cX6_zone 114 = .ok (.if_icmp .eq 9, 3) := by decide +kernel
theorem dX6_zone_117 : decode cX6_zone 117 = .ok (.iinc 3 1, 3) := by decide +kernel
theorem dX6_zone_120 : decode cX6_zone 120 = .ok (.goto (-27), 3) := by decide +kernel
theorem dX6_zone_123 : decode cX6_zone 123 = .ok (.iload_n 3, 1) := by decide +kernel
theorem dX6_zone_124 : decode cX6_zone 124 = .ok (.ireturn, 1) := by decide +kernel
theorem dX6_zone_125 : decode cX6_zone 125 = .ok (.bipush (-2), 2) := by decide +kernel
theorem dX6_zone_127 : decode cX6_zone 127 = .ok (.ireturn, 1) := by decide +kernel
theorem dX6_appended_0 : decode cX6_appended 0 = .ok (.aload_n 0, 1) := by decide +kernel
theorem dX6_appended_1 : decode cX6_appended 1 = .ok (.iload_n 1, 1) := by decide +kernel
theorem dX6_appended_2 : decode cX6_appended 2 = .ok (.invokevirtual 166, 3) := by decide +kernel
theorem dX6_appended_5 : decode cX6_appended 5 = .ok (.ifCond .ne 5, 3) := by decide +kernel
theorem dX6_appended_8 : decode cX6_appended 8 = .ok (.iconst (-1), 1) := by decide +kernel
theorem dX6_appended_9 : decode cX6_appended 9 = .ok (.ireturn, 1) := by decide +kernel
theorem dX6_appended_10 : decode cX6_appended 10 = .ok (.iload_n 2, 1) := by decide +kernel
theorem dX6_appended_11 : decode cX6_appended 11 = .ok (.iconst 0, 1) := by decide +kernel
theorem dX6_appended_12 : decode cX6_appended 12 = .ok (.bipush 7, 2) := by decide +kernel
theorem dX6_appended_14 : decode cX6_appended 14 = .ok (.invokestatic 43, 3) := by decide +kernel
theorem dX6_appended_17 : decode cX6_appended 17 = .ok (.ifCond .ne 6, 3) := by decide +kernel
theorem dX6_appended_20 : decode cX6_appended 20 = .ok (.bipush (-2), 2) := by decide +kernel
theorem dX6_appended_22 : decode cX6_appended 22 = .ok (.ireturn, 1) := by decide +kernel
theorem dX6_appended_23 : decode cX6_appended 23 = .ok (.aload_n 0, 1) := by decide +kernel
theorem dX6_appended_24 : decode cX6_appended 24 = .ok (.getfield 7, 3) := by decide +kernel
theorem dX6_appended_27 : decode cX6_appended 27 = .ok (.iload_n 1, 1) := by decide +kernel
theorem dX6_appended_28 : decode cX6_appended 28 = .ok (.iconst 3, 1) := by decide +kernel
theorem dX6_appended_29 : decode cX6_appended 29 = .ok (.invokestatic 54, 3) := by decide +kernel
theorem dX6_appended_32 : decode cX6_appended 32 = .ok (.iaload, 1) := by decide +kernel
theorem dX6_appended_33 : decode cX6_appended 33 = .ok (.iconst 2, 1) := by decide +kernel
theorem dX6_appended_34 : decode cX6_appended 34 = .ok (.if_icmp .ne 7, 3) := by decide +kernel
theorem dX6_appended_37 : decode cX6_appended 37 = .ok (.iconst 1, 1) := by decide +kernel
theorem dX6_appended_38 : decode cX6_appended 38 = .ok (.goto 4, 3) := by decide +kernel
theorem dX6_appended_41 : decode cX6_appended 41 = .ok (.iconst 0, 1) := by decide +kernel
theorem dX6_appended_42 : decode cX6_appended 42 = .ok (.istore_n 3, 1) := by decide +kernel
theorem dX6_appended_43 : decode cX6_appended 43 = .ok (.iload_n 2, 1) := by decide +kernel
theorem dX6_appended_44 : decode cX6_appended 44 = .ok (.iconst 4, 1) := by decide +kernel
theorem dX6_appended_45 : decode cX6_appended 45 = .ok (.if_icmp .ne 12, 3) := by decide +kernel
theorem dX6_appended_48 : decode cX6_appended 48 = .ok (.iload_n 3, 1) := by decide +kernel
theorem dX6_appended_49 : decode cX6_appended 49 = .ok (.ifCond .ne 8, 3) := by decide +kernel
theorem dX6_appended_52 : decode cX6_appended 52 = .ok (.bipush (-5), 2) := by decide +kernel
theorem dX6_appended_54 : decode cX6_appended 54 = .ok (.goto 13, 3) := by decide +kernel
theorem dX6_appended_57 : decode cX6_appended 57 = .ok (.aload_n 0, 1) := by decide +kernel
theorem dX6_appended_58 : decode cX6_appended 58 = .ok (.getfield 7, 3) := by decide +kernel
theorem dX6_appended_61 : decode cX6_appended 61 = .ok (.iload_n 1, 1) := by decide +kernel
theorem dX6_appended_62 : decode cX6_appended 62 = .ok (.iload_n 2, 1) := by decide +kernel
theorem dX6_appended_63 : decode cX6_appended 63 = .ok (.invokestatic 54, 3) := by decide +kernel
theorem dX6_appended_66 : decode cX6_appended 66 = .ok (.iaload, 1) := by decide +kernel
theorem dX6_appended_67 : decode cX6_appended 67 = .ok (.ireturn, 1) := by decide +kernel
theorem dX6_writer_0 : decode cX6_writer 0 = .ok (.iload_n 1, 1) := by decide +kernel
theorem dX6_writer_1 : decode cX6_writer 1 = .ok (.invokestatic 68, 3) := by decide +kernel
theorem dX6_writer_4 : decode cX6_writer 4 = .ok (.ifCond .ne 5, 3) := by decide +kernel
theorem dX6_writer_7 : decode cX6_writer 7 = .ok (.iconst (-1), 1) := by decide +kernel
theorem dX6_writer_8 : decode cX6_writer 8 = .ok (.ireturn, 1) := by decide +kernel
theorem dX6_writer_9 : decode cX6_writer 9 = .ok (.iload_n 2, 1) := by decide +kernel
theorem dX6_writer_10 : decode cX6_writer 10 = .ok (.tableswitch 69 0 5 #[38, 49, 49, 49, 49, 58], 38) := by decide +kernel
theorem dX6_writer_48 : decode cX6_writer 48 = .ok (.aload_n 0, 1) := by decide +kernel
theorem dX6_writer_49 : decode cX6_writer 49 = .ok (.getfield 7, 3) := by decide +kernel
theorem dX6_writer_52 : decode cX6_writer 52 = .ok (.iload_n 1, 1) := by decide +kernel
theorem dX6_writer_53 : decode cX6_writer 53 = .ok (.iconst 0, 1) := by decide +kernel
theorem dX6_writer_54 : decode cX6_writer 54 = .ok (.invokestatic 40, 3) := by decide +kernel
theorem dX6_writer_57 : decode cX6_writer 57 = .ok (.iaload, 1) := by decide +kernel
theorem dX6_writer_58 : decode cX6_writer 58 = .ok (.ireturn, 1) := by decide +kernel
theorem dX6_writer_59 : decode cX6_writer 59 = .ok (.aload_n 0, 1) := by decide +kernel
theorem dX6_writer_60 : decode cX6_writer 60 = .ok (.iload_n 2, 1) := by decide +kernel
theorem dX6_writer_61 : decode cX6_writer 61 = .ok (.iconst 1, 1) := by decide +kernel
theorem dX6_writer_62 : decode cX6_writer 62 = .ok (.isub, 1) := by decide +kernel
theorem dX6_writer_63 : decode cX6_writer 63 = .ok (.iload_n 1, 1) := by decide +kernel
theorem dX6_writer_64 : decode cX6_writer 64 = .ok (.invokevirtual 71, 3) := by decide +kernel
theorem dX6_writer_67 : decode cX6_writer 67 = .ok (.ireturn, 1) := by decide +kernel
theorem dX6_writer_68 : decode cX6_writer 68 = .ok (.aload_n 0, 1) := by decide +kernel
theorem dX6_writer_69 : decode cX6_writer 69 = .ok (.getfield 7, 3) := by decide +kernel
theorem dX6_writer_72 : decode cX6_writer 72 = .ok (.iload_n 1, 1) := by decide +kernel
theorem dX6_writer_73 : decode cX6_writer 73 = .ok (.iconst 1, 1) := by decide +kernel
theorem dX6_writer_74 : decode cX6_writer 74 = .ok (.invokestatic 40, 3) := by decide +kernel
theorem dX6_writer_77 : decode cX6_writer 77 = .ok (.iaload, 1) := by decide +kernel
theorem dX6_writer_78 : decode cX6_writer 78 = .ok (.ireturn, 1) := by decide +kernel
theorem dX6_writer_79 : decode cX6_writer 79 = .ok (.bipush (-2), 2) := by decide +kernel
theorem dX6_writer_81 : decode cX6_writer 81 = .ok (.ireturn, 1) := by decide +kernel
theorem dX6_told_0 : decode cX6_told 0 = .ok (.iload_n 1, 1) := by decide +kernel
theorem dX6_told_1 : decode cX6_told 1 = .ok (.ifCond .ge 6, 3) := by decide +kernel
theorem dX6_told_4 : decode cX6_told 4 = .ok (.bipush (-2), 2) := by decide +kernel
theorem dX6_told_6 : decode cX6_told 6 = .ok (.ireturn, 1) := by decide +kernel
theorem dX6_told_7 : decode cX6_told 7 = .ok (.iload_n 1, 1) := by decide +kernel
theorem dX6_told_8 : decode cX6_told 8 = .ok (.aload_n 0, 1) := by decide +kernel
theorem dX6_told_9 : decode cX6_told 9 = .ok (.getfield 7, 3) := by decide +kernel
theorem dX6_told_12 : decode cX6_told 12 = .ok (.bipush 9, 2) := by decide +kernel
theorem dX6_told_14 : decode cX6_told 14 = .ok (.iaload, 1) := by decide +kernel
theorem dX6_told_15 : decode cX6_told 15 = .ok (.if_icmp .ge 16, 3) := by decide +kernel
theorem dX6_told_18 : decode cX6_told 18 = .ok (.aload_n 0, 1) := by decide +kernel
theorem dX6_told_19 : decode cX6_told 19 = .ok (.getfield 7, 3) := by decide +kernel
theorem dX6_told_22 : decode cX6_told 22 = .ok (.sipush 2003, 3) := by decide +kernel
theorem dX6_told_25 : decode cX6_told 25 = .ok (.iload_n 1, 1) := by decide +kernel
theorem dX6_told_26 : decode cX6_told 26 = .ok (.iadd, 1) := by decide +kernel
theorem dX6_told_27 : decode cX6_told 27 = .ok (.iaload, 1) := by decide +kernel
theorem dX6_told_28 : decode cX6_told 28 = .ok (.goto 5, 3) := by decide +kernel
theorem dX6_told_31 : decode cX6_told 31 = .ok (.bipush (-5), 2) := by decide +kernel
theorem dX6_told_33 : decode cX6_told 33 = .ok (.ireturn, 1) := by decide +kernel
theorem dX6_ticksOf_0 : decode cX6_ticksOf 0 = .ok (.iconst 0, 1) := by decide +kernel
theorem dX6_ticksOf_1 : decode cX6_ticksOf 1 = .ok (.istore_n 2, 1) := by decide +kernel
theorem dX6_ticksOf_2 : decode cX6_ticksOf 2 = .ok (.iconst 1, 1) := by decide +kernel
theorem dX6_ticksOf_3 : decode cX6_ticksOf 3 = .ok (.istore_n 3, 1) := by decide +kernel
theorem dX6_ticksOf_4 : decode cX6_ticksOf 4 = .ok (.iload_n 2, 1) := by decide +kernel
theorem dX6_ticksOf_5 : decode cX6_ticksOf 5 = .ok (.sipush 999, 3) := by decide +kernel
theorem dX6_ticksOf_8 : decode cX6_ticksOf 8 = .ok (.if_icmp .ge 38, 3) := by decide +kernel
theorem dX6_ticksOf_11 : decode cX6_ticksOf 11 = .ok (.aload_n 0, 1) := by decide +kernel
theorem dX6_ticksOf_12 : decode cX6_ticksOf 12 = .ok (.getfield 7, 3) := by decide +kernel
theorem dX6_ticksOf_15 : decode cX6_ticksOf 15 = .ok (.iload_n 1, 1) := by decide +kernel
theorem dX6_ticksOf_16 : decode cX6_ticksOf 16 = .ok (.iconst 3, 1) := by decide +kernel
theorem dX6_ticksOf_17 : decode cX6_ticksOf 17 = .ok (.invokestatic 54, 3) := by decide +kernel
theorem dX6_ticksOf_20 : decode cX6_ticksOf 20 = .ok (.iaload, 1) := by decide +kernel
theorem dX6_ticksOf_21 : decode cX6_ticksOf 21 = .ok (.iconst 2, 1) := by decide +kernel
theorem dX6_ticksOf_22 : decode cX6_ticksOf 22 = .ok (.if_icmp .ge 24, 3) := by decide +kernel
theorem dX6_ticksOf_25 : decode cX6_ticksOf 25 = .ok (.iload_n 3, 1) := by decide +kernel
theorem dX6_ticksOf_26 : decode cX6_ticksOf 26 = .ok (.ifCond .eq 20, 3) := by decide +kernel
theorem dX6_ticksOf_29 : decode cX6_ticksOf 29 = .ok (.aload_n 0, 1) := by decide +kernel
theorem dX6_ticksOf_30 : decode cX6_ticksOf 30 = .ok (.invokevirtual 127, 3) := by decide +kernel
theorem dX6_ticksOf_33 : decode cX6_ticksOf 33 = .ok (.istore 4, 2) := by decide +kernel
theorem dX6_ticksOf_35 : decode cX6_ticksOf 35 = .ok (.iinc 2 1, 3) := by decide +kernel
theorem dX6_ticksOf_38 : decode cX6_ticksOf 38 = .ok (.aload_n 0, 1) := by decide +kernel
theorem dX6_ticksOf_39 : decode cX6_ticksOf 39 = .ok (.getfield 114, 3) := by decide +kernel
theorem dX6_ticksOf_42 : decode cX6_ticksOf 42 = .ok (.istore_n 3, 1) := by decide +kernel
theorem dX6_ticksOf_43 : decode cX6_ticksOf 43 = .ok (.goto (-39), 3) := by decide +kernel
theorem dX6_ticksOf_46 : decode cX6_ticksOf 46 = .ok (.aload_n 0, 1) := by decide +kernel
theorem dX6_ticksOf_47 : decode cX6_ticksOf 47 = .ok (.getfield 7, 3) := by decide +kernel
theorem dX6_ticksOf_50 : decode cX6_ticksOf 50 = .ok (.iload_n 1, 1) := by decide +kernel
theorem dX6_ticksOf_51 : decode cX6_ticksOf 51 = .ok (.iconst 3, 1) := by decide +kernel
theorem dX6_ticksOf_52 : decode cX6_ticksOf 52 = .ok (.invokestatic 54, 3) := by decide +kernel
theorem dX6_ticksOf_55 : decode cX6_ticksOf 55 = .ok (.iaload, 1) := by decide +kernel
theorem dX6_ticksOf_56 : decode cX6_ticksOf 56 = .ok (.iconst 2, 1) := by decide +kernel
theorem dX6_ticksOf_57 : decode cX6_ticksOf 57 = .ok (.if_icmp .ne 7, 3) := by decide +kernel
theorem dX6_ticksOf_60 : decode cX6_ticksOf 60 = .ok (.iload_n 2, 1) := by decide +kernel
theorem dX6_ticksOf_61 : decode cX6_ticksOf 61 = .ok (.goto 5, 3) := by decide +kernel
theorem dX6_ticksOf_64 : decode cX6_ticksOf 64 = .ok (.bipush (-5), 2) := by decide +kernel
theorem dX6_ticksOf_66 : decode cX6_ticksOf 66 = .ok (.ireturn, 1) := by decide +kernel
theorem dX6_toldIn_0 : decode cX6_toldIn 0 = .ok (.aload_n 0, 1) := by decide +kernel
theorem dX6_toldIn_1 : decode cX6_toldIn 1 = .ok (.iload_n 1, 1) := by decide +kernel
theorem dX6_toldIn_2 : decode cX6_toldIn 2 = .ok (.invokevirtual 166, 3) := by decide +kernel
theorem dX6_toldIn_5 : decode cX6_toldIn 5 = .ok (.ifCond .ne 5, 3) := by decide +kernel
theorem dX6_toldIn_8 : decode cX6_toldIn 8 = .ok (.iconst (-1), 1) := by decide +kernel
theorem dX6_toldIn_9 : decode cX6_toldIn 9 = .ok (.ireturn, 1) := by decide +kernel
theorem dX6_toldIn_10 : decode cX6_toldIn 10 = .ok (.aload_n 0, 1) := by decide +kernel
theorem dX6_toldIn_11 : decode cX6_toldIn 11 = .ok (.getfield 7, 3) := by decide +kernel
theorem dX6_toldIn_14 : decode cX6_toldIn 14 = .ok (.iload_n 1, 1) := by decide +kernel
theorem dX6_toldIn_15 : decode cX6_toldIn 15 = .ok (.iconst 3, 1) := by decide +kernel
theorem dX6_toldIn_16 : decode cX6_toldIn 16 = .ok (.invokestatic 54, 3) := by decide +kernel
theorem dX6_toldIn_19 : decode cX6_toldIn 19 = .ok (.iaload, 1) := by decide +kernel
theorem dX6_toldIn_20 : decode cX6_toldIn 20 = .ok (.iconst 1, 1) := by decide +kernel
theorem dX6_toldIn_21 : decode cX6_toldIn 21 = .ok (.if_icmp .le 6, 3) := by decide +kernel
theorem dX6_toldIn_24 : decode cX6_toldIn 24 = .ok (.bipush (-4), 2) := by decide +kernel
theorem dX6_toldIn_26 : decode cX6_toldIn 26 = .ok (.ireturn, 1) := by decide +kernel
theorem dX6_toldIn_27 : decode cX6_toldIn 27 = .ok (.aload_n 0, 1) := by decide +kernel
theorem dX6_toldIn_28 : decode cX6_toldIn 28 = .ok (.invokevirtual 157, 3) := by decide +kernel
theorem dX6_toldIn_31 : decode cX6_toldIn 31 = .ok (.aload_n 0, 1) := by decide +kernel
theorem dX6_toldIn_32 : decode cX6_toldIn 32 = .ok (.iload_n 1, 1) := by decide +kernel
theorem dX6_toldIn_33 : decode cX6_toldIn 33 = .ok (.invokevirtual 169, 3) := by decide +kernel
theorem dX6_toldIn_36 : decode cX6_toldIn 36 = .ok (.istore_n 2, 1) := by decide +kernel
theorem dX6_toldIn_37 : decode cX6_toldIn 37 = .ok (.aload_n 0, 1) := by decide +kernel
theorem dX6_toldIn_38 : decode cX6_toldIn 38 = .ok (.invokevirtual 160, 3) := by decide +kernel
theorem dX6_toldIn_41 : decode cX6_toldIn 41 = .ok (.iload_n 2, 1) := by decide +kernel
theorem dX6_toldIn_42 : decode cX6_toldIn 42 = .ok (.ireturn, 1) := by decide +kernel
theorem dX6_would_0 : decode cX6_would 0 = .ok (.iload_n 1, 1) := by decide +kernel
theorem dX6_would_1 : decode cX6_would 1 = .ok (.invokestatic 64, 3) := by decide +kernel
theorem dX6_would_4 : decode cX6_would 4 = .ok (.ifCond .ne 5, 3) := by decide +kernel
theorem dX6_would_7 : decode cX6_would 7 = .ok (.iconst (-1), 1) := by decide +kernel
theorem dX6_would_8 : decode cX6_would 8 = .ok (.ireturn, 1) := by decide +kernel
theorem dX6_would_9 : decode cX6_would 9 = .ok (.iload_n 2, 1) := by decide +kernel
theorem dX6_would_10 : decode cX6_would 10 = .ok (.iconst 0, 1) := by decide +kernel
theorem dX6_would_11 : decode cX6_would 11 = .ok (.iconst 1, 1) := by decide +kernel
theorem dX6_would_12 : decode cX6_would 12 = .ok (.invokestatic 43, 3) := by decide +kernel
theorem dX6_would_15 : decode cX6_would 15 = .ok (.ifCond .ne 6, 3) := by decide +kernel
theorem dX6_would_18 : decode cX6_would 18 = .ok (.bipush (-2), 2) := by decide +kernel
theorem dX6_would_20 : decode cX6_would 20 = .ok (.ireturn, 1) := by decide +kernel
theorem dX6_would_21 : decode cX6_would 21 = .ok (.aload_n 0, 1) := by decide +kernel
theorem dX6_would_22 : decode cX6_would 22 = .ok (.invokevirtual 157, 3) := by decide +kernel
theorem dX6_would_25 : decode cX6_would 25 = .ok (.aload_n 0, 1) := by decide +kernel
theorem dX6_would_26 : decode cX6_would 26 = .ok (.iconst 0, 1) := by decide +kernel
theorem dX6_would_27 : decode cX6_would 27 = .ok (.iload_n 1, 1) := by decide +kernel
theorem dX6_would_28 : decode cX6_would 28 = .ok (.iconst 0, 1) := by decide +kernel
theorem dX6_would_29 : decode cX6_would 29 = .ok (.invokevirtual 77, 3) := by decide +kernel
theorem dX6_would_32 : decode cX6_would 32 = .ok (.istore_n 3, 1) := by decide +kernel
theorem dX6_would_33 : decode cX6_would 33 = .ok (.aload_n 0, 1) := by decide +kernel
theorem dX6_would_34 : decode cX6_would 34 = .ok (.iload_n 3, 1) := by decide +kernel
theorem dX6_would_35 : decode cX6_would 35 = .ok (.invokevirtual 169, 3) := by decide +kernel
theorem dX6_would_38 : decode cX6_would 38 = .ok (.istore 4, 2) := by decide +kernel
theorem dX6_would_40 : decode cX6_would 40 = .ok (.aload_n 0, 1) := by decide +kernel
theorem dX6_would_41 : decode cX6_would 41 = .ok (.getfield 7, 3) := by decide +kernel
theorem dX6_would_44 : decode cX6_would 44 = .ok (.iload_n 3, 1) := by decide +kernel
theorem dX6_would_45 : decode cX6_would 45 = .ok (.iconst 4, 1) := by decide +kernel
theorem dX6_would_46 : decode cX6_would 46 = .ok (.invokestatic 54, 3) := by decide +kernel
theorem dX6_would_49 : decode cX6_would 49 = .ok (.iaload, 1) := by decide +kernel
theorem dX6_would_50 : decode cX6_would 50 = .ok (.istore 5, 2) := by decide +kernel
theorem dX6_would_52 : decode cX6_would 52 = .ok (.aload_n 0, 1) := by decide +kernel
theorem dX6_would_53 : decode cX6_would 53 = .ok (.invokevirtual 160, 3) := by decide +kernel
theorem dX6_would_56 : decode cX6_would 56 = .ok (.iload 4, 2) := by decide +kernel
theorem dX6_would_58 : decode cX6_would 58 = .ok (.bipush (-5), 2) := by decide +kernel
theorem dX6_would_60 : decode cX6_would 60 = .ok (.if_icmp .eq 8, 3) := by decide +kernel
theorem dX6_would_63 : decode cX6_would 63 = .ok (.iload_n 2, 1) := by decide +kernel
theorem dX6_would_64 : decode cX6_would 64 = .ok (.iconst 1, 1) := by decide +kernel
theorem dX6_would_65 : decode cX6_would 65 = .ok (.if_icmp .ne 8, 3) := by decide +kernel
theorem dX6_would_68 : decode cX6_would 68 = .ok (.iload 4, 2) := by decide +kernel
theorem dX6_would_70 : decode cX6_would 70 = .ok (.goto 5, 3) := by decide +kernel
theorem dX6_would_73 : decode cX6_would 73 = .ok (.iload 5, 2) := by decide +kernel
theorem dX6_would_75 : decode cX6_would 75 = .ok (.ireturn, 1) := by decide +kernel
theorem dX6_count_0 : decode cX6_count 0 = .ok (.iload_n 1, 1) := by decide +kernel
theorem dX6_count_1 : decode cX6_count 1 = .ok (.tableswitch 145 0 15 #[79, 79, 79, 79, 79, 86, 86, 102, 109, 109, 109, 109, 119, 127, 135, 140], 79) := by decide +kernel
theorem dX6_count_80 : decode cX6_count 80 = .ok (.aload_n 0, 1) := by decide +kernel
theorem dX6_count_81 : decode cX6_count 81 = .ok (.getfield 7, 3) := by decide +kernel
theorem dX6_count_84 : decode cX6_count 84 = .ok (.iload_n 1, 1) := by decide +kernel
theorem dX6_count_85 : decode cX6_count 85 = .ok (.iaload, 1) := by decide +kernel
theorem dX6_count_86 : decode cX6_count 86 = .ok (.ireturn, 1) := by decide +kernel
theorem dX6_count_87 : decode cX6_count 87 = .ok (.aload_n 0, 1) := by decide +kernel
theorem dX6_count_88 : decode cX6_count 88 = .ok (.iload_n 1, 1) := by decide +kernel
theorem dX6_count_89 : decode cX6_count 89 = .ok (.bipush 6, 2) := by decide +kernel
theorem dX6_count_91 : decode cX6_count 91 = .ok (.if_icmp .ne 7, 3) := by decide +kernel
theorem dX6_count_94 : decode cX6_count 94 = .ok (.iconst 1, 1) := by decide +kernel
theorem dX6_count_95 : decode cX6_count 95 = .ok (.goto 4, 3) := by decide +kernel
theorem dX6_count_98 : decode cX6_count 98 = .ok (.iconst 0, 1) := by decide +kernel
theorem dX6_count_99 : decode cX6_count 99 = .ok (.invokevirtual 57, 3) := by decide +kernel
theorem dX6_count_102 : decode cX6_count 102 = .ok (.ireturn, 1) := by decide +kernel
theorem dX6_count_103 : decode cX6_count 103 = .ok (.aload_n 0, 1) := by decide +kernel
theorem dX6_count_104 : decode cX6_count 104 = .ok (.getfield 7, 3) := by decide +kernel
theorem dX6_count_107 : decode cX6_count 107 = .ok (.iconst 5, 1) := by decide +kernel
theorem dX6_count_108 : decode cX6_count 108 = .ok (.iaload, 1) := by decide +kernel
theorem dX6_count_109 : decode cX6_count 109 = .ok (.ireturn, 1) := by decide +kernel
theorem dX6_count_110 : decode cX6_count 110 = .ok (.aload_n 0, 1) := by decide +kernel
theorem dX6_count_111 : decode cX6_count 111 = .ok (.iload_n 1, 1) := by decide +kernel
theorem dX6_count_112 : decode cX6_count 112 = .ok (.bipush 8, 2) := by decide +kernel
theorem dX6_count_114 : decode cX6_count 114 = .ok (.isub, 1) := by decide +kernel
theorem dX6_count_115 : decode cX6_count 115 = .ok (.iconst (-1), 1) := by decide +kernel
theorem dX6_count_116 : decode cX6_count 116 = .ok (.invokevirtual 101, 3) := by decide +kernel
theorem dX6_count_119 : decode cX6_count 119 = .ok (.ireturn, 1) := by decide +kernel
theorem dX6_count_120 : decode cX6_count 120 = .ok (.aload_n 0, 1) := by decide +kernel
theorem dX6_count_121 : decode cX6_count 121 = .ok (.getfield 7, 3) := by decide +kernel
theorem dX6_count_124 : decode cX6_count 124 = .ok (.bipush 7, 2) := by decide +kernel
theorem dX6_count_126 : decode cX6_count 126 = .ok (.iaload, 1) := by decide +kernel
theorem dX6_count_127 : decode cX6_count 127 = .ok (.ireturn, 1) := by decide +kernel
theorem dX6_count_128 : decode cX6_count 128 = .ok (.aload_n 0, 1) := by decide +kernel
theorem dX6_count_129 : decode cX6_count 129 = .ok (.getfield 7, 3) := by decide +kernel
theorem dX6_count_132 : decode cX6_count 132 = .ok (.bipush 6, 2) := by decide +kernel
theorem dX6_count_134 : decode cX6_count 134 = .ok (.iaload, 1) := by decide +kernel
theorem dX6_count_135 : decode cX6_count 135 = .ok (.ireturn, 1) := by decide +kernel
theorem dX6_count_136 : decode cX6_count 136 = .ok (.aload_n 0, 1) := by decide +kernel
theorem dX6_count_137 : decode cX6_count 137 = .ok (.getfield 47, 3) := by decide +kernel
theorem dX6_count_140 : decode cX6_count 140 = .ok (.ireturn, 1) := by decide +kernel
theorem dX6_count_141 : decode cX6_count 141 = .ok (.aload_n 0, 1) := by decide +kernel
theorem dX6_count_142 : decode cX6_count 142 = .ok (.getfield 136, 3) := by decide +kernel
theorem dX6_count_145 : decode cX6_count 145 = .ok (.ireturn, 1) := by decide +kernel
theorem dX6_count_146 : decode cX6_count 146 = .ok (.bipush (-2), 2) := by decide +kernel
theorem dX6_count_148 : decode cX6_count 148 = .ok (.ireturn, 1) := by decide +kernel
theorem dL_law_0 : decode cL_law 0 = .ok (.new 7, 3) := by decide +kernel
theorem dL_law_3 : decode cL_law 3 = .ok (.dup, 1) := by decide +kernel
theorem dL_law_4 : decode cL_law 4 = .ok (.invokespecial 9, 3) := by decide +kernel
theorem dL_law_7 : decode cL_law 7 = .ok (.astore_n 1, 1) := by decide +kernel
theorem dL_law_8 : decode cL_law 8 = .ok (.new 10, 3) := by decide +kernel
theorem dL_law_11 : decode cL_law 11 = .ok (.dup, 1) := by decide +kernel
theorem dL_law_12 : decode cL_law 12 = .ok (.invokespecial 12, 3) := by decide +kernel
theorem dL_law_15 : decode cL_law 15 = .ok (.astore_n 2, 1) := by decide +kernel
theorem dL_law_16 : decode cL_law 16 = .ok (.iconst 0, 1) := by decide +kernel
theorem dL_law_17 : decode cL_law 17 = .ok (.istore_n 3, 1) := by decide +kernel
theorem dL_law_18 : decode cL_law 18 = .ok (.iload_n 3, 1) := by decide +kernel
theorem dL_law_19 : decode cL_law 19 = .ok (.aload_n 0, 1) := by decide +kernel
theorem dL_law_20 : decode cL_law 20 = .ok (.arraylength, 1) := by decide +kernel
theorem dL_law_21 : decode cL_law 21 = .ok (.iconst 4, 1) := by decide +kernel
theorem dL_law_22 : decode cL_law 22 = .ok (.isub, 1) := by decide +kernel
theorem dL_law_23 : decode cL_law 23 = .ok (.if_icmp .gt 703, 3) := by decide +kernel
theorem dL_law_26 : decode cL_law 26 = .ok (.aload_n 0, 1) := by decide +kernel
theorem dL_law_27 : decode cL_law 27 = .ok (.iload_n 3, 1) := by decide +kernel
theorem dL_law_28 : decode cL_law 28 = .ok (.iaload, 1) := by decide +kernel
theorem dL_law_29 : decode cL_law 29 = .ok (.bipush 31, 2) := by decide +kernel
theorem dL_law_31 : decode cL_law 31 = .ok (.iand, 1) := by decide +kernel
theorem dL_law_32 : decode cL_law 32 = .ok (.tableswitch 688 0 21 #[104, 137, 196, 229, 272, 295, 318, 341, 364, 377, 402, 415, 428, 441, 454, 487, 520, 553, 586, 609, 632, 665], 104) := by decide +kernel
theorem dL_law_136 : decode cL_law 136 = .ok (.aload_n 1, 1) := by decide +kernel
theorem dL_law_137 : decode cL_law 137 = .ok (.aload_n 0, 1) := by decide +kernel
theorem dL_law_138 : decode cL_law 138 = .ok (.iload_n 3, 1) := by decide +kernel
theorem dL_law_139 : decode cL_law 139 = .ok (.iconst 1, 1) := by decide +kernel
theorem dL_law_140 : decode cL_law 140 = .ok (.iadd, 1) := by decide +kernel
theorem dL_law_141 : decode cL_law 141 = .ok (.iaload, 1) := by decide +kernel
theorem dL_law_142 : decode cL_law 142 = .ok (.aload_n 0, 1) := by decide +kernel
theorem dL_law_143 : decode cL_law 143 = .ok (.iload_n 3, 1) := by decide +kernel
theorem dL_law_144 : decode cL_law 144 = .ok (.iconst 2, 1) := by decide +kernel
theorem dL_law_145 : decode cL_law 145 = .ok (.iadd, 1) := by decide +kernel
theorem dL_law_146 : decode cL_law 146 = .ok (.iaload, 1) := by decide +kernel
theorem dL_law_147 : decode cL_law 147 = .ok (.invokevirtual 13, 3) := by decide +kernel
theorem dL_law_150 : decode cL_law 150 = .ok (.aload_n 2, 1) := by decide +kernel
theorem dL_law_151 : decode cL_law 151 = .ok (.aload_n 0, 1) := by decide +kernel
theorem dL_law_152 : decode cL_law 152 = .ok (.iload_n 3, 1) := by decide +kernel
theorem dL_law_153 : decode cL_law 153 = .ok (.iconst 1, 1) := by decide +kernel
theorem dL_law_154 : decode cL_law 154 = .ok (.iadd, 1) := by decide +kernel
theorem dL_law_155 : decode cL_law 155 = .ok (.iaload, 1) := by decide +kernel
theorem dL_law_156 : decode cL_law 156 = .ok (.aload_n 0, 1) := by decide +kernel
theorem dL_law_157 : decode cL_law 157 = .ok (.iload_n 3, 1) := by decide +kernel
theorem dL_law_158 : decode cL_law 158 = .ok (.iconst 2, 1) := by decide +kernel
theorem dL_law_159 : decode cL_law 159 = .ok (.iadd, 1) := by decide +kernel
theorem dL_law_160 : decode cL_law 160 = .ok (.iaload, 1) := by decide +kernel
theorem dL_law_161 : decode cL_law 161 = .ok (.invokevirtual 17, 3) := by decide +kernel
theorem dL_law_164 : decode cL_law 164 = .ok (.if_icmp .eq 556, 3) := by decide +kernel
theorem dL_law_167 : decode cL_law 167 = .ok (.iconst 0, 1) := by decide +kernel
theorem dL_law_168 : decode cL_law 168 = .ok (.ireturn, 1) := by decide +kernel
theorem dL_law_169 : decode cL_law 169 = .ok (.aload_n 1, 1) := by decide +kernel
theorem dL_law_170 : decode cL_law 170 = .ok (.aload_n 0, 1) := by decide +kernel
theorem dL_law_171 : decode cL_law 171 = .ok (.iload_n 3, 1) := by decide +kernel
theorem dL_law_172 : decode cL_law 172 = .ok (.iconst 1, 1) := by decide +kernel
theorem dL_law_173 : decode cL_law 173 = .ok (.iadd, 1) := by decide +kernel
theorem dL_law_174 : decode cL_law 174 = .ok (.iaload, 1) := by decide +kernel
theorem dL_law_175 : decode cL_law 175 = .ok (.aload_n 0, 1) := by decide +kernel
theorem dL_law_176 : decode cL_law 176 = .ok (.iload_n 3, 1) := by decide +kernel
theorem dL_law_177 : decode cL_law 177 = .ok (.iconst 2, 1) := by decide +kernel
theorem dL_law_178 : decode cL_law 178 = .ok (.iadd, 1) := by decide +kernel
theorem dL_law_179 : decode cL_law 179 = .ok (.iaload, 1) := by decide +kernel
theorem dL_law_180 : decode cL_law 180 = .ok (.ifCond .eq 7, 3) := by decide +kernel
theorem dL_law_183 : decode cL_law 183 = .ok (.iconst 1, 1) := by decide +kernel
theorem dL_law_184 : decode cL_law 184 = .ok (.goto 4, 3) := by decide +kernel
theorem dL_law_187 : decode cL_law 187 = .ok (.iconst 0, 1) := by decide +kernel
theorem dL_law_188 : decode cL_law 188 = .ok (.aload_n 0, 1) := by decide +kernel
theorem dL_law_189 : decode cL_law 189 = .ok (.iload_n 3, 1) := by decide +kernel
theorem dL_law_190 : decode cL_law 190 = .ok (.iconst 3, 1) := by decide +kernel
theorem dL_law_191 : decode cL_law 191 = .ok (.iadd, 1) := by decide +kernel
theorem dL_law_192 : decode cL_law 192 = .ok (.iaload, 1) := by decide +kernel
theorem dL_law_193 : decode cL_law 193 = .ok (.invokevirtual 18, 3) := by decide +kernel
theorem dL_law_196 : decode cL_law 196 = .ok (.aload_n 2, 1) := by decide +kernel
theorem dL_law_197 : decode cL_law 197 = .ok (.aload_n 0, 1) := by decide +kernel
theorem dL_law_198 : decode cL_law 198 = .ok (.iload_n 3, 1) := by decide +kernel
theorem dL_law_199 : decode cL_law 199 = .ok (.iconst 1, 1) := by decide +kernel
theorem dL_law_200 : decode cL_law 200 = .ok (.iadd, 1) := by decide +kernel
theorem dL_law_201 : decode cL_law 201 = .ok (.iaload, 1) := by decide +kernel
theorem dL_law_202 : decode cL_law 202 = .ok (.aload_n 0, 1) := by decide +kernel
theorem dL_law_203 : decode cL_law 203 = .ok (.iload_n 3, 1) := by decide +kernel
theorem dL_law_204 : decode cL_law 204 = .ok (.iconst 2, 1) := by decide +kernel
theorem dL_law_205 : decode cL_law 205 = .ok (.iadd, 1) := by decide +kernel
theorem dL_law_206 : decode cL_law 206 = .ok (.iaload, 1) := by decide +kernel
theorem dL_law_207 : decode cL_law 207 = .ok (.ifCond .eq 7, 3) := by decide +kernel
theorem dL_law_210 : decode cL_law 210 = .ok (.iconst 1, 1) := by decide +kernel
theorem dL_law_211 : decode cL_law 211 = .ok (.goto 4, 3) := by decide +kernel
theorem dL_law_214 : decode cL_law 214 = .ok (.iconst 0, 1) := by decide +kernel
theorem dL_law_215 : decode cL_law 215 = .ok (.aload_n 0, 1) := by decide +kernel
theorem dL_law_216 : decode cL_law 216 = .ok (.iload_n 3, 1) := by decide +kernel
theorem dL_law_217 : decode cL_law 217 = .ok (.iconst 3, 1) := by decide +kernel
theorem dL_law_218 : decode cL_law 218 = .ok (.iadd, 1) := by decide +kernel
theorem dL_law_219 : decode cL_law 219 = .ok (.iaload, 1) := by decide +kernel
theorem dL_law_220 : decode cL_law 220 = .ok (.invokevirtual 22, 3) := by decide +kernel
theorem dL_law_223 : decode cL_law 223 = .ok (.if_icmp .eq 497, 3) := by decide +kernel
theorem dL_law_226 : decode cL_law 226 = .ok (.iconst 0, 1) := by decide +kernel
theorem dL_law_227 : decode cL_law 227 = .ok (.ireturn, 1) := by decide +kernel
theorem dL_law_228 : decode cL_law 228 = .ok (.aload_n 1, 1) := by decide +kernel
theorem dL_law_229 : decode cL_law 229 = .ok (.aload_n 0, 1) := by decide +kernel
theorem dL_law_230 : decode cL_law 230 = .ok (.iload_n 3, 1) := by decide +kernel
theorem dL_law_231 : decode cL_law 231 = .ok (.iconst 1, 1) := by decide +kernel
theorem dL_law_232 : decode cL_law 232 = .ok (.iadd, 1) := by decide +kernel
theorem dL_law_233 : decode cL_law 233 = .ok (.iaload, 1) := by decide +kernel
theorem dL_law_234 : decode cL_law 234 = .ok (.aload_n 0, 1) := by decide +kernel
theorem dL_law_235 : decode cL_law 235 = .ok (.iload_n 3, 1) := by decide +kernel
theorem dL_law_236 : decode cL_law 236 = .ok (.iconst 2, 1) := by decide +kernel
theorem dL_law_237 : decode cL_law 237 = .ok (.iadd, 1) := by decide +kernel
theorem dL_law_238 : decode cL_law 238 = .ok (.iaload, 1) := by decide +kernel
theorem dL_law_239 : decode cL_law 239 = .ok (.invokevirtual 23, 3) := by decide +kernel
theorem dL_law_242 : decode cL_law 242 = .ok (.aload_n 2, 1) := by decide +kernel
theorem dL_law_243 : decode cL_law 243 = .ok (.aload_n 0, 1) := by decide +kernel
theorem dL_law_244 : decode cL_law 244 = .ok (.iload_n 3, 1) := by decide +kernel
theorem dL_law_245 : decode cL_law 245 = .ok (.iconst 1, 1) := by decide +kernel
theorem dL_law_246 : decode cL_law 246 = .ok (.iadd, 1) := by decide +kernel
theorem dL_law_247 : decode cL_law 247 = .ok (.iaload, 1) := by decide +kernel
theorem dL_law_248 : decode cL_law 248 = .ok (.aload_n 0, 1) := by decide +kernel
theorem dL_law_249 : decode cL_law 249 = .ok (.iload_n 3, 1) := by decide +kernel
theorem dL_law_250 : decode cL_law 250 = .ok (.iconst 2, 1) := by decide +kernel
theorem dL_law_251 : decode cL_law 251 = .ok (.iadd, 1) := by decide +kernel
theorem dL_law_252 : decode cL_law 252 = .ok (.iaload, 1) := by decide +kernel
theorem dL_law_253 : decode cL_law 253 = .ok (.invokevirtual 26, 3) := by decide +kernel
theorem dL_law_256 : decode cL_law 256 = .ok (.if_icmp .eq 464, 3) := by decide +kernel
theorem dL_law_259 : decode cL_law 259 = .ok (.iconst 0, 1) := by decide +kernel
theorem dL_law_260 : decode cL_law 260 = .ok (.ireturn, 1) := by decide +kernel
theorem dL_law_261 : decode cL_law 261 = .ok (.aload_n 1, 1) := by decide +kernel
theorem dL_law_262 : decode cL_law 262 = .ok (.aload_n 0, 1) := by decide +kernel
theorem dL_law_263 : decode cL_law 263 = .ok (.iload_n 3, 1) := by decide +kernel
theorem dL_law_264 : decode cL_law 264 = .ok (.iconst 1, 1) := by decide +kernel
theorem dL_law_265 : decode cL_law 265 = .ok (.iadd, 1) := by decide +kernel
theorem dL_law_266 : decode cL_law 266 = .ok (.iaload, 1) := by decide +kernel
theorem dL_law_267 : decode cL_law 267 = .ok (.aload_n 0, 1) := by decide +kernel
theorem dL_law_268 : decode cL_law 268 = .ok (.iload_n 3, 1) := by decide +kernel
theorem dL_law_269 : decode cL_law 269 = .ok (.iconst 2, 1) := by decide +kernel
theorem dL_law_270 : decode cL_law 270 = .ok (.iadd, 1) := by decide +kernel
theorem dL_law_271 : decode cL_law 271 = .ok (.iaload, 1) := by decide +kernel
theorem dL_law_272 : decode cL_law 272 = .ok (.aload_n 0, 1) := by decide +kernel
theorem dL_law_273 : decode cL_law 273 = .ok (.iload_n 3, 1) := by decide +kernel
theorem dL_law_274 : decode cL_law 274 = .ok (.iconst 3, 1) := by decide +kernel
theorem dL_law_275 : decode cL_law 275 = .ok (.iadd, 1) := by decide +kernel
theorem dL_law_276 : decode cL_law 276 = .ok (.iaload, 1) := by decide +kernel
theorem dL_law_277 : decode cL_law 277 = .ok (.invokevirtual 27, 3) := by decide +kernel
theorem dL_law_280 : decode cL_law 280 = .ok (.aload_n 2, 1) := by decide +kernel
theorem dL_law_281 : decode cL_law 281 = .ok (.aload_n 0, 1) := by decide +kernel
theorem dL_law_282 : decode cL_law 282 = .ok (.iload_n 3, 1) := by decide +kernel
theorem dL_law_283 : decode cL_law 283 = .ok (.iconst 1, 1) := by decide +kernel
theorem dL_law_284 : decode cL_law 284 = .ok (.iadd, 1) := by decide +kernel
theorem dL_law_285 : decode cL_law 285 = .ok (.iaload, 1) := by decide +kernel
theorem dL_law_286 : decode cL_law 286 = .ok (.aload_n 0, 1) := by decide +kernel
theorem dL_law_287 : decode cL_law 287 = .ok (.iload_n 3, 1) := by decide +kernel
theorem dL_law_288 : decode cL_law 288 = .ok (.iconst 2, 1) := by decide +kernel
theorem dL_law_289 : decode cL_law 289 = .ok (.iadd, 1) := by decide +kernel
theorem dL_law_290 : decode cL_law 290 = .ok (.iaload, 1) := by decide +kernel
theorem dL_law_291 : decode cL_law 291 = .ok (.aload_n 0, 1) := by decide +kernel
theorem dL_law_292 : decode cL_law 292 = .ok (.iload_n 3, 1) := by decide +kernel
theorem dL_law_293 : decode cL_law 293 = .ok (.iconst 3, 1) := by decide +kernel
theorem dL_law_294 : decode cL_law 294 = .ok (.iadd, 1) := by decide +kernel
theorem dL_law_295 : decode cL_law 295 = .ok (.iaload, 1) := by decide +kernel
theorem dL_law_296 : decode cL_law 296 = .ok (.invokevirtual 31, 3) := by decide +kernel
theorem dL_law_299 : decode cL_law 299 = .ok (.if_icmp .eq 421, 3) := by decide +kernel
theorem dL_law_302 : decode cL_law 302 = .ok (.iconst 0, 1) := by decide +kernel
theorem dL_law_303 : decode cL_law 303 = .ok (.ireturn, 1) := by decide +kernel
theorem dL_law_304 : decode cL_law 304 = .ok (.aload_n 1, 1) := by decide +kernel
theorem dL_law_305 : decode cL_law 305 = .ok (.aload_n 0, 1) := by decide +kernel
theorem dL_law_306 : decode cL_law 306 = .ok (.iload_n 3, 1) := by decide +kernel
theorem dL_law_307 : decode cL_law 307 = .ok (.iconst 1, 1) := by decide +kernel
theorem dL_law_308 : decode cL_law 308 = .ok (.iadd, 1) := by decide +kernel
theorem dL_law_309 : decode cL_law 309 = .ok (.iaload, 1) := by decide +kernel
theorem dL_law_310 : decode cL_law 310 = .ok (.invokevirtual 32, 3) := by decide +kernel
theorem dL_law_313 : decode cL_law 313 = .ok (.aload_n 2, 1) := by decide +kernel
theorem dL_law_314 : decode cL_law 314 = .ok (.aload_n 0, 1) := by decide +kernel
theorem dL_law_315 : decode cL_law 315 = .ok (.iload_n 3, 1) := by decide +kernel
theorem dL_law_316 : decode cL_law 316 = .ok (.iconst 1, 1) := by decide +kernel
theorem dL_law_317 : decode cL_law 317 = .ok (.iadd, 1) := by decide +kernel
theorem dL_law_318 : decode cL_law 318 = .ok (.iaload, 1) := by decide +kernel
theorem dL_law_319 : decode cL_law 319 = .ok (.invokevirtual 36, 3) := by decide +kernel
theorem dL_law_322 : decode cL_law 322 = .ok (.if_icmp .eq 398, 3) := by decide +kernel
theorem dL_law_325 : decode cL_law 325 = .ok (.iconst 0, 1) := by decide +kernel
theorem dL_law_326 : decode cL_law 326 = .ok (.ireturn, 1) := by decide +kernel
theorem dL_law_327 : decode cL_law 327 = .ok (.aload_n 1, 1) := by decide +kernel
theorem dL_law_328 : decode cL_law 328 = .ok (.aload_n 0, 1) := by decide +kernel
theorem dL_law_329 : decode cL_law 329 = .ok (.iload_n 3, 1) := by decide +kernel
theorem dL_law_330 : decode cL_law 330 = .ok (.iconst 1, 1) := by decide +kernel
theorem dL_law_331 : decode cL_law 331 = .ok (.iadd, 1) := by decide +kernel
theorem dL_law_332 : decode cL_law 332 = .ok (.iaload, 1) := by decide +kernel
theorem dL_law_333 : decode cL_law 333 = .ok (.invokevirtual 37, 3) := by decide +kernel
theorem dL_law_336 : decode cL_law 336 = .ok (.aload_n 2, 1) := by decide +kernel
theorem dL_law_337 : decode cL_law 337 = .ok (.aload_n 0, 1) := by decide +kernel
theorem dL_law_338 : decode cL_law 338 = .ok (.iload_n 3, 1) := by decide +kernel
theorem dL_law_339 : decode cL_law 339 = .ok (.iconst 1, 1) := by decide +kernel
theorem dL_law_340 : decode cL_law 340 = .ok (.iadd, 1) := by decide +kernel
theorem dL_law_341 : decode cL_law 341 = .ok (.iaload, 1) := by decide +kernel
theorem dL_law_342 : decode cL_law 342 = .ok (.invokevirtual 40, 3) := by decide +kernel
theorem dL_law_345 : decode cL_law 345 = .ok (.if_icmp .eq 375, 3) := by decide +kernel
theorem dL_law_348 : decode cL_law 348 = .ok (.iconst 0, 1) := by decide +kernel
theorem dL_law_349 : decode cL_law 349 = .ok (.ireturn, 1) := by decide +kernel
theorem dL_law_350 : decode cL_law 350 = .ok (.aload_n 1, 1) := by decide +kernel
theorem dL_law_351 : decode cL_law 351 = .ok (.aload_n 0, 1) := by decide +kernel
theorem dL_law_352 : decode cL_law 352 = .ok (.iload_n 3, 1) := by decide +kernel
theorem dL_law_353 : decode cL_law 353 = .ok (.iconst 1, 1) := by decide +kernel
theorem dL_law_354 : decode cL_law 354 = .ok (.iadd, 1) := by decide +kernel
theorem dL_law_355 : decode cL_law 355 = .ok (.iaload, 1) := by decide +kernel
theorem dL_law_356 : decode cL_law 356 = .ok (.invokevirtual 41, 3) := by decide +kernel
theorem dL_law_359 : decode cL_law 359 = .ok (.aload_n 2, 1) := by decide +kernel
theorem dL_law_360 : decode cL_law 360 = .ok (.aload_n 0, 1) := by decide +kernel
theorem dL_law_361 : decode cL_law 361 = .ok (.iload_n 3, 1) := by decide +kernel
theorem dL_law_362 : decode cL_law 362 = .ok (.iconst 1, 1) := by decide +kernel
theorem dL_law_363 : decode cL_law 363 = .ok (.iadd, 1) := by decide +kernel
theorem dL_law_364 : decode cL_law 364 = .ok (.iaload, 1) := by decide +kernel
theorem dL_law_365 : decode cL_law 365 = .ok (.invokevirtual 44, 3) := by decide +kernel
theorem dL_law_368 : decode cL_law 368 = .ok (.if_icmp .eq 352, 3) := by decide +kernel
theorem dL_law_371 : decode cL_law 371 = .ok (.iconst 0, 1) := by decide +kernel
theorem dL_law_372 : decode cL_law 372 = .ok (.ireturn, 1) := by decide +kernel
theorem dL_law_373 : decode cL_law 373 = .ok (.aload_n 1, 1) := by decide +kernel
theorem dL_law_374 : decode cL_law 374 = .ok (.aload_n 0, 1) := by decide +kernel
theorem dL_law_375 : decode cL_law 375 = .ok (.iload_n 3, 1) := by decide +kernel
theorem dL_law_376 : decode cL_law 376 = .ok (.iconst 1, 1) := by decide +kernel
theorem dL_law_377 : decode cL_law 377 = .ok (.iadd, 1) := by decide +kernel
theorem dL_law_378 : decode cL_law 378 = .ok (.iaload, 1) := by decide +kernel
theorem dL_law_379 : decode cL_law 379 = .ok (.invokevirtual 45, 3) := by decide +kernel
theorem dL_law_382 : decode cL_law 382 = .ok (.aload_n 2, 1) := by decide +kernel
theorem dL_law_383 : decode cL_law 383 = .ok (.aload_n 0, 1) := by decide +kernel
theorem dL_law_384 : decode cL_law 384 = .ok (.iload_n 3, 1) := by decide +kernel
theorem dL_law_385 : decode cL_law 385 = .ok (.iconst 1, 1) := by decide +kernel
theorem dL_law_386 : decode cL_law 386 = .ok (.iadd, 1) := by decide +kernel
theorem dL_law_387 : decode cL_law 387 = .ok (.iaload, 1) := by decide +kernel
theorem dL_law_388 : decode cL_law 388 = .ok (.invokevirtual 48, 3) := by decide +kernel
theorem dL_law_391 : decode cL_law 391 = .ok (.if_icmp .eq 329, 3) := by decide +kernel
theorem dL_law_394 : decode cL_law 394 = .ok (.iconst 0, 1) := by decide +kernel
theorem dL_law_395 : decode cL_law 395 = .ok (.ireturn, 1) := by decide +kernel
theorem dL_law_396 : decode cL_law 396 = .ok (.aload_n 1, 1) := by decide +kernel
theorem dL_law_397 : decode cL_law 397 = .ok (.invokevirtual 49, 3) := by decide +kernel
theorem dL_law_400 : decode cL_law 400 = .ok (.aload_n 2, 1) := by decide +kernel
theorem dL_law_401 : decode cL_law 401 = .ok (.invokevirtual 53, 3) := by decide +kernel
theorem dL_law_404 : decode cL_law 404 = .ok (.if_icmp .eq 316, 3) := by decide +kernel
theorem dL_law_407 : decode cL_law 407 = .ok (.iconst 0, 1) := by decide +kernel
theorem dL_law_408 : decode cL_law 408 = .ok (.ireturn, 1) := by decide +kernel
theorem dL_law_409 : decode cL_law 409 = .ok (.aload_n 1, 1) := by decide +kernel
theorem dL_law_410 : decode cL_law 410 = .ok (.aload_n 0, 1) := by decide +kernel
theorem dL_law_411 : decode cL_law 411 = .ok (.iload_n 3, 1) := by decide +kernel
theorem dL_law_412 : decode cL_law 412 = .ok (.iconst 1, 1) := by decide +kernel
theorem dL_law_413 : decode cL_law 413 = .ok (.iadd, 1) := by decide +kernel
theorem dL_law_414 : decode cL_law 414 = .ok (.iaload, 1) := by decide +kernel
theorem dL_law_415 : decode cL_law 415 = .ok (.i2c, 1) := by decide +kernel
theorem dL_law_416 : decode cL_law 416 = .ok (.invokevirtual 54, 3) := by decide +kernel
theorem dL_law_419 : decode cL_law 419 = .ok (.aload_n 2, 1) := by decide +kernel
theorem dL_law_420 : decode cL_law 420 = .ok (.aload_n 0, 1) := by decide +kernel
theorem dL_law_421 : decode cL_law 421 = .ok (.iload_n 3, 1) := by decide +kernel
theorem dL_law_422 : decode cL_law 422 = .ok (.iconst 1, 1) := by decide +kernel
theorem dL_law_423 : decode cL_law 423 = .ok (.iadd, 1) := by decide +kernel
theorem dL_law_424 : decode cL_law 424 = .ok (.iaload, 1) := by decide +kernel
theorem dL_law_425 : decode cL_law 425 = .ok (.i2c, 1) := by decide +kernel
theorem dL_law_426 : decode cL_law 426 = .ok (.invokevirtual 58, 3) := by decide +kernel
theorem dL_law_429 : decode cL_law 429 = .ok (.if_icmp .eq 291, 3) := by decide +kernel
theorem dL_law_432 : decode cL_law 432 = .ok (.iconst 0, 1) := by decide +kernel
theorem dL_law_433 : decode cL_law 433 = .ok (.ireturn, 1) := by decide +kernel
theorem dL_law_434 : decode cL_law 434 = .ok (.aload_n 1, 1) := by decide +kernel
theorem dL_law_435 : decode cL_law 435 = .ok (.invokevirtual 59, 3) := by decide +kernel
theorem dL_law_438 : decode cL_law 438 = .ok (.aload_n 2, 1) := by decide +kernel
theorem dL_law_439 : decode cL_law 439 = .ok (.invokevirtual 62, 3) := by decide +kernel
theorem dL_law_442 : decode cL_law 442 = .ok (.if_icmp .eq 278, 3) := by decide +kernel
theorem dL_law_445 : decode cL_law 445 = .ok (.iconst 0, 1) := by decide +kernel
theorem dL_law_446 : decode cL_law 446 = .ok (.ireturn, 1) := by decide +kernel
theorem dL_law_447 : decode cL_law 447 = .ok (.aload_n 1, 1) := by decide +kernel
theorem dL_law_448 : decode cL_law 448 = .ok (.invokevirtual 63, 3) := by decide +kernel
theorem dL_law_451 : decode cL_law 451 = .ok (.aload_n 2, 1) := by decide +kernel
theorem dL_law_452 : decode cL_law 452 = .ok (.invokevirtual 66, 3) := by decide +kernel
theorem dL_law_455 : decode cL_law 455 = .ok (.if_icmp .eq 265, 3) := by decide +kernel
theorem dL_law_458 : decode cL_law 458 = .ok (.iconst 0, 1) := by decide +kernel
theorem dL_law_459 : decode cL_law 459 = .ok (.ireturn, 1) := by decide +kernel
theorem dL_law_460 : decode cL_law 460 = .ok (.aload_n 1, 1) := by decide +kernel
theorem dL_law_461 : decode cL_law 461 = .ok (.invokevirtual 67, 3) := by decide +kernel
theorem dL_law_464 : decode cL_law 464 = .ok (.aload_n 2, 1) := by decide +kernel
theorem dL_law_465 : decode cL_law 465 = .ok (.invokevirtual 70, 3) := by decide +kernel
theorem dL_law_468 : decode cL_law 468 = .ok (.if_icmp .eq 252, 3) := by decide +kernel
theorem dL_law_471 : decode cL_law 471 = .ok (.iconst 0, 1) := by decide +kernel
theorem dL_law_472 : decode cL_law 472 = .ok (.ireturn, 1) := by decide +kernel
theorem dL_law_473 : decode cL_law 473 = .ok (.aload_n 1, 1) := by decide +kernel
theorem dL_law_474 : decode cL_law 474 = .ok (.invokevirtual 71, 3) := by decide +kernel
theorem dL_law_477 : decode cL_law 477 = .ok (.aload_n 2, 1) := by decide +kernel
theorem dL_law_478 : decode cL_law 478 = .ok (.invokevirtual 74, 3) := by decide +kernel
theorem dL_law_481 : decode cL_law 481 = .ok (.if_icmp .eq 239, 3) := by decide +kernel
theorem dL_law_484 : decode cL_law 484 = .ok (.iconst 0, 1) := by decide +kernel
theorem dL_law_485 : decode cL_law 485 = .ok (.ireturn, 1) := by decide +kernel
theorem dL_law_486 : decode cL_law 486 = .ok (.aload_n 1, 1) := by decide +kernel
theorem dL_law_487 : decode cL_law 487 = .ok (.aload_n 0, 1) := by decide +kernel
theorem dL_law_488 : decode cL_law 488 = .ok (.iload_n 3, 1) := by decide +kernel
theorem dL_law_489 : decode cL_law 489 = .ok (.iconst 1, 1) := by decide +kernel
theorem dL_law_490 : decode cL_law 490 = .ok (.iadd, 1) := by decide +kernel
theorem dL_law_491 : decode cL_law 491 = .ok (.iaload, 1) := by decide +kernel
theorem dL_law_492 : decode cL_law 492 = .ok (.aload_n 0, 1) := by decide +kernel
theorem dL_law_493 : decode cL_law 493 = .ok (.iload_n 3, 1) := by decide +kernel
theorem dL_law_494 : decode cL_law 494 = .ok (.iconst 2, 1) := by decide +kernel
theorem dL_law_495 : decode cL_law 495 = .ok (.iadd, 1) := by decide +kernel
theorem dL_law_496 : decode cL_law 496 = .ok (.iaload, 1) := by decide +kernel
theorem dL_law_497 : decode cL_law 497 = .ok (.invokevirtual 75, 3) := by decide +kernel
theorem dL_law_500 : decode cL_law 500 = .ok (.aload_n 2, 1) := by decide +kernel
theorem dL_law_501 : decode cL_law 501 = .ok (.aload_n 0, 1) := by decide +kernel
theorem dL_law_502 : decode cL_law 502 = .ok (.iload_n 3, 1) := by decide +kernel
theorem dL_law_503 : decode cL_law 503 = .ok (.iconst 1, 1) := by decide +kernel
theorem dL_law_504 : decode cL_law 504 = .ok (.iadd, 1) := by decide +kernel
theorem dL_law_505 : decode cL_law 505 = .ok (.iaload, 1) := by decide +kernel
theorem dL_law_506 : decode cL_law 506 = .ok (.aload_n 0, 1) := by decide +kernel
theorem dL_law_507 : decode cL_law 507 = .ok (.iload_n 3, 1) := by decide +kernel
theorem dL_law_508 : decode cL_law 508 = .ok (.iconst 2, 1) := by decide +kernel
theorem dL_law_509 : decode cL_law 509 = .ok (.iadd, 1) := by decide +kernel
theorem dL_law_510 : decode cL_law 510 = .ok (.iaload, 1) := by decide +kernel
theorem dL_law_511 : decode cL_law 511 = .ok (.invokevirtual 78, 3) := by decide +kernel
theorem dL_law_514 : decode cL_law 514 = .ok (.if_icmp .eq 206, 3) := by decide +kernel
theorem dL_law_517 : decode cL_law 517 = .ok (.iconst 0, 1) := by decide +kernel
theorem dL_law_518 : decode cL_law 518 = .ok (.ireturn, 1) := by decide +kernel
theorem dL_law_519 : decode cL_law 519 = .ok (.aload_n 1, 1) := by decide +kernel
theorem dL_law_520 : decode cL_law 520 = .ok (.aload_n 0, 1) := by decide +kernel
theorem dL_law_521 : decode cL_law 521 = .ok (.iload_n 3, 1) := by decide +kernel
theorem dL_law_522 : decode cL_law 522 = .ok (.iconst 1, 1) := by decide +kernel
theorem dL_law_523 : decode cL_law 523 = .ok (.iadd, 1) := by decide +kernel
theorem dL_law_524 : decode cL_law 524 = .ok (.iaload, 1) := by decide +kernel
theorem dL_law_525 : decode cL_law 525 = .ok (.aload_n 0, 1) := by decide +kernel
theorem dL_law_526 : decode cL_law 526 = .ok (.iload_n 3, 1) := by decide +kernel
theorem dL_law_527 : decode cL_law 527 = .ok (.iconst 2, 1) := by decide +kernel
theorem dL_law_528 : decode cL_law 528 = .ok (.iadd, 1) := by decide +kernel
theorem dL_law_529 : decode cL_law 529 = .ok (.iaload, 1) := by decide +kernel
theorem dL_law_530 : decode cL_law 530 = .ok (.invokevirtual 79, 3) := by decide +kernel
theorem dL_law_533 : decode cL_law 533 = .ok (.aload_n 2, 1) := by decide +kernel
theorem dL_law_534 : decode cL_law 534 = .ok (.aload_n 0, 1) := by decide +kernel
theorem dL_law_535 : decode cL_law 535 = .ok (.iload_n 3, 1) := by decide +kernel
theorem dL_law_536 : decode cL_law 536 = .ok (.iconst 1, 1) := by decide +kernel
theorem dL_law_537 : decode cL_law 537 = .ok (.iadd, 1) := by decide +kernel
theorem dL_law_538 : decode cL_law 538 = .ok (.iaload, 1) := by decide +kernel
theorem dL_law_539 : decode cL_law 539 = .ok (.aload_n 0, 1) := by decide +kernel
theorem dL_law_540 : decode cL_law 540 = .ok (.iload_n 3, 1) := by decide +kernel
theorem dL_law_541 : decode cL_law 541 = .ok (.iconst 2, 1) := by decide +kernel
theorem dL_law_542 : decode cL_law 542 = .ok (.iadd, 1) := by decide +kernel
theorem dL_law_543 : decode cL_law 543 = .ok (.iaload, 1) := by decide +kernel
theorem dL_law_544 : decode cL_law 544 = .ok (.invokevirtual 82, 3) := by decide +kernel
theorem dL_law_547 : decode cL_law 547 = .ok (.if_icmp .eq 173, 3) := by decide +kernel
theorem dL_law_550 : decode cL_law 550 = .ok (.iconst 0, 1) := by decide +kernel
theorem dL_law_551 : decode cL_law 551 = .ok (.ireturn, 1) := by decide +kernel
theorem dL_law_552 : decode cL_law 552 = .ok (.aload_n 1, 1) := by decide +kernel
theorem dL_law_553 : decode cL_law 553 = .ok (.aload_n 0, 1) := by decide +kernel
theorem dL_law_554 : decode cL_law 554 = .ok (.iload_n 3, 1) := by decide +kernel
theorem dL_law_555 : decode cL_law 555 = .ok (.iconst 1, 1) := by decide +kernel
theorem dL_law_556 : decode cL_law 556 = .ok (.iadd, 1) := by decide +kernel
theorem dL_law_557 : decode cL_law 557 = .ok (.iaload, 1) := by decide +kernel
theorem dL_law_558 : decode cL_law 558 = .ok (.aload_n 0, 1) := by decide +kernel
theorem dL_law_559 : decode cL_law 559 = .ok (.iload_n 3, 1) := by decide +kernel
theorem dL_law_560 : decode cL_law 560 = .ok (.iconst 2, 1) := by decide +kernel
theorem dL_law_561 : decode cL_law 561 = .ok (.iadd, 1) := by decide +kernel
theorem dL_law_562 : decode cL_law 562 = .ok (.iaload, 1) := by decide +kernel
theorem dL_law_563 : decode cL_law 563 = .ok (.invokevirtual 83, 3) := by decide +kernel
theorem dL_law_566 : decode cL_law 566 = .ok (.aload_n 2, 1) := by decide +kernel
theorem dL_law_567 : decode cL_law 567 = .ok (.aload_n 0, 1) := by decide +kernel
theorem dL_law_568 : decode cL_law 568 = .ok (.iload_n 3, 1) := by decide +kernel
theorem dL_law_569 : decode cL_law 569 = .ok (.iconst 1, 1) := by decide +kernel
theorem dL_law_570 : decode cL_law 570 = .ok (.iadd, 1) := by decide +kernel
theorem dL_law_571 : decode cL_law 571 = .ok (.iaload, 1) := by decide +kernel
theorem dL_law_572 : decode cL_law 572 = .ok (.aload_n 0, 1) := by decide +kernel
theorem dL_law_573 : decode cL_law 573 = .ok (.iload_n 3, 1) := by decide +kernel
theorem dL_law_574 : decode cL_law 574 = .ok (.iconst 2, 1) := by decide +kernel
theorem dL_law_575 : decode cL_law 575 = .ok (.iadd, 1) := by decide +kernel
theorem dL_law_576 : decode cL_law 576 = .ok (.iaload, 1) := by decide +kernel
theorem dL_law_577 : decode cL_law 577 = .ok (.invokevirtual 86, 3) := by decide +kernel
theorem dL_law_580 : decode cL_law 580 = .ok (.if_icmp .eq 140, 3) := by decide +kernel
theorem dL_law_583 : decode cL_law 583 = .ok (.iconst 0, 1) := by decide +kernel
theorem dL_law_584 : decode cL_law 584 = .ok (.ireturn, 1) := by decide +kernel
theorem dL_law_585 : decode cL_law 585 = .ok (.aload_n 1, 1) := by decide +kernel
theorem dL_law_586 : decode cL_law 586 = .ok (.aload_n 0, 1) := by decide +kernel
theorem dL_law_587 : decode cL_law 587 = .ok (.iload_n 3, 1) := by decide +kernel
theorem dL_law_588 : decode cL_law 588 = .ok (.iconst 1, 1) := by decide +kernel
theorem dL_law_589 : decode cL_law 589 = .ok (.iadd, 1) := by decide +kernel
theorem dL_law_590 : decode cL_law 590 = .ok (.iaload, 1) := by decide +kernel
theorem dL_law_591 : decode cL_law 591 = .ok (.aload_n 0, 1) := by decide +kernel
theorem dL_law_592 : decode cL_law 592 = .ok (.iload_n 3, 1) := by decide +kernel
theorem dL_law_593 : decode cL_law 593 = .ok (.iconst 2, 1) := by decide +kernel
theorem dL_law_594 : decode cL_law 594 = .ok (.iadd, 1) := by decide +kernel
theorem dL_law_595 : decode cL_law 595 = .ok (.iaload, 1) := by decide +kernel
theorem dL_law_596 : decode cL_law 596 = .ok (.invokevirtual 87, 3) := by decide +kernel
theorem dL_law_599 : decode cL_law 599 = .ok (.aload_n 2, 1) := by decide +kernel
theorem dL_law_600 : decode cL_law 600 = .ok (.aload_n 0, 1) := by decide +kernel
theorem dL_law_601 : decode cL_law 601 = .ok (.iload_n 3, 1) := by decide +kernel
theorem dL_law_602 : decode cL_law 602 = .ok (.iconst 1, 1) := by decide +kernel
theorem dL_law_603 : decode cL_law 603 = .ok (.iadd, 1) := by decide +kernel
theorem dL_law_604 : decode cL_law 604 = .ok (.iaload, 1) := by decide +kernel
theorem dL_law_605 : decode cL_law 605 = .ok (.aload_n 0, 1) := by decide +kernel
theorem dL_law_606 : decode cL_law 606 = .ok (.iload_n 3, 1) := by decide +kernel
theorem dL_law_607 : decode cL_law 607 = .ok (.iconst 2, 1) := by decide +kernel
theorem dL_law_608 : decode cL_law 608 = .ok (.iadd, 1) := by decide +kernel
theorem dL_law_609 : decode cL_law 609 = .ok (.iaload, 1) := by decide +kernel
theorem dL_law_610 : decode cL_law 610 = .ok (.invokevirtual 90, 3) := by decide +kernel
theorem dL_law_613 : decode cL_law 613 = .ok (.if_icmp .eq 107, 3) := by decide +kernel
theorem dL_law_616 : decode cL_law 616 = .ok (.iconst 0, 1) := by decide +kernel
theorem dL_law_617 : decode cL_law 617 = .ok (.ireturn, 1) := by decide +kernel
theorem dL_law_618 : decode cL_law 618 = .ok (.aload_n 1, 1) := by decide +kernel
theorem dL_law_619 : decode cL_law 619 = .ok (.aload_n 0, 1) := by decide +kernel
theorem dL_law_620 : decode cL_law 620 = .ok (.iload_n 3, 1) := by decide +kernel
theorem dL_law_621 : decode cL_law 621 = .ok (.iconst 1, 1) := by decide +kernel
theorem dL_law_622 : decode cL_law 622 = .ok (.iadd, 1) := by decide +kernel
theorem dL_law_623 : decode cL_law 623 = .ok (.iaload, 1) := by decide +kernel
theorem dL_law_624 : decode cL_law 624 = .ok (.invokevirtual 91, 3) := by decide +kernel
theorem dL_law_627 : decode cL_law 627 = .ok (.aload_n 2, 1) := by decide +kernel
theorem dL_law_628 : decode cL_law 628 = .ok (.aload_n 0, 1) := by decide +kernel
theorem dL_law_629 : decode cL_law 629 = .ok (.iload_n 3, 1) := by decide +kernel
theorem dL_law_630 : decode cL_law 630 = .ok (.iconst 1, 1) := by decide +kernel
theorem dL_law_631 : decode cL_law 631 = .ok (.iadd, 1) := by decide +kernel
theorem dL_law_632 : decode cL_law 632 = .ok (.iaload, 1) := by decide +kernel
theorem dL_law_633 : decode cL_law 633 = .ok (.invokevirtual 94, 3) := by decide +kernel
theorem dL_law_636 : decode cL_law 636 = .ok (.if_icmp .eq 84, 3) := by decide +kernel
theorem dL_law_639 : decode cL_law 639 = .ok (.iconst 0, 1) := by decide +kernel
theorem dL_law_640 : decode cL_law 640 = .ok (.ireturn, 1) := by decide +kernel
theorem dL_law_641 : decode cL_law 641 = .ok (.aload_n 1, 1) := by decide +kernel
theorem dL_law_642 : decode cL_law 642 = .ok (.aload_n 0, 1) := by decide +kernel
theorem dL_law_643 : decode cL_law 643 = .ok (.iload_n 3, 1) := by decide +kernel
theorem dL_law_644 : decode cL_law 644 = .ok (.iconst 1, 1) := by decide +kernel
theorem dL_law_645 : decode cL_law 645 = .ok (.iadd, 1) := by decide +kernel
theorem dL_law_646 : decode cL_law 646 = .ok (.iaload, 1) := by decide +kernel
theorem dL_law_647 : decode cL_law 647 = .ok (.invokevirtual 95, 3) := by decide +kernel
theorem dL_law_650 : decode cL_law 650 = .ok (.aload_n 2, 1) := by decide +kernel
theorem dL_law_651 : decode cL_law 651 = .ok (.aload_n 0, 1) := by decide +kernel
theorem dL_law_652 : decode cL_law 652 = .ok (.iload_n 3, 1) := by decide +kernel
theorem dL_law_653 : decode cL_law 653 = .ok (.iconst 1, 1) := by decide +kernel
theorem dL_law_654 : decode cL_law 654 = .ok (.iadd, 1) := by decide +kernel
theorem dL_law_655 : decode cL_law 655 = .ok (.iaload, 1) := by decide +kernel
theorem dL_law_656 : decode cL_law 656 = .ok (.invokevirtual 98, 3) := by decide +kernel
theorem dL_law_659 : decode cL_law 659 = .ok (.if_icmp .eq 61, 3) := by decide +kernel
theorem dL_law_662 : decode cL_law 662 = .ok (.iconst 0, 1) := by decide +kernel
theorem dL_law_663 : decode cL_law 663 = .ok (.ireturn, 1) := by decide +kernel
theorem dL_law_664 : decode cL_law 664 = .ok (.aload_n 1, 1) := by decide +kernel
theorem dL_law_665 : decode cL_law 665 = .ok (.aload_n 0, 1) := by decide +kernel
theorem dL_law_666 : decode cL_law 666 = .ok (.iload_n 3, 1) := by decide +kernel
theorem dL_law_667 : decode cL_law 667 = .ok (.iconst 1, 1) := by decide +kernel
theorem dL_law_668 : decode cL_law 668 = .ok (.iadd, 1) := by decide +kernel
theorem dL_law_669 : decode cL_law 669 = .ok (.iaload, 1) := by decide +kernel
theorem dL_law_670 : decode cL_law 670 = .ok (.aload_n 0, 1) := by decide +kernel
theorem dL_law_671 : decode cL_law 671 = .ok (.iload_n 3, 1) := by decide +kernel
theorem dL_law_672 : decode cL_law 672 = .ok (.iconst 2, 1) := by decide +kernel
theorem dL_law_673 : decode cL_law 673 = .ok (.iadd, 1) := by decide +kernel
theorem dL_law_674 : decode cL_law 674 = .ok (.iaload, 1) := by decide +kernel
theorem dL_law_675 : decode cL_law 675 = .ok (.invokevirtual 99, 3) := by decide +kernel
theorem dL_law_678 : decode cL_law 678 = .ok (.aload_n 2, 1) := by decide +kernel
theorem dL_law_679 : decode cL_law 679 = .ok (.aload_n 0, 1) := by decide +kernel
theorem dL_law_680 : decode cL_law 680 = .ok (.iload_n 3, 1) := by decide +kernel
theorem dL_law_681 : decode cL_law 681 = .ok (.iconst 1, 1) := by decide +kernel
theorem dL_law_682 : decode cL_law 682 = .ok (.iadd, 1) := by decide +kernel
theorem dL_law_683 : decode cL_law 683 = .ok (.iaload, 1) := by decide +kernel
theorem dL_law_684 : decode cL_law 684 = .ok (.aload_n 0, 1) := by decide +kernel
theorem dL_law_685 : decode cL_law 685 = .ok (.iload_n 3, 1) := by decide +kernel
theorem dL_law_686 : decode cL_law 686 = .ok (.iconst 2, 1) := by decide +kernel
theorem dL_law_687 : decode cL_law 687 = .ok (.iadd, 1) := by decide +kernel
theorem dL_law_688 : decode cL_law 688 = .ok (.iaload, 1) := by decide +kernel
theorem dL_law_689 : decode cL_law 689 = .ok (.invokevirtual 102, 3) := by decide +kernel
theorem dL_law_692 : decode cL_law 692 = .ok (.if_icmp .eq 28, 3) := by decide +kernel
theorem dL_law_695 : decode cL_law 695 = .ok (.iconst 0, 1) := by decide +kernel
theorem dL_law_696 : decode cL_law 696 = .ok (.ireturn, 1) := by decide +kernel
theorem dL_law_697 : decode cL_law 697 = .ok (.aload_n 1, 1) := by decide +kernel
theorem dL_law_698 : decode cL_law 698 = .ok (.aload_n 0, 1) := by decide +kernel
theorem dL_law_699 : decode cL_law 699 = .ok (.iload_n 3, 1) := by decide +kernel
theorem dL_law_700 : decode cL_law 700 = .ok (.iconst 1, 1) := by decide +kernel
theorem dL_law_701 : decode cL_law 701 = .ok (.iadd, 1) := by decide +kernel
theorem dL_law_702 : decode cL_law 702 = .ok (.iaload, 1) := by decide +kernel
theorem dL_law_703 : decode cL_law 703 = .ok (.invokevirtual 103, 3) := by decide +kernel
theorem dL_law_706 : decode cL_law 706 = .ok (.aload_n 2, 1) := by decide +kernel
theorem dL_law_707 : decode cL_law 707 = .ok (.aload_n 0, 1) := by decide +kernel
theorem dL_law_708 : decode cL_law 708 = .ok (.iload_n 3, 1) := by decide +kernel
theorem dL_law_709 : decode cL_law 709 = .ok (.iconst 1, 1) := by decide +kernel
theorem dL_law_710 : decode cL_law 710 = .ok (.iadd, 1) := by decide +kernel
theorem dL_law_711 : decode cL_law 711 = .ok (.iaload, 1) := by decide +kernel
theorem dL_law_712 : decode cL_law 712 = .ok (.invokevirtual 106, 3) := by decide +kernel
theorem dL_law_715 : decode cL_law 715 = .ok (.if_icmp .eq 5, 3) := by decide +kernel
theorem dL_law_718 : decode cL_law 718 = .ok (.iconst 0, 1) := by decide +kernel
theorem dL_law_719 : decode cL_law 719 = .ok (.ireturn, 1) := by decide +kernel
theorem dL_law_720 : decode cL_law 720 = .ok (.iinc 3 4, 3) := by decide +kernel
theorem dL_law_723 : decode cL_law 723 = .ok (.goto (-705), 3) := by decide +kernel
theorem dL_law_726 : decode cL_law 726 = .ok (.iconst 1, 1) := by decide +kernel
theorem dL_law_727 : decode cL_law 727 = .ok (.ireturn, 1) := by decide +kernel
