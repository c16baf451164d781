theorem dX5_decide_0 : decode cX5_decide 0 = .ok (.aload_n 0, 1) := by decide +kernel
theorem dX5_decide_1 : decode cX5_decide 1 = .ok (.iconst 0, 1) := by decide +kernel
theorem dX5_decide_2 : decode cX5_decide 2 = .ok (.putfield 29, 3) := by decide +kernel
theorem dX5_decide_5 : decode cX5_decide 5 = .ok (.aload_n 0, 1) := by decide +kernel
theorem dX5_decide_6 : decode cX5_decide 6 = .ok (.iload_n 1, 1) := by decide +kernel
theorem dX5_decide_7 : decode cX5_decide 7 = .ok (.invokevirtual 99, 3) := by decide +kernel
theorem dX5_decide_10 : decode cX5_decide 10 = .ok (.ifCond .ne 9, 3) := by decide +kernel
theorem dX5_decide_13 : decode cX5_decide 13 = .ok (.aload_n 0, 1) := by decide +kernel
theorem dX5_decide_14 : decode cX5_decide 14 = .ok (.iconst 1, 1) := by decide +kernel
theorem dX5_decide_15 : decode cX5_decide 15 = .ok (.invokevirtual 64, 3) := by decide +kernel
theorem dX5_decide_18 : decode cX5_decide 18 = .ok (.ireturn, 1) := by decide +kernel
theorem dX5_decide_19 : decode cX5_decide 19 = .ok (.iload_n 3, 1) := by decide +kernel
theorem dX5_decide_20 : decode cX5_decide 20 = .ok (.iconst 0, 1) := by decide +kernel
theorem dX5_decide_21 : decode cX5_decide 21 = .ok (.iconst 5, 1) := by decide +kernel
theorem dX5_decide_22 : decode cX5_decide 22 = .ok (.invokestatic 36, 3) := by decide +kernel
theorem dX5_decide_25 : decode cX5_decide 25 = .ok (.ifCond .ne 9, 3) := by decide +kernel
theorem dX5_decide_28 : decode cX5_decide 28 = .ok (.aload_n 0, 1) := by decide +kernel
theorem dX5_decide_29 : decode cX5_decide 29 = .ok (.iconst 2, 1) := by decide +kernel
theorem dX5_decide_30 : decode cX5_decide 30 = .ok (.invokevirtual 64, 3) := by decide +kernel
theorem dX5_decide_33 : decode cX5_decide 33 = .ok (.ireturn, 1) := by decide +kernel
theorem dX5_decide_34 : decode cX5_decide 34 = .ok (.aload_n 0, 1) := by decide +kernel
theorem dX5_decide_35 : decode cX5_decide 35 = .ok (.iload_n 1, 1) := by decide +kernel
theorem dX5_decide_36 : decode cX5_decide 36 = .ok (.iload_n 2, 1) := by decide +kernel
theorem dX5_decide_37 : decode cX5_decide 37 = .ok (.iload_n 3, 1) := by decide +kernel
theorem dX5_decide_38 : decode cX5_decide 38 = .ok (.invokevirtual 95, 3) := by decide +kernel
theorem dX5_decide_41 : decode cX5_decide 41 = .ok (.ifCond .eq 9, 3) := by decide +kernel
theorem dX5_decide_44 : decode cX5_decide 44 = .ok (.aload_n 0, 1) := by decide +kernel
theorem dX5_decide_45 : decode cX5_decide 45 = .ok (.iconst 3, 1) := by decide +kernel
theorem dX5_decide_46 : decode cX5_decide 46 = .ok (.invokevirtual 64, 3) := by decide +kernel
theorem dX5_decide_49 : decode cX5_decide 49 = .ok (.ireturn, 1) := by decide +kernel
theorem dX5_decide_50 : decode cX5_decide 50 = .ok (.aload_n 0, 1) := by decide +kernel
theorem dX5_decide_51 : decode cX5_decide 51 = .ok (.invokevirtual 67, 3) := by decide +kernel
theorem dX5_decide_54 : decode cX5_decide 54 = .ok (.iload_n 1, 1) := by decide +kernel
theorem dX5_decide_55 : decode cX5_decide 55 = .ok (.invokestatic 54, 3) := by decide +kernel
theorem dX5_decide_58 : decode cX5_decide 58 = .ok (.istore 4, 2) := by decide +kernel
theorem dX5_decide_60 : decode cX5_decide 60 = .ok (.aload_n 0, 1) := by decide +kernel
theorem dX5_decide_61 : decode cX5_decide 61 = .ok (.getfield 7, 3) := by decide +kernel
theorem dX5_decide_64 : decode cX5_decide 64 = .ok (.iload 4, 2) := by decide +kernel
theorem dX5_decide_66 : decode cX5_decide 66 = .ok (.iconst 1, 1) := by decide +kernel
theorem dX5_decide_67 : decode cX5_decide 67 = .ok (.iadd, 1) := by decide +kernel
theorem dX5_decide_68 : decode cX5_decide 68 = .ok (.iaload, 1) := by decide +kernel
theorem dX5_decide_69 : decode cX5_decide 69 = .ok (.invokestatic 80, 3) := by decide +kernel
theorem dX5_decide_72 : decode cX5_decide 72 = .ok (.istore 5, 2) := by decide +kernel
theorem dX5_decide_74 : decode cX5_decide 74 = .ok (.aload_n 0, 1) := by decide +kernel
theorem dX5_decide_75 : decode cX5_decide 75 = .ok (.aload_n 0, 1) := by decide +kernel
theorem dX5_decide_76 : decode cX5_decide 76 = .ok (.getfield 7, 3) := by decide +kernel
theorem dX5_decide_79 : decode cX5_decide 79 = .ok (.iload 4, 2) := by decide +kernel
theorem dX5_decide_81 : decode cX5_decide 81 = .ok (.iaload, 1) := by decide +kernel
theorem dX5_decide_82 : decode cX5_decide 82 = .ok (.iload 5, 2) := by decide +kernel
theorem dX5_decide_84 : decode cX5_decide 84 = .ok (.invokevirtual 86, 3) := by decide +kernel
theorem dX5_decide_87 : decode cX5_decide 87 = .ok (.istore 6, 2) := by decide +kernel
theorem dX5_decide_89 : decode cX5_decide 89 = .ok (.aload_n 0, 1) := by decide +kernel
theorem dX5_decide_90 : decode cX5_decide 90 = .ok (.aload_n 0, 1) := by decide +kernel
theorem dX5_decide_91 : decode cX5_decide 91 = .ok (.getfield 7, 3) := by decide +kernel
theorem dX5_decide_94 : decode cX5_decide 94 = .ok (.iload 4, 2) := by decide +kernel
theorem dX5_decide_96 : decode cX5_decide 96 = .ok (.iaload, 1) := by decide +kernel
theorem dX5_decide_97 : decode cX5_decide 97 = .ok (.iload 5, 2) := by decide +kernel
theorem dX5_decide_99 : decode cX5_decide 99 = .ok (.invokevirtual 48, 3) := by decide +kernel
theorem dX5_decide_102 : decode cX5_decide 102 = .ok (.istore 7, 2) := by decide +kernel
theorem dX5_decide_104 : decode cX5_decide 104 = .ok (.iload 6, 2) := by decide +kernel
theorem dX5_decide_106 : decode cX5_decide 106 = .ok (.ifCond .ne 7, 3) := by decide +kernel
theorem dX5_decide_109 : decode cX5_decide 109 = .ok (.iconst 1, 1) := by decide +kernel
theorem dX5_decide_110 : decode cX5_decide 110 = .ok (.goto 25, 3) := by decide +kernel
theorem dX5_decide_113 : decode cX5_decide 113 = .ok (.aload_n 0, 1) := by decide +kernel
theorem dX5_decide_114 : decode cX5_decide 114 = .ok (.getfield 7, 3) := by decide +kernel
theorem dX5_decide_117 : decode cX5_decide 117 = .ok (.sipush 130, 3) := by decide +kernel
theorem dX5_decide_120 : decode cX5_decide 120 = .ok (.iconst 3, 1) := by decide +kernel
theorem dX5_decide_121 : decode cX5_decide 121 = .ok (.iload 7, 2) := by decide +kernel
theorem dX5_decide_123 : decode cX5_decide 123 = .ok (.imul, 1) := by decide +kernel
theorem dX5_decide_124 : decode cX5_decide 124 = .ok (.iadd, 1) := by decide +kernel
theorem dX5_decide_125 : decode cX5_decide 125 = .ok (.iaload, 1) := by decide +kernel
theorem dX5_decide_126 : decode cX5_decide 126 = .ok (.iload_n 2, 1) := by decide +kernel
theorem dX5_decide_127 : decode cX5_decide 127 = .ok (.if_icmp .ne 7, 3) := by decide +kernel
theorem dX5_decide_130 : decode cX5_decide 130 = .ok (.iconst 2, 1) := by decide +kernel
theorem dX5_decide_131 : decode cX5_decide 131 = .ok (.goto 4, 3) := by decide +kernel
theorem dX5_decide_134 : decode cX5_decide 134 = .ok (.iconst 3, 1) := by decide +kernel
theorem dX5_decide_135 : decode cX5_decide 135 = .ok (.istore 8, 2) := by decide +kernel
theorem dX5_decide_137 : decode cX5_decide 137 = .ok (.aload_n 0, 1) := by decide +kernel
theorem dX5_decide_138 : decode cX5_decide 138 = .ok (.iload_n 1, 1) := by decide +kernel
theorem dX5_decide_139 : decode cX5_decide 139 = .ok (.iload_n 2, 1) := by decide +kernel
theorem dX5_decide_140 : decode cX5_decide 140 = .ok (.invokevirtual 102, 3) := by decide +kernel
theorem dX5_decide_143 : decode cX5_decide 143 = .ok (.aload_n 0, 1) := by decide +kernel
theorem dX5_decide_144 : decode cX5_decide 144 = .ok (.getfield 7, 3) := by decide +kernel
theorem dX5_decide_147 : decode cX5_decide 147 = .ok (.iload 4, 2) := by decide +kernel
theorem dX5_decide_149 : decode cX5_decide 149 = .ok (.iconst 3, 1) := by decide +kernel
theorem dX5_decide_150 : decode cX5_decide 150 = .ok (.iadd, 1) := by decide +kernel
theorem dX5_decide_151 : decode cX5_decide 151 = .ok (.iconst 1, 1) := by decide +kernel
theorem dX5_decide_152 : decode cX5_decide 152 = .ok (.iastore, 1) := by decide +kernel
theorem dX5_decide_153 : decode cX5_decide 153 = .ok (.aload_n 0, 1) := by decide +kernel
theorem dX5_decide_154 : decode cX5_decide 154 = .ok (.getfield 7, 3) := by decide +kernel
theorem dX5_decide_157 : decode cX5_decide 157 = .ok (.iload 4, 2) := by decide +kernel
theorem dX5_decide_159 : decode cX5_decide 159 = .ok (.bipush 6, 2) := by decide +kernel
theorem dX5_decide_161 : decode cX5_decide 161 = .ok (.iadd, 1) := by decide +kernel
theorem dX5_decide_162 : decode cX5_decide 162 = .ok (.iload 8, 2) := by decide +kernel
theorem dX5_decide_164 : decode cX5_decide 164 = .ok (.iconst 3, 1) := by decide +kernel
theorem dX5_decide_165 : decode cX5_decide 165 = .ok (.if_icmp .ne 7, 3) := by decide +kernel
theorem dX5_decide_168 : decode cX5_decide 168 = .ok (.iload_n 3, 1) := by decide +kernel
theorem dX5_decide_169 : decode cX5_decide 169 = .ok (.goto 4, 3) := by decide +kernel
theorem dX5_decide_172 : decode cX5_decide 172 = .ok (.iconst 0, 1) := by decide +kernel
theorem dX5_decide_173 : decode cX5_decide 173 = .ok (.iastore, 1) := by decide +kernel
theorem dX5_decide_174 : decode cX5_decide 174 = .ok (.aload_n 0, 1) := by decide +kernel
theorem dX5_decide_175 : decode cX5_decide 175 = .ok (.getfield 7, 3) := by decide +kernel
theorem dX5_decide_178 : decode cX5_decide 178 = .ok (.iload 4, 2) := by decide +kernel
theorem dX5_decide_180 : decode cX5_decide 180 = .ok (.bipush 7, 2) := by decide +kernel
theorem dX5_decide_182 : decode cX5_decide 182 = .ok (.iadd, 1) := by decide +kernel
theorem dX5_decide_183 : decode cX5_decide 183 = .ok (.aload_n 0, 1) := by decide +kernel
theorem dX5_decide_184 : decode cX5_decide 184 = .ok (.getfield 7, 3) := by decide +kernel
theorem dX5_decide_187 : decode cX5_decide 187 = .ok (.iconst 1, 1) := by decide +kernel
theorem dX5_decide_188 : decode cX5_decide 188 = .ok (.iaload, 1) := by decide +kernel
theorem dX5_decide_189 : decode cX5_decide 189 = .ok (.iastore, 1) := by decide +kernel
theorem dX5_decide_190 : decode cX5_decide 190 = .ok (.aload_n 0, 1) := by decide +kernel
theorem dX5_decide_191 : decode cX5_decide 191 = .ok (.getfield 7, 3) := by decide +kernel
theorem dX5_decide_194 : decode cX5_decide 194 = .ok (.iload 4, 2) := by decide +kernel
theorem dX5_decide_196 : decode cX5_decide 196 = .ok (.bipush 9, 2) := by decide +kernel
theorem dX5_decide_198 : decode cX5_decide 198 = .ok (.iadd, 1) := by decide +kernel
theorem dX5_decide_199 : decode cX5_decide 199 = .ok (.iload 8, 2) := by decide +kernel
theorem dX5_decide_201 : decode cX5_decide 201 = .ok (.iastore, 1) := by decide +kernel
theorem dX5_decide_202 : decode cX5_decide 202 = .ok (.aload_n 0, 1) := by decide +kernel
theorem dX5_decide_203 : decode cX5_decide 203 = .ok (.getfield 7, 3) := by decide +kernel
theorem dX5_decide_206 : decode cX5_decide 206 = .ok (.iload 4, 2) := by decide +kernel
theorem dX5_decide_208 : decode cX5_decide 208 = .ok (.bipush 8, 2) := by decide +kernel
theorem dX5_decide_210 : decode cX5_decide 210 = .ok (.iadd, 1) := by decide +kernel
theorem dX5_decide_211 : decode cX5_decide 211 = .ok (.iload 8, 2) := by decide +kernel
theorem dX5_decide_213 : decode cX5_decide 213 = .ok (.iconst 1, 1) := by decide +kernel
theorem dX5_decide_214 : decode cX5_decide 214 = .ok (.if_icmp .ne 12, 3) := by decide +kernel
theorem dX5_decide_217 : decode cX5_decide 217 = .ok (.aload_n 0, 1) := by decide +kernel
theorem dX5_decide_218 : decode cX5_decide 218 = .ok (.iload_n 1, 1) := by decide +kernel
theorem dX5_decide_219 : decode cX5_decide 219 = .ok (.iload_n 2, 1) := by decide +kernel
theorem dX5_decide_220 : decode cX5_decide 220 = .ok (.invokevirtual 106, 3) := by decide +kernel
theorem dX5_decide_223 : decode cX5_decide 223 = .ok (.goto 15, 3) := by decide +kernel
theorem dX5_decide_226 : decode cX5_decide 226 = .ok (.iload 8, 2) := by decide +kernel
theorem dX5_decide_228 : decode cX5_decide 228 = .ok (.iconst 2, 1) := by decide +kernel
theorem dX5_decide_229 : decode cX5_decide 229 = .ok (.if_icmp .ne 8, 3) := by decide +kernel
theorem dX5_decide_232 : decode cX5_decide 232 = .ok (.iload 7, 2) := by decide +kernel
theorem dX5_decide_234 : decode cX5_decide 234 = .ok (.goto 4, 3) := by decide +kernel
theorem dX5_decide_237 : decode cX5_decide 237 = .ok (.iconst (-1), 1) := by decide +kernel
theorem dX5_decide_238 : decode cX5_decide 238 = .ok (.iastore, 1) := by decide +kernel
theorem dX5_decide_239 : decode cX5_decide 239 = .ok (.iload 8, 2) := by decide +kernel
theorem dX5_decide_241 : decode cX5_decide 241 = .ok (.ireturn, 1) := by decide +kernel
theorem dX5_staged_0 : decode cX5_staged 0 = .ok (.iconst 0, 1) := by decide +kernel
theorem dX5_staged_1 : decode cX5_staged 1 = .ok (.istore_n 2, 1) := by decide +kernel
theorem dX5_staged_2 : decode cX5_staged 2 = .ok (.iconst 0, 1) := by decide +kernel
theorem dX5_staged_3 : decode cX5_staged 3 = .ok (.istore_n 3, 1) := by decide +kernel
theorem dX5_staged_4 : decode cX5_staged 4 = .ok (.iload_n 3, 1) := by decide +kernel
theorem dX5_staged_5 : decode cX5_staged 5 = .ok (.aload_n 0, 1) := by decide +kernel
theorem dX5_staged_6 : decode cX5_staged 6 = .ok (.getfield 7, 3) := by decide +kernel
theorem dX5_staged_9 : decode cX5_staged 9 = .ok (.iconst 0, 1) := by decide +kernel
theorem dX5_staged_10 : decode cX5_staged 10 = .ok (.iaload, 1) := by decide +kernel
theorem dX5_staged_11 : decode cX5_staged 11 = .ok (.if_icmp .ge 32, 3) := by decide +kernel
theorem dX5_staged_14 : decode cX5_staged 14 = .ok (.iload_n 2, 1) := by decide +kernel
theorem dX5_staged_15 : decode cX5_staged 15 = .ok (.aload_n 0, 1) := by decide +kernel
theorem dX5_staged_16 : decode cX5_staged 16 = .ok (.getfield 7, 3) := by decide +kernel
theorem dX5_staged_19 : decode cX5_staged 19 = .ok (.iload_n 3, 1) := by decide +kernel
theorem dX5_staged_20 : decode cX5_staged 20 = .ok (.invokestatic 54, 3) := by decide +kernel
theorem dX5_staged_23 : decode cX5_staged 23 = .ok (.iconst 3, 1) := by decide +kernel
theorem dX5_staged_24 : decode cX5_staged 24 = .ok (.iadd, 1) := by decide +kernel
theorem dX5_staged_25 : decode cX5_staged 25 = .ok (.iaload, 1) := by decide +kernel
theorem dX5_staged_26 : decode cX5_staged 26 = .ok (.iload_n 1, 1) := by decide +kernel
theorem dX5_staged_27 : decode cX5_staged 27 = .ok (.if_icmp .ne 7, 3) := by decide +kernel
theorem dX5_staged_30 : decode cX5_staged 30 = .ok (.iconst 1, 1) := by decide +kernel
theorem dX5_staged_31 : decode cX5_staged 31 = .ok (.goto 4, 3) := by decide +kernel
theorem dX5_staged_34 : decode cX5_staged 34 = .ok (.iconst 0, 1) := by decide +kernel
theorem dX5_staged_35 : decode cX5_staged 35 = .ok (.iadd, 1) := by decide +kernel
theorem dX5_staged_36 : decode cX5_staged 36 = .ok (.istore_n 2, 1) := by decide +kernel
theorem dX5_staged_37 : decode cX5_staged 37 = .ok (.iinc 3 1, 3) := by decide +kernel
theorem dX5_staged_40 : decode cX5_staged 40 = .ok (.goto (-36), 3) := by decide +kernel
theorem dX5_staged_43 : decode cX5_staged 43 = .ok (.iload_n 2, 1) := by decide +kernel
theorem dX5_staged_44 : decode cX5_staged 44 = .ok (.ireturn, 1) := by decide +kernel
theorem dX5_appeal_0 : decode cX5_appeal 0 = .ok (.aload_n 0, 1) := by decide +kernel
theorem dX5_appeal_1 : decode cX5_appeal 1 = .ok (.iconst 0, 1) := by decide +kernel
theorem dX5_appeal_2 : decode cX5_appeal 2 = .ok (.putfield 29, 3) := by decide +kernel
theorem dX5_appeal_5 : decode cX5_appeal 5 = .ok (.aload_n 0, 1) := by decide +kernel
theorem dX5_appeal_6 : decode cX5_appeal 6 = .ok (.iload_n 1, 1) := by decide +kernel
theorem dX5_appeal_7 : decode cX5_appeal 7 = .ok (.invokevirtual 99, 3) := by decide +kernel
theorem dX5_appeal_10 : decode cX5_appeal 10 = .ok (.ifCond .ne 9, 3) := by decide +kernel
theorem dX5_appeal_13 : decode cX5_appeal 13 = .ok (.aload_n 0, 1) := by decide +kernel
theorem dX5_appeal_14 : decode cX5_appeal 14 = .ok (.iconst 1, 1) := by decide +kernel
theorem dX5_appeal_15 : decode cX5_appeal 15 = .ok (.invokevirtual 64, 3) := by decide +kernel
theorem dX5_appeal_18 : decode cX5_appeal 18 = .ok (.ireturn, 1) := by decide +kernel
theorem dX5_appeal_19 : decode cX5_appeal 19 = .ok (.aload_n 0, 1) := by decide +kernel
theorem dX5_appeal_20 : decode cX5_appeal 20 = .ok (.getfield 7, 3) := by decide +kernel
theorem dX5_appeal_23 : decode cX5_appeal 23 = .ok (.iload_n 1, 1) := by decide +kernel
theorem dX5_appeal_24 : decode cX5_appeal 24 = .ok (.invokestatic 54, 3) := by decide +kernel
theorem dX5_appeal_27 : decode cX5_appeal 27 = .ok (.iconst 3, 1) := by decide +kernel
theorem dX5_appeal_28 : decode cX5_appeal 28 = .ok (.iadd, 1) := by decide +kernel
theorem dX5_appeal_29 : decode cX5_appeal 29 = .ok (.iaload, 1) := by decide +kernel
theorem dX5_appeal_30 : decode cX5_appeal 30 = .ok (.iconst 1, 1) := by decide +kernel
theorem dX5_appeal_31 : decode cX5_appeal 31 = .ok (.if_icmp .ne 31, 3) := by decide +kernel
theorem dX5_appeal_34 : decode cX5_appeal 34 = .ok (.aload_n 0, 1) := by decide +kernel
theorem dX5_appeal_35 : decode cX5_appeal 35 = .ok (.getfield 7, 3) := by decide +kernel
theorem dX5_appeal_38 : decode cX5_appeal 38 = .ok (.iconst 1, 1) := by decide +kernel
theorem dX5_appeal_39 : decode cX5_appeal 39 = .ok (.iaload, 1) := by decide +kernel
theorem dX5_appeal_40 : decode cX5_appeal 40 = .ok (.aload_n 0, 1) := by decide +kernel
theorem dX5_appeal_41 : decode cX5_appeal 41 = .ok (.getfield 7, 3) := by decide +kernel
theorem dX5_appeal_44 : decode cX5_appeal 44 = .ok (.iload_n 1, 1) := by decide +kernel
theorem dX5_appeal_45 : decode cX5_appeal 45 = .ok (.invokestatic 54, 3) := by decide +kernel
theorem dX5_appeal_48 : decode cX5_appeal 48 = .ok (.bipush 7, 2) := by decide +kernel
theorem dX5_appeal_50 : decode cX5_appeal 50 = .ok (.iadd, 1) := by decide +kernel
theorem dX5_appeal_51 : decode cX5_appeal 51 = .ok (.iaload, 1) := by decide +kernel
theorem dX5_appeal_52 : decode cX5_appeal 52 = .ok (.aload_n 0, 1) := by decide +kernel
theorem dX5_appeal_53 : decode cX5_appeal 53 = .ok (.getfield 7, 3) := by decide +kernel
theorem dX5_appeal_56 : decode cX5_appeal 56 = .ok (.iconst 3, 1) := by decide +kernel
theorem dX5_appeal_57 : decode cX5_appeal 57 = .ok (.iaload, 1) := by decide +kernel
theorem dX5_appeal_58 : decode cX5_appeal 58 = .ok (.iadd, 1) := by decide +kernel
theorem dX5_appeal_59 : decode cX5_appeal 59 = .ok (.if_icmp .le 9, 3) := by decide +kernel
theorem dX5_appeal_62 : decode cX5_appeal 62 = .ok (.aload_n 0, 1) := by decide +kernel
theorem dX5_appeal_63 : decode cX5_appeal 63 = .ok (.iconst 2, 1) := by decide +kernel
theorem dX5_appeal_64 : decode cX5_appeal 64 = .ok (.invokevirtual 64, 3) := by decide +kernel
theorem dX5_appeal_67 : decode cX5_appeal 67 = .ok (.ireturn, 1) := by decide +kernel
theorem dX5_appeal_68 : decode cX5_appeal 68 = .ok (.aload_n 0, 1) := by decide +kernel
theorem dX5_appeal_69 : decode cX5_appeal 69 = .ok (.invokevirtual 67, 3) := by decide +kernel
theorem dX5_appeal_72 : decode cX5_appeal 72 = .ok (.aload_n 0, 1) := by decide +kernel
theorem dX5_appeal_73 : decode cX5_appeal 73 = .ok (.getfield 7, 3) := by decide +kernel
theorem dX5_appeal_76 : decode cX5_appeal 76 = .ok (.iload_n 1, 1) := by decide +kernel
theorem dX5_appeal_77 : decode cX5_appeal 77 = .ok (.invokestatic 54, 3) := by decide +kernel
theorem dX5_appeal_80 : decode cX5_appeal 80 = .ok (.iconst 3, 1) := by decide +kernel
theorem dX5_appeal_81 : decode cX5_appeal 81 = .ok (.iadd, 1) := by decide +kernel
theorem dX5_appeal_82 : decode cX5_appeal 82 = .ok (.iconst 2, 1) := by decide +kernel
theorem dX5_appeal_83 : decode cX5_appeal 83 = .ok (.iastore, 1) := by decide +kernel
theorem dX5_appeal_84 : decode cX5_appeal 84 = .ok (.aload_n 0, 1) := by decide +kernel
theorem dX5_appeal_85 : decode cX5_appeal 85 = .ok (.iconst 2, 1) := by decide +kernel
theorem dX5_appeal_86 : decode cX5_appeal 86 = .ok (.invokevirtual 109, 3) := by decide +kernel
theorem dX5_appeal_89 : decode cX5_appeal 89 = .ok (.ireturn, 1) := by decide +kernel
theorem dX5_topUps_0 : decode cX5_topUps 0 = .ok (.iconst 0, 1) := by decide +kernel
theorem dX5_topUps_1 : decode cX5_topUps 1 = .ok (.istore_n 2, 1) := by decide +kernel
theorem dX5_topUps_2 : decode cX5_topUps 2 = .ok (.aload_n 0, 1) := by decide +kernel
theorem dX5_topUps_3 : decode cX5_topUps 3 = .ok (.iconst 0, 1) := by decide +kernel
theorem dX5_topUps_4 : decode cX5_topUps 4 = .ok (.putfield 112, 3) := by decide +kernel
theorem dX5_topUps_7 : decode cX5_topUps 7 = .ok (.iconst 0, 1) := by decide +kernel
theorem dX5_topUps_8 : decode cX5_topUps 8 = .ok (.istore_n 3, 1) := by decide +kernel
theorem dX5_topUps_9 : decode cX5_topUps 9 = .ok (.iload_n 3, 1) := by decide +kernel
theorem dX5_topUps_10 : decode cX5_topUps 10 = .ok (.aload_n 0, 1) := by decide +kernel
theorem dX5_topUps_11 : decode cX5_topUps 11 = .ok (.getfield 7, 3) := by decide +kernel
theorem dX5_topUps_14 : decode cX5_topUps 14 = .ok (.iconst 0, 1) := by decide +kernel
theorem dX5_topUps_15 : decode cX5_topUps 15 = .ok (.iaload, 1) := by decide +kernel
theorem dX5_topUps_16 : decode cX5_topUps 16 = .ok (.if_icmp .ge 115, 3) := by decide +kernel
theorem dX5_topUps_19 : decode cX5_topUps 19 = .ok (.aload_n 0, 1) := by decide +kernel
theorem dX5_topUps_20 : decode cX5_topUps 20 = .ok (.iload_n 3, 1) := by decide +kernel
theorem dX5_topUps_21 : decode cX5_topUps 21 = .ok (.invokevirtual 115, 3) := by decide +kernel
theorem dX5_topUps_24 : decode cX5_topUps 24 = .ok (.istore 4, 2) := by decide +kernel
theorem dX5_topUps_26 : decode cX5_topUps 26 = .ok (.iload 4, 2) := by decide +kernel
theorem dX5_topUps_28 : decode cX5_topUps 28 = .ok (.ifCond .le 46, 3) := by decide +kernel
theorem dX5_topUps_31 : decode cX5_topUps 31 = .ok (.iload_n 1, 1) := by decide +kernel
theorem dX5_topUps_32 : decode cX5_topUps 32 = .ok (.iconst (-1), 1) := by decide +kernel
theorem dX5_topUps_33 : decode cX5_topUps 33 = .ok (.if_icmp .eq 19, 3) := by decide +kernel
theorem dX5_topUps_36 : decode cX5_topUps 36 = .ok (.aload_n 0, 1) := by decide +kernel
theorem dX5_topUps_37 : decode cX5_topUps 37 = .ok (.getfield 7, 3) := by decide +kernel
theorem dX5_topUps_40 : decode cX5_topUps 40 = .ok (.iload_n 3, 1) := by decide +kernel
theorem dX5_topUps_41 : decode cX5_topUps 41 = .ok (.invokestatic 54, 3) := by decide +kernel
theorem dX5_topUps_44 : decode cX5_topUps 44 = .ok (.bipush 8, 2) := by decide +kernel
theorem dX5_topUps_46 : decode cX5_topUps 46 = .ok (.iadd, 1) := by decide +kernel
theorem dX5_topUps_47 : decode cX5_topUps 47 = .ok (.iaload, 1) := by decide +kernel
theorem dX5_topUps_48 : decode cX5_topUps 48 = .ok (.iload_n 1, 1) := by decide +kernel
theorem dX5_topUps_49 : decode cX5_topUps 49 = .ok (.if_icmp .ne 25, 3) := by decide +kernel
theorem dX5_topUps_52 : decode cX5_topUps 52 = .ok (.iload 4, 2) := by decide +kernel
theorem dX5_topUps_54 : decode cX5_topUps 54 = .ok (.aload_n 0, 1) := by decide +kernel
theorem dX5_topUps_55 : decode cX5_topUps 55 = .ok (.aload_n 0, 1) := by decide +kernel
theorem dX5_topUps_56 : decode cX5_topUps 56 = .ok (.getfield 7, 3) := by decide +kernel
theorem dX5_topUps_59 : decode cX5_topUps 59 = .ok (.iload_n 3, 1) := by decide +kernel
theorem dX5_topUps_60 : decode cX5_topUps 60 = .ok (.invokestatic 54, 3) := by decide +kernel
theorem dX5_topUps_63 : decode cX5_topUps 63 = .ok (.iaload, 1) := by decide +kernel
theorem dX5_topUps_64 : decode cX5_topUps 64 = .ok (.invokevirtual 89, 3) := by decide +kernel
theorem dX5_topUps_67 : decode cX5_topUps 67 = .ok (.if_icmp .gt 7, 3) := by decide +kernel
theorem dX5_topUps_70 : decode cX5_topUps 70 = .ok (.iconst 1, 1) := by decide +kernel
theorem dX5_topUps_71 : decode cX5_topUps 71 = .ok (.goto 4, 3) := by decide +kernel
theorem dX5_topUps_74 : decode cX5_topUps 74 = .ok (.iconst 0, 1) := by decide +kernel
theorem dX5_topUps_75 : decode cX5_topUps 75 = .ok (.istore 5, 2) := by decide +kernel
theorem dX5_topUps_77 : decode cX5_topUps 77 = .ok (.iload 5, 2) := by decide +kernel
theorem dX5_topUps_79 : decode cX5_topUps 79 = .ok (.ifCond .eq 46, 3) := by decide +kernel
theorem dX5_topUps_82 : decode cX5_topUps 82 = .ok (.aload_n 0, 1) := by decide +kernel
theorem dX5_topUps_83 : decode cX5_topUps 83 = .ok (.iload_n 3, 1) := by decide +kernel
theorem dX5_topUps_84 : decode cX5_topUps 84 = .ok (.aload_n 0, 1) := by decide +kernel
theorem dX5_topUps_85 : decode cX5_topUps 85 = .ok (.getfield 7, 3) := by decide +kernel
theorem dX5_topUps_88 : decode cX5_topUps 88 = .ok (.sipush 130, 3) := by decide +kernel
theorem dX5_topUps_91 : decode cX5_topUps 91 = .ok (.iconst 3, 1) := by decide +kernel
theorem dX5_topUps_92 : decode cX5_topUps 92 = .ok (.aload_n 0, 1) := by decide +kernel
theorem dX5_topUps_93 : decode cX5_topUps 93 = .ok (.getfield 7, 3) := by decide +kernel
theorem dX5_topUps_96 : decode cX5_topUps 96 = .ok (.iload_n 3, 1) := by decide +kernel
theorem dX5_topUps_97 : decode cX5_topUps 97 = .ok (.invokestatic 54, 3) := by decide +kernel
theorem dX5_topUps_100 : decode cX5_topUps 100 = .ok (.bipush 8, 2) := by decide +kernel
theorem dX5_topUps_102 : decode cX5_topUps 102 = .ok (.iadd, 1) := by decide +kernel
theorem dX5_topUps_103 : decode cX5_topUps 103 = .ok (.iaload, 1) := by decide +kernel
theorem dX5_topUps_104 : decode cX5_topUps 104 = .ok (.imul, 1) := by decide +kernel
theorem dX5_topUps_105 : decode cX5_topUps 105 = .ok (.iadd, 1) := by decide +kernel
theorem dX5_topUps_106 : decode cX5_topUps 106 = .ok (.iaload, 1) := by decide +kernel
theorem dX5_topUps_107 : decode cX5_topUps 107 = .ok (.invokevirtual 102, 3) := by decide +kernel
theorem dX5_topUps_110 : decode cX5_topUps 110 = .ok (.iload_n 2, 1) := by decide +kernel
theorem dX5_topUps_111 : decode cX5_topUps 111 = .ok (.iload 4, 2) := by decide +kernel
theorem dX5_topUps_113 : decode cX5_topUps 113 = .ok (.iadd, 1) := by decide +kernel
theorem dX5_topUps_114 : decode cX5_topUps 114 = .ok (.istore_n 2, 1) := by decide +kernel
theorem dX5_topUps_115 : decode cX5_topUps 115 = .ok (.aload_n 0, 1) := by decide +kernel
theorem dX5_topUps_116 : decode cX5_topUps 116 = .ok (.dup, 1) := by decide +kernel
theorem dX5_topUps_117 : decode cX5_topUps 117 = .ok (.getfield 112, 3) := by decide +kernel
theorem dX5_topUps_120 : decode cX5_topUps 120 = .ok (.iconst 1, 1) := by decide +kernel
theorem dX5_topUps_121 : decode cX5_topUps 121 = .ok (.iadd, 1) := by decide +kernel
theorem dX5_topUps_122 : decode cX5_topUps 122 = .ok (.putfield 112, 3) := by decide +kernel
theorem dX5_topUps_125 : decode cX5_topUps 125 = .ok (.iinc 3 1, 3) := by decide +kernel
theorem dX5_topUps_128 : decode cX5_topUps 128 = .ok (.goto (-119), 3) := by decide +kernel
theorem dX5_topUps_131 : decode cX5_topUps 131 = .ok (.iload_n 2, 1) := by decide +kernel
theorem dX5_topUps_132 : decode cX5_topUps 132 = .ok (.ireturn, 1) := by decide +kernel
theorem dX5_judgeNow_0 : decode cX5_judgeNow 0 = .ok (.aload_n 0, 1) := by decide +kernel
theorem dX5_judgeNow_1 : decode cX5_judgeNow 1 = .ok (.getfield 7, 3) := by decide +kernel
theorem dX5_judgeNow_4 : decode cX5_judgeNow 4 = .ok (.iload_n 1, 1) := by decide +kernel
theorem dX5_judgeNow_5 : decode cX5_judgeNow 5 = .ok (.invokestatic 54, 3) := by decide +kernel
theorem dX5_judgeNow_8 : decode cX5_judgeNow 8 = .ok (.iaload, 1) := by decide +kernel
theorem dX5_judgeNow_9 : decode cX5_judgeNow 9 = .ok (.istore_n 3, 1) := by decide +kernel
theorem dX5_judgeNow_10 : decode cX5_judgeNow 10 = .ok (.aload_n 0, 1) := by decide +kernel
theorem dX5_judgeNow_11 : decode cX5_judgeNow 11 = .ok (.getfield 7, 3) := by decide +kernel
theorem dX5_judgeNow_14 : decode cX5_judgeNow 14 = .ok (.iload_n 1, 1) := by decide +kernel
theorem dX5_judgeNow_15 : decode cX5_judgeNow 15 = .ok (.invokestatic 54, 3) := by decide +kernel
theorem dX5_judgeNow_18 : decode cX5_judgeNow 18 = .ok (.bipush 8, 2) := by decide +kernel
theorem dX5_judgeNow_20 : decode cX5_judgeNow 20 = .ok (.iadd, 1) := by decide +kernel
theorem dX5_judgeNow_21 : decode cX5_judgeNow 21 = .ok (.iaload, 1) := by decide +kernel
theorem dX5_judgeNow_22 : decode cX5_judgeNow 22 = .ok (.istore 4, 2) := by decide +kernel
theorem dX5_judgeNow_24 : decode cX5_judgeNow 24 = .ok (.aload_n 0, 1) := by decide +kernel
theorem dX5_judgeNow_25 : decode cX5_judgeNow 25 = .ok (.getfield 7, 3) := by decide +kernel
theorem dX5_judgeNow_28 : decode cX5_judgeNow 28 = .ok (.iload_n 3, 1) := by decide +kernel
theorem dX5_judgeNow_29 : decode cX5_judgeNow 29 = .ok (.invokestatic 25, 3) := by decide +kernel
theorem dX5_judgeNow_32 : decode cX5_judgeNow 32 = .ok (.iconst 2, 1) := by decide +kernel
theorem dX5_judgeNow_33 : decode cX5_judgeNow 33 = .ok (.iadd, 1) := by decide +kernel
theorem dX5_judgeNow_34 : decode cX5_judgeNow 34 = .ok (.iaload, 1) := by decide +kernel
theorem dX5_judgeNow_35 : decode cX5_judgeNow 35 = .ok (.istore 5, 2) := by decide +kernel
theorem dX5_judgeNow_37 : decode cX5_judgeNow 37 = .ok (.aload_n 0, 1) := by decide +kernel
theorem dX5_judgeNow_38 : decode cX5_judgeNow 38 = .ok (.iconst 0, 1) := by decide +kernel
theorem dX5_judgeNow_39 : decode cX5_judgeNow 39 = .ok (.putfield 112, 3) := by decide +kernel
theorem dX5_judgeNow_42 : decode cX5_judgeNow 42 = .ok (.aload_n 0, 1) := by decide +kernel
theorem dX5_judgeNow_43 : decode cX5_judgeNow 43 = .ok (.iload_n 1, 1) := by decide +kernel
theorem dX5_judgeNow_44 : decode cX5_judgeNow 44 = .ok (.iload_n 2, 1) := by decide +kernel
theorem dX5_judgeNow_45 : decode cX5_judgeNow 45 = .ok (.invokevirtual 102, 3) := by decide +kernel
theorem dX5_judgeNow_48 : decode cX5_judgeNow 48 = .ok (.aload_n 0, 1) := by decide +kernel
theorem dX5_judgeNow_49 : decode cX5_judgeNow 49 = .ok (.getfield 7, 3) := by decide +kernel
theorem dX5_judgeNow_52 : decode cX5_judgeNow 52 = .ok (.iload_n 1, 1) := by decide +kernel
theorem dX5_judgeNow_53 : decode cX5_judgeNow 53 = .ok (.invokestatic 54, 3) := by decide +kernel
theorem dX5_judgeNow_56 : decode cX5_judgeNow 56 = .ok (.iconst 3, 1) := by decide +kernel
theorem dX5_judgeNow_57 : decode cX5_judgeNow 57 = .ok (.iadd, 1) := by decide +kernel
theorem dX5_judgeNow_58 : decode cX5_judgeNow 58 = .ok (.iconst 3, 1) := by decide +kernel
theorem dX5_judgeNow_59 : decode cX5_judgeNow 59 = .ok (.iastore, 1) := by decide +kernel
theorem dX5_judgeNow_60 : decode cX5_judgeNow 60 = .ok (.iload 4, 2) := by decide +kernel
theorem dX5_judgeNow_62 : decode cX5_judgeNow 62 = .ok (.iconst (-1), 1) := by decide +kernel
theorem dX5_judgeNow_63 : decode cX5_judgeNow 63 = .ok (.if_icmp .eq 51, 3) := by decide +kernel
theorem dX5_judgeNow_66 : decode cX5_judgeNow 66 = .ok (.aload_n 0, 1) := by decide +kernel
theorem dX5_judgeNow_67 : decode cX5_judgeNow 67 = .ok (.iload_n 3, 1) := by decide +kernel
theorem dX5_judgeNow_68 : decode cX5_judgeNow 68 = .ok (.iload_n 2, 1) := by decide +kernel
theorem dX5_judgeNow_69 : decode cX5_judgeNow 69 = .ok (.invokevirtual 57, 3) := by decide +kernel
theorem dX5_judgeNow_72 : decode cX5_judgeNow 72 = .ok (.aload_n 0, 1) := by decide +kernel
theorem dX5_judgeNow_73 : decode cX5_judgeNow 73 = .ok (.iload_n 3, 1) := by decide +kernel
theorem dX5_judgeNow_74 : decode cX5_judgeNow 74 = .ok (.aload_n 0, 1) := by decide +kernel
theorem dX5_judgeNow_75 : decode cX5_judgeNow 75 = .ok (.getfield 7, 3) := by decide +kernel
theorem dX5_judgeNow_78 : decode cX5_judgeNow 78 = .ok (.sipush 130, 3) := by decide +kernel
theorem dX5_judgeNow_81 : decode cX5_judgeNow 81 = .ok (.iconst 3, 1) := by decide +kernel
theorem dX5_judgeNow_82 : decode cX5_judgeNow 82 = .ok (.iload 4, 2) := by decide +kernel
theorem dX5_judgeNow_84 : decode cX5_judgeNow 84 = .ok (.imul, 1) := by decide +kernel
theorem dX5_judgeNow_85 : decode cX5_judgeNow 85 = .ok (.iadd, 1) := by decide +kernel
theorem dX5_judgeNow_86 : decode cX5_judgeNow 86 = .ok (.iaload, 1) := by decide +kernel
theorem dX5_judgeNow_87 : decode cX5_judgeNow 87 = .ok (.invokevirtual 57, 3) := by decide +kernel
theorem dX5_judgeNow_90 : decode cX5_judgeNow 90 = .ok (.if_icmp .le 24, 3) := by decide +kernel
theorem dX5_judgeNow_93 : decode cX5_judgeNow 93 = .ok (.aload_n 0, 1) := by decide +kernel
theorem dX5_judgeNow_94 : decode cX5_judgeNow 94 = .ok (.getfield 7, 3) := by decide +kernel
theorem dX5_judgeNow_97 : decode cX5_judgeNow 97 = .ok (.sipush 130, 3) := by decide +kernel
theorem dX5_judgeNow_100 : decode cX5_judgeNow 100 = .ok (.iconst 3, 1) := by decide +kernel
theorem dX5_judgeNow_101 : decode cX5_judgeNow 101 = .ok (.iload 4, 2) := by decide +kernel
theorem dX5_judgeNow_103 : decode cX5_judgeNow 103 = .ok (.imul, 1) := by decide +kernel
theorem dX5_judgeNow_104 : decode cX5_judgeNow 104 = .ok (.iadd, 1) := by decide +kernel
theorem dX5_judgeNow_105 : decode cX5_judgeNow 105 = .ok (.iload_n 2, 1) := by decide +kernel
theorem dX5_judgeNow_106 : decode cX5_judgeNow 106 = .ok (.iastore, 1) := by decide +kernel
theorem dX5_judgeNow_107 : decode cX5_judgeNow 107 = .ok (.aload_n 0, 1) := by decide +kernel
theorem dX5_judgeNow_108 : decode cX5_judgeNow 108 = .ok (.iload 4, 2) := by decide +kernel
theorem dX5_judgeNow_110 : decode cX5_judgeNow 110 = .ok (.invokevirtual 118, 3) := by decide +kernel
theorem dX5_judgeNow_113 : decode cX5_judgeNow 113 = .ok (.pop, 1) := by decide +kernel
theorem dX5_judgeNow_114 : decode cX5_judgeNow 114 = .ok (.aload_n 0, 1) := by decide +kernel
theorem dX5_judgeNow_115 : decode cX5_judgeNow 115 = .ok (.getfield 7, 3) := by decide +kernel
theorem dX5_judgeNow_118 : decode cX5_judgeNow 118 = .ok (.iload_n 3, 1) := by decide +kernel
theorem dX5_judgeNow_119 : decode cX5_judgeNow 119 = .ok (.invokestatic 25, 3) := by decide +kernel
theorem dX5_judgeNow_122 : decode cX5_judgeNow 122 = .ok (.iconst 2, 1) := by decide +kernel
theorem dX5_judgeNow_123 : decode cX5_judgeNow 123 = .ok (.iadd, 1) := by decide +kernel
theorem dX5_judgeNow_124 : decode cX5_judgeNow 124 = .ok (.iaload, 1) := by decide +kernel
theorem dX5_judgeNow_125 : decode cX5_judgeNow 125 = .ok (.iload 5, 2) := by decide +kernel
theorem dX5_judgeNow_127 : decode cX5_judgeNow 127 = .ok (.isub, 1) := by decide +kernel
theorem dX5_judgeNow_128 : decode cX5_judgeNow 128 = .ok (.ireturn, 1) := by decide +kernel
theorem dX5_judge_0 : decode cX5_judge 0 = .ok (.aload_n 0, 1) := by decide +kernel
theorem dX5_judge_1 : decode cX5_judge 1 = .ok (.iconst 0, 1) := by decide +kernel
theorem dX5_judge_2 : decode cX5_judge 2 = .ok (.putfield 29, 3) := by decide +kernel
theorem dX5_judge_5 : decode cX5_judge 5 = .ok (.aload_n 0, 1) := by decide +kernel
theorem dX5_judge_6 : decode cX5_judge 6 = .ok (.iload_n 1, 1) := by decide +kernel
theorem dX5_judge_7 : decode cX5_judge 7 = .ok (.invokevirtual 99, 3) := by decide +kernel
theorem dX5_judge_10 : decode cX5_judge 10 = .ok (.ifCond .ne 9, 3) := by decide +kernel
theorem dX5_judge_13 : decode cX5_judge 13 = .ok (.aload_n 0, 1) := by decide +kernel
theorem dX5_judge_14 : decode cX5_judge 14 = .ok (.iconst 1, 1) := by decide +kernel
theorem dX5_judge_15 : decode cX5_judge 15 = .ok (.invokevirtual 64, 3) := by decide +kernel
theorem dX5_judge_18 : decode cX5_judge 18 = .ok (.ireturn, 1) := by decide +kernel
theorem dX5_judge_19 : decode cX5_judge 19 = .ok (.aload_n 0, 1) := by decide +kernel
theorem dX5_judge_20 : decode cX5_judge 20 = .ok (.iload_n 1, 1) := by decide +kernel
theorem dX5_judge_21 : decode cX5_judge 21 = .ok (.iload_n 2, 1) := by decide +kernel
theorem dX5_judge_22 : decode cX5_judge 22 = .ok (.invokevirtual 92, 3) := by decide +kernel
theorem dX5_judge_25 : decode cX5_judge 25 = .ok (.ifCond .eq 9, 3) := by decide +kernel
theorem dX5_judge_28 : decode cX5_judge 28 = .ok (.aload_n 0, 1) := by decide +kernel
theorem dX5_judge_29 : decode cX5_judge 29 = .ok (.iconst 2, 1) := by decide +kernel
theorem dX5_judge_30 : decode cX5_judge 30 = .ok (.invokevirtual 64, 3) := by decide +kernel
theorem dX5_judge_33 : decode cX5_judge 33 = .ok (.ireturn, 1) := by decide +kernel
theorem dX5_judge_34 : decode cX5_judge 34 = .ok (.aload_n 0, 1) := by decide +kernel
theorem dX5_judge_35 : decode cX5_judge 35 = .ok (.invokevirtual 67, 3) := by decide +kernel
theorem dX5_judge_38 : decode cX5_judge 38 = .ok (.aload_n 0, 1) := by decide +kernel
theorem dX5_judge_39 : decode cX5_judge 39 = .ok (.iload_n 1, 1) := by decide +kernel
theorem dX5_judge_40 : decode cX5_judge 40 = .ok (.iload_n 2, 1) := by decide +kernel
theorem dX5_judge_41 : decode cX5_judge 41 = .ok (.invokevirtual 121, 3) := by decide +kernel
theorem dX5_judge_44 : decode cX5_judge 44 = .ok (.pop, 1) := by decide +kernel
theorem dX5_judge_45 : decode cX5_judge 45 = .ok (.aload_n 0, 1) := by decide +kernel
theorem dX5_judge_46 : decode cX5_judge 46 = .ok (.getfield 112, 3) := by decide +kernel
theorem dX5_judge_49 : decode cX5_judge 49 = .ok (.ireturn, 1) := by decide +kernel
theorem dX5_closeNow_0 : decode cX5_closeNow 0 = .ok (.aload_n 0, 1) := by decide +kernel
theorem dX5_closeNow_1 : decode cX5_closeNow 1 = .ok (.getfield 7, 3) := by decide +kernel
theorem dX5_closeNow_4 : decode cX5_closeNow 4 = .ok (.iconst 1, 1) := by decide +kernel
theorem dX5_closeNow_5 : decode cX5_closeNow 5 = .ok (.dup2, 1) := by decide +kernel
theorem dX5_closeNow_6 : decode cX5_closeNow 6 = .ok (.iaload, 1) := by decide +kernel
theorem dX5_closeNow_7 : decode cX5_closeNow 7 = .ok (.iconst 1, 1) := by decide +kernel
theorem dX5_closeNow_8 : decode cX5_closeNow 8 = .ok (.iadd, 1) := by decide +kernel
theorem dX5_closeNow_9 : decode cX5_closeNow 9 = .ok (.iastore, 1) := by decide +kernel
theorem dX5_closeNow_10 : decode cX5_closeNow 10 = .ok (.iconst 0, 1) := by decide +kernel
theorem dX5_closeNow_11 : decode cX5_closeNow 11 = .ok (.istore_n 1, 1) := by decide +kernel
theorem dX5_closeNow_12 : decode cX5_closeNow 12 = .ok (.iload_n 1, 1) := by decide +kernel
theorem dX5_closeNow_13 : decode cX5_closeNow 13 = .ok (.iconst 4, 1) := by decide +kernel
theorem dX5_closeNow_14 : decode cX5_closeNow 14 = .ok (.if_icmp .ge 57, 3) := by decide +kernel
theorem dX5_closeNow_17 : decode cX5_closeNow 17 = .ok (.aload_n 0, 1) := by decide +kernel
theorem dX5_closeNow_18 : decode cX5_closeNow 18 = .ok (.getfield 7, 3) := by decide +kernel
theorem dX5_closeNow_21 : decode cX5_closeNow 21 = .ok (.iload_n 1, 1) := by decide +kernel
theorem dX5_closeNow_22 : decode cX5_closeNow 22 = .ok (.invokestatic 25, 3) := by decide +kernel
theorem dX5_closeNow_25 : decode cX5_closeNow 25 = .ok (.iconst 1, 1) := by decide +kernel
theorem dX5_closeNow_26 : decode cX5_closeNow 26 = .ok (.iadd, 1) := by decide +kernel
theorem dX5_closeNow_27 : decode cX5_closeNow 27 = .ok (.aload_n 0, 1) := by decide +kernel
theorem dX5_closeNow_28 : decode cX5_closeNow 28 = .ok (.getfield 7, 3) := by decide +kernel
theorem dX5_closeNow_31 : decode cX5_closeNow 31 = .ok (.iload_n 1, 1) := by decide +kernel
theorem dX5_closeNow_32 : decode cX5_closeNow 32 = .ok (.invokestatic 25, 3) := by decide +kernel
theorem dX5_closeNow_35 : decode cX5_closeNow 35 = .ok (.iaload, 1) := by decide +kernel
theorem dX5_closeNow_36 : decode cX5_closeNow 36 = .ok (.aload_n 0, 1) := by decide +kernel
theorem dX5_closeNow_37 : decode cX5_closeNow 37 = .ok (.iload_n 1, 1) := by decide +kernel
theorem dX5_closeNow_38 : decode cX5_closeNow 38 = .ok (.invokevirtual 89, 3) := by decide +kernel
theorem dX5_closeNow_41 : decode cX5_closeNow 41 = .ok (.aload_n 0, 1) := by decide +kernel
theorem dX5_closeNow_42 : decode cX5_closeNow 42 = .ok (.getfield 7, 3) := by decide +kernel
theorem dX5_closeNow_45 : decode cX5_closeNow 45 = .ok (.iconst 4, 1) := by decide +kernel
theorem dX5_closeNow_46 : decode cX5_closeNow 46 = .ok (.iaload, 1) := by decide +kernel
theorem dX5_closeNow_47 : decode cX5_closeNow 47 = .ok (.imul, 1) := by decide +kernel
theorem dX5_closeNow_48 : decode cX5_closeNow 48 = .ok (.bipush 100, 2) := by decide +kernel
theorem dX5_closeNow_50 : decode cX5_closeNow 50 = .ok (.idiv, 1) := by decide +kernel
theorem dX5_closeNow_51 : decode cX5_closeNow 51 = .ok (.iadd, 1) := by decide +kernel
theorem dX5_closeNow_52 : decode cX5_closeNow 52 = .ok (.iastore, 1) := by decide +kernel
theorem dX5_closeNow_53 : decode cX5_closeNow 53 = .ok (.aload_n 0, 1) := by decide +kernel
theorem dX5_closeNow_54 : decode cX5_closeNow 54 = .ok (.getfield 7, 3) := by decide +kernel
theorem dX5_closeNow_57 : decode cX5_closeNow 57 = .ok (.iload_n 1, 1) := by decide +kernel
theorem dX5_closeNow_58 : decode cX5_closeNow 58 = .ok (.invokestatic 25, 3) := by decide +kernel
theorem dX5_closeNow_61 : decode cX5_closeNow 61 = .ok (.iconst 2, 1) := by decide +kernel
theorem dX5_closeNow_62 : decode cX5_closeNow 62 = .ok (.iadd, 1) := by decide +kernel
theorem dX5_closeNow_63 : decode cX5_closeNow 63 = .ok (.iconst 0, 1) := by decide +kernel
theorem dX5_closeNow_64 : decode cX5_closeNow 64 = .ok (.iastore, 1) := by decide +kernel
theorem dX5_closeNow_65 : decode cX5_closeNow 65 = .ok (.iinc 1 1, 3) := by decide +kernel
theorem dX5_closeNow_68 : decode cX5_closeNow 68 = .ok (.goto (-56), 3) := by decide +kernel
theorem dX5_closeNow_71 : decode cX5_closeNow 71 = .ok (.aload_n 0, 1) := by decide +kernel
theorem dX5_closeNow_72 : decode cX5_closeNow 72 = .ok (.iconst (-1), 1) := by decide +kernel
theorem dX5_closeNow_73 : decode cX5_closeNow 73 = .ok (.invokevirtual 118, 3) := by decide +kernel
theorem dX5_closeNow_76 : decode cX5_closeNow 76 = .ok (.ireturn, 1) := by decide +kernel
theorem dX5_closeMonth_0 : decode cX5_closeMonth 0 = .ok (.aload_n 0, 1) := by decide +kernel
theorem dX5_closeMonth_1 : decode cX5_closeMonth 1 = .ok (.iconst 0, 1) := by decide +kernel
theorem dX5_closeMonth_2 : decode cX5_closeMonth 2 = .ok (.putfield 29, 3) := by decide +kernel
theorem dX5_closeMonth_5 : decode cX5_closeMonth 5 = .ok (.aload_n 0, 1) := by decide +kernel
theorem dX5_closeMonth_6 : decode cX5_closeMonth 6 = .ok (.getfield 7, 3) := by decide +kernel
theorem dX5_closeMonth_9 : decode cX5_closeMonth 9 = .ok (.iconst 1, 1) := by decide +kernel
theorem dX5_closeMonth_10 : decode cX5_closeMonth 10 = .ok (.iaload, 1) := by decide +kernel
theorem dX5_closeMonth_11 : decode cX5_closeMonth 11 = .ok (.sipush 500, 3) := by decide +kernel
theorem dX5_closeMonth_14 : decode cX5_closeMonth 14 = .ok (.if_icmp .ne 9, 3) := by decide +kernel
theorem dX5_closeMonth_17 : decode cX5_closeMonth 17 = .ok (.aload_n 0, 1) := by decide +kernel
theorem dX5_closeMonth_18 : decode cX5_closeMonth 18 = .ok (.iconst 1, 1) := by decide +kernel
theorem dX5_closeMonth_19 : decode cX5_closeMonth 19 = .ok (.invokevirtual 64, 3) := by decide +kernel
theorem dX5_closeMonth_22 : decode cX5_closeMonth 22 = .ok (.ireturn, 1) := by decide +kernel
theorem dX5_closeMonth_23 : decode cX5_closeMonth 23 = .ok (.aload_n 0, 1) := by decide +kernel
theorem dX5_closeMonth_24 : decode cX5_closeMonth 24 = .ok (.invokevirtual 67, 3) := by decide +kernel
theorem dX5_closeMonth_27 : decode cX5_closeMonth 27 = .ok (.aload_n 0, 1) := by decide +kernel
theorem dX5_closeMonth_28 : decode cX5_closeMonth 28 = .ok (.invokevirtual 124, 3) := by decide +kernel
theorem dX5_closeMonth_31 : decode cX5_closeMonth 31 = .ok (.ireturn, 1) := by decide +kernel
theorem dX5_append_0 : decode cX5_append 0 = .ok (.aload_n 0, 1) := by decide +kernel
theorem dX5_append_1 : decode cX5_append 1 = .ok (.iconst 0, 1) := by decide +kernel
theorem dX5_append_2 : decode cX5_append 2 = .ok (.putfield 29, 3) := by decide +kernel
theorem dX5_append_5 : decode cX5_append 5 = .ok (.iload_n 1, 1) := by decide +kernel
theorem dX5_append_6 : decode cX5_append 6 = .ok (.bipush 33, 2) := by decide +kernel
theorem dX5_append_8 : decode cX5_append 8 = .ok (.bipush 126, 2) := by decide +kernel
theorem dX5_append_10 : decode cX5_append 10 = .ok (.invokestatic 36, 3) := by decide +kernel
theorem dX5_append_13 : decode cX5_append 13 = .ok (.ifCond .ne 9, 3) := by decide +kernel
theorem dX5_append_16 : decode cX5_append 16 = .ok (.aload_n 0, 1) := by decide +kernel
theorem dX5_append_17 : decode cX5_append 17 = .ok (.iconst 1, 1) := by decide +kernel
theorem dX5_append_18 : decode cX5_append 18 = .ok (.invokevirtual 64, 3) := by decide +kernel
theorem dX5_append_21 : decode cX5_append 21 = .ok (.ireturn, 1) := by decide +kernel
theorem dX5_append_22 : decode cX5_append 22 = .ok (.aload_n 0, 1) := by decide +kernel
theorem dX5_append_23 : decode cX5_append 23 = .ok (.getfield 128, 3) := by decide +kernel
theorem dX5_append_26 : decode cX5_append 26 = .ok (.bipush 60, 2) := by decide +kernel
theorem dX5_append_28 : decode cX5_append 28 = .ok (.if_icmp .ne 9, 3) := by decide +kernel
theorem dX5_append_31 : decode cX5_append 31 = .ok (.aload_n 0, 1) := by decide +kernel
theorem dX5_append_32 : decode cX5_append 32 = .ok (.iconst 2, 1) := by decide +kernel
theorem dX5_append_33 : decode cX5_append 33 = .ok (.invokevirtual 64, 3) := by decide +kernel
theorem dX5_append_36 : decode cX5_append 36 = .ok (.ireturn, 1) := by decide +kernel
theorem dX5_append_37 : decode cX5_append 37 = .ok (.aload_n 0, 1) := by decide +kernel
theorem dX5_append_38 : decode cX5_append 38 = .ok (.getfield 19, 3) := by decide +kernel
theorem dX5_append_41 : decode cX5_append 41 = .ok (.aload_n 0, 1) := by decide +kernel
theorem dX5_append_42 : decode cX5_append 42 = .ok (.getfield 128, 3) := by decide +kernel
theorem dX5_append_45 : decode cX5_append 45 = .ok (.iload_n 1, 1) := by decide +kernel
theorem dX5_append_46 : decode cX5_append 46 = .ok (.iastore, 1) := by decide +kernel
theorem dX5_append_47 : decode cX5_append 47 = .ok (.aload_n 0, 1) := by decide +kernel
theorem dX5_append_48 : decode cX5_append 48 = .ok (.dup, 1) := by decide +kernel
theorem dX5_append_49 : decode cX5_append 49 = .ok (.getfield 128, 3) := by decide +kernel
theorem dX5_append_52 : decode cX5_append 52 = .ok (.iconst 1, 1) := by decide +kernel
theorem dX5_append_53 : decode cX5_append 53 = .ok (.iadd, 1) := by decide +kernel
theorem dX5_append_54 : decode cX5_append 54 = .ok (.putfield 128, 3) := by decide +kernel
theorem dX5_append_57 : decode cX5_append 57 = .ok (.aload_n 0, 1) := by decide +kernel
theorem dX5_append_58 : decode cX5_append 58 = .ok (.getfield 128, 3) := by decide +kernel
theorem dX5_append_61 : decode cX5_append 61 = .ok (.ireturn, 1) := by decide +kernel
theorem dX5_clearBuffer_0 : decode cX5_clearBuffer 0 = .ok (.aload_n 0, 1) := by decide +kernel
theorem dX5_clearBuffer_1 : decode cX5_clearBuffer 1 = .ok (.iconst 0, 1) := by decide +kernel
theorem dX5_clearBuffer_2 : decode cX5_clearBuffer 2 = .ok (.putfield 29, 3) := by decide +kernel
theorem dX5_clearBuffer_5 : decode cX5_clearBuffer 5 = .ok (.aload_n 0, 1) := by decide +kernel
theorem dX5_clearBuffer_6 : decode cX5_clearBuffer 6 = .ok (.getfield 128, 3) := by decide +kernel
theorem dX5_clearBuffer_9 : decode cX5_clearBuffer 9 = .ok (.istore_n 1, 1) := by decide +kernel
theorem dX5_clearBuffer_10 : decode cX5_clearBuffer 10 = .ok (.aload_n 0, 1) := by decide +kernel
theorem dX5_clearBuffer_11 : decode cX5_clearBuffer 11 = .ok (.iconst 0, 1) := by decide +kernel
theorem dX5_clearBuffer_12 : decode cX5_clearBuffer 12 = .ok (.putfield 128, 3) := by decide +kernel
theorem dX5_clearBuffer_15 : decode cX5_clearBuffer 15 = .ok (.iload_n 1, 1) := by decide +kernel
theorem dX5_clearBuffer_16 : decode cX5_clearBuffer 16 = .ok (.ireturn, 1) := by decide +kernel
theorem dX5_takes_0 : decode cX5_takes 0 = .ok (.aload_n 0, 1) := by decide +kernel
theorem dX5_takes_1 : decode cX5_takes 1 = .ok (.getfield 131, 3) := by decide +kernel
theorem dX5_takes_4 : decode cX5_takes 4 = .ok (.aload_n 0, 1) := by decide +kernel
theorem dX5_takes_5 : decode cX5_takes 5 = .ok (.getfield 128, 3) := by decide +kernel
theorem dX5_takes_8 : decode cX5_takes 8 = .ok (.if_icmp .ge 20, 3) := by decide +kernel
theorem dX5_takes_11 : decode cX5_takes 11 = .ok (.aload_n 0, 1) := by decide +kernel
theorem dX5_takes_12 : decode cX5_takes 12 = .ok (.getfield 19, 3) := by decide +kernel
theorem dX5_takes_15 : decode cX5_takes 15 = .ok (.aload_n 0, 1) := by decide +kernel
theorem dX5_takes_16 : decode cX5_takes 16 = .ok (.getfield 131, 3) := by decide +kernel
theorem dX5_takes_19 : decode cX5_takes 19 = .ok (.iaload, 1) := by decide +kernel
theorem dX5_takes_20 : decode cX5_takes 20 = .ok (.iload_n 1, 1) := by decide +kernel
theorem dX5_takes_21 : decode cX5_takes 21 = .ok (.if_icmp .ne 7, 3) := by decide +kernel
theorem dX5_takes_24 : decode cX5_takes 24 = .ok (.iconst 1, 1) := by decide +kernel
theorem dX5_takes_25 : decode cX5_takes 25 = .ok (.goto 4, 3) := by decide +kernel
theorem dX5_takes_28 : decode cX5_takes 28 = .ok (.iconst 0, 1) := by decide +kernel
theorem dX5_takes_29 : decode cX5_takes 29 = .ok (.istore_n 2, 1) := by decide +kernel
theorem dX5_takes_30 : decode cX5_takes 30 = .ok (.aload_n 0, 1) := by decide +kernel
theorem dX5_takes_31 : decode cX5_takes 31 = .ok (.dup, 1) := by decide +kernel
theorem dX5_takes_32 : decode cX5_takes 32 = .ok (.getfield 131, 3) := by decide +kernel
theorem dX5_takes_35 : decode cX5_takes 35 = .ok (.iload_n 2, 1) := by decide +kernel
theorem dX5_takes_36 : decode cX5_takes 36 = .ok (.ifCond .eq 7, 3) := by decide +kernel
theorem dX5_takes_39 : decode cX5_takes 39 = .ok (.iconst 1, 1) := by decide +kernel
theorem dX5_takes_40 : decode cX5_takes 40 = .ok (.goto 4, 3) := by decide +kernel
theorem dX5_takes_43 : decode cX5_takes 43 = .ok (.iconst 0, 1) := by decide +kernel
theorem dX5_takes_44 : decode cX5_takes 44 = .ok (.iadd, 1) := by decide +kernel
theorem dX5_takes_45 : decode cX5_takes 45 = .ok (.putfield 131, 3) := by decide +kernel
theorem dX5_takes_48 : decode cX5_takes 48 = .ok (.iload_n 2, 1) := by decide +kernel
theorem dX5_takes_49 : decode cX5_takes 49 = .ok (.ireturn, 1) := by decide +kernel
theorem dX5_digit_0 : decode cX5_digit 0 = .ok (.aload_n 0, 1) := by decide +kernel
theorem dX5_digit_1 : decode cX5_digit 1 = .ok (.getfield 131, 3) := by decide +kernel
theorem dX5_digit_4 : decode cX5_digit 4 = .ok (.aload_n 0, 1) := by decide +kernel
theorem dX5_digit_5 : decode cX5_digit 5 = .ok (.getfield 128, 3) := by decide +kernel
theorem dX5_digit_8 : decode cX5_digit 8 = .ok (.if_icmp .ge 18, 3) := by decide +kernel
theorem dX5_digit_11 : decode cX5_digit 11 = .ok (.aload_n 0, 1) := by decide +kernel
theorem dX5_digit_12 : decode cX5_digit 12 = .ok (.getfield 19, 3) := by decide +kernel
theorem dX5_digit_15 : decode cX5_digit 15 = .ok (.aload_n 0, 1) := by decide +kernel
theorem dX5_digit_16 : decode cX5_digit 16 = .ok (.getfield 131, 3) := by decide +kernel
theorem dX5_digit_19 : decode cX5_digit 19 = .ok (.iaload, 1) := by decide +kernel
theorem dX5_digit_20 : decode cX5_digit 20 = .ok (.bipush 48, 2) := by decide +kernel
theorem dX5_digit_22 : decode cX5_digit 22 = .ok (.isub, 1) := by decide +kernel
theorem dX5_digit_23 : decode cX5_digit 23 = .ok (.goto 4, 3) := by decide +kernel
theorem dX5_digit_26 : decode cX5_digit 26 = .ok (.iconst (-1), 1) := by decide +kernel
theorem dX5_digit_27 : decode cX5_digit 27 = .ok (.istore 4, 2) := by decide +kernel
theorem dX5_digit_29 : decode cX5_digit 29 = .ok (.iload 4, 2) := by decide +kernel
theorem dX5_digit_31 : decode cX5_digit 31 = .ok (.iload_n 2, 1) := by decide +kernel
theorem dX5_digit_32 : decode cX5_digit 32 = .ok (.iload_n 3, 1) := by decide +kernel
theorem dX5_digit_33 : decode cX5_digit 33 = .ok (.invokestatic 36, 3) := by decide +kernel
theorem dX5_digit_36 : decode cX5_digit 36 = .ok (.istore 5, 2) := by decide +kernel
theorem dX5_digit_38 : decode cX5_digit 38 = .ok (.aload_n 0, 1) := by decide +kernel
theorem dX5_digit_39 : decode cX5_digit 39 = .ok (.getfield 22, 3) := by decide +kernel
theorem dX5_digit_42 : decode cX5_digit 42 = .ok (.iload_n 1, 1) := by decide +kernel
theorem dX5_digit_43 : decode cX5_digit 43 = .ok (.iload 4, 2) := by decide +kernel
theorem dX5_digit_45 : decode cX5_digit 45 = .ok (.iastore, 1) := by decide +kernel
theorem dX5_digit_46 : decode cX5_digit 46 = .ok (.aload_n 0, 1) := by decide +kernel
theorem dX5_digit_47 : decode cX5_digit 47 = .ok (.dup, 1) := by decide +kernel
theorem dX5_digit_48 : decode cX5_digit 48 = .ok (.getfield 131, 3) := by decide +kernel
theorem dX5_digit_51 : decode cX5_digit 51 = .ok (.iload 5, 2) := by decide +kernel
theorem dX5_digit_53 : decode cX5_digit 53 = .ok (.ifCond .eq 7, 3) := by decide +kernel
theorem dX5_digit_56 : decode cX5_digit 56 = .ok (.iconst 1, 1) := by decide +kernel
theorem dX5_digit_57 : decode cX5_digit 57 = .ok (.goto 4, 3) := by decide +kernel
theorem dX5_digit_60 : decode cX5_digit 60 = .ok (.iconst 0, 1) := by decide +kernel
theorem dX5_digit_61 : decode cX5_digit 61 = .ok (.iadd, 1) := by decide +kernel
theorem dX5_digit_62 : decode cX5_digit 62 = .ok (.putfield 131, 3) := by decide +kernel
theorem dX5_digit_65 : decode cX5_digit 65 = .ok (.iload 5, 2) := by decide +kernel
theorem dX5_digit_67 : decode cX5_digit 67 = .ok (.ireturn, 1) := by decide +kernel
theorem dX5_isOne_0 : decode cX5_isOne 0 = .ok (.iconst 3, 1) := by decide +kernel
theorem dX5_isOne_1 : decode cX5_isOne 1 = .ok (.aload_n 0, 1) := by decide +kernel
theorem dX5_isOne_2 : decode cX5_isOne 2 = .ok (.getfield 134, 3) := by decide +kernel
theorem dX5_isOne_5 : decode cX5_isOne 5 = .ok (.imul, 1) := by decide +kernel
theorem dX5_isOne_6 : decode cX5_isOne 6 = .ok (.istore_n 1, 1) := by decide +kernel
theorem dX5_isOne_7 : decode cX5_isOne 7 = .ok (.aload_n 0, 1) := by decide +kernel
theorem dX5_isOne_8 : decode cX5_isOne 8 = .ok (.bipush 107, 2) := by decide +kernel
theorem dX5_isOne_10 : decode cX5_isOne 10 = .ok (.invokevirtual 137, 3) := by decide +kernel
theorem dX5_isOne_13 : decode cX5_isOne 13 = .ok (.ifCond .eq 61, 3) := by decide +kernel
theorem dX5_isOne_16 : decode cX5_isOne 16 = .ok (.aload_n 0, 1) := by decide +kernel
theorem dX5_isOne_17 : decode cX5_isOne 17 = .ok (.iload_n 1, 1) := by decide +kernel
theorem dX5_isOne_18 : decode cX5_isOne 18 = .ok (.iconst 0, 1) := by decide +kernel
theorem dX5_isOne_19 : decode cX5_isOne 19 = .ok (.iconst 3, 1) := by decide +kernel
theorem dX5_isOne_20 : decode cX5_isOne 20 = .ok (.invokevirtual 140, 3) := by decide +kernel
theorem dX5_isOne_23 : decode cX5_isOne 23 = .ok (.ifCond .eq 51, 3) := by decide +kernel
theorem dX5_isOne_26 : decode cX5_isOne 26 = .ok (.aload_n 0, 1) := by decide +kernel
theorem dX5_isOne_27 : decode cX5_isOne 27 = .ok (.bipush 115, 2) := by decide +kernel
theorem dX5_isOne_29 : decode cX5_isOne 29 = .ok (.invokevirtual 137, 3) := by decide +kernel
theorem dX5_isOne_32 : decode cX5_isOne 32 = .ok (.ifCond .eq 42, 3) := by decide +kernel
theorem dX5_isOne_35 : decode cX5_isOne 35 = .ok (.aload_n 0, 1) := by decide +kernel
theorem dX5_isOne_36 : decode cX5_isOne 36 = .ok (.iload_n 1, 1) := by decide +kernel
theorem dX5_isOne_37 : decode cX5_isOne 37 = .ok (.iconst 1, 1) := by decide +kernel
theorem dX5_isOne_38 : decode cX5_isOne 38 = .ok (.iadd, 1) := by decide +kernel
theorem dX5_isOne_39 : decode cX5_isOne 39 = .ok (.iconst 1, 1) := by decide +kernel
theorem dX5_isOne_40 : decode cX5_isOne 40 = .ok (.bipush 9, 2) := by decide +kernel
theorem dX5_isOne_42 : decode cX5_isOne 42 = .ok (.invokevirtual 140, 3) := by decide +kernel
theorem dX5_isOne_45 : decode cX5_isOne 45 = .ok (.ifCond .eq 29, 3) := by decide +kernel
theorem dX5_isOne_48 : decode cX5_isOne 48 = .ok (.aload_n 0, 1) := by decide +kernel
theorem dX5_isOne_49 : decode cX5_isOne 49 = .ok (.bipush 99, 2) := by decide +kernel
theorem dX5_isOne_51 : decode cX5_isOne 51 = .ok (.invokevirtual 137, 3) := by decide +kernel
theorem dX5_isOne_54 : decode cX5_isOne 54 = .ok (.ifCond .eq 20, 3) := by decide +kernel
theorem dX5_isOne_57 : decode cX5_isOne 57 = .ok (.aload_n 0, 1) := by decide +kernel
theorem dX5_isOne_58 : decode cX5_isOne 58 = .ok (.iload_n 1, 1) := by decide +kernel
theorem dX5_isOne_59 : decode cX5_isOne 59 = .ok (.iconst 2, 1) := by decide +kernel
theorem dX5_isOne_60 : decode cX5_isOne 60 = .ok (.iadd, 1) := by decide +kernel
theorem dX5_isOne_61 : decode cX5_isOne 61 = .ok (.iconst 0, 1) := by decide +kernel
theorem dX5_isOne_62 : decode cX5_isOne 62 = .ok (.bipush 9, 2) := by decide +kernel
theorem dX5_isOne_64 : decode cX5_isOne 64 = .ok (.invokevirtual 140, 3) := by decide +kernel
theorem dX5_isOne_67 : decode cX5_isOne 67 = .ok (.ifCond .eq 7, 3) := by decide +kernel
theorem dX5_isOne_70 : decode cX5_isOne 70 = .ok (.iconst 1, 1) := by decide +kernel
theorem dX5_isOne_71 : decode cX5_isOne 71 = .ok (.goto 4, 3) := by decide +kernel
theorem dX5_isOne_74 : decode cX5_isOne 74 = .ok (.iconst 0, 1) := by decide +kernel
theorem dX5_isOne_75 : decode cX5_isOne 75 = .ok (.istore_n 2, 1) := by decide +kernel
theorem dX5_isOne_76 : decode cX5_isOne 76 = .ok (.aload_n 0, 1) := by decide +kernel
theorem dX5_isOne_77 : decode cX5_isOne 77 = .ok (.dup, 1) := by decide +kernel
theorem dX5_isOne_78 : decode cX5_isOne 78 = .ok (.getfield 134, 3) := by decide +kernel
theorem dX5_isOne_81 : decode cX5_isOne 81 = .ok (.iconst 1, 1) := by decide +kernel
theorem dX5_isOne_82 : decode cX5_isOne 82 = .ok (.iadd, 1) := by decide +kernel
theorem dX5_isOne_83 : decode cX5_isOne 83 = .ok (.putfield 134, 3) := by decide +kernel
theorem dX5_isOne_86 : decode cX5_isOne 86 = .ok (.iload_n 2, 1) := by decide +kernel
theorem dX5_isOne_87 : decode cX5_isOne 87 = .ok (.ireturn, 1) := by decide +kernel
theorem dX5_isText_0 : decode cX5_isText 0 = .ok (.aload_n 0, 1) := by decide +kernel
theorem dX5_isText_1 : decode cX5_isText 1 = .ok (.iconst 0, 1) := by decide +kernel
theorem dX5_isText_2 : decode cX5_isText 2 = .ok (.putfield 131, 3) := by decide +kernel
theorem dX5_isText_5 : decode cX5_isText 5 = .ok (.aload_n 0, 1) := by decide +kernel
theorem dX5_isText_6 : decode cX5_isText 6 = .ok (.iconst 0, 1) := by decide +kernel
theorem dX5_isText_7 : decode cX5_isText 7 = .ok (.putfield 134, 3) := by decide +kernel
theorem dX5_isText_10 : decode cX5_isText 10 = .ok (.aload_n 0, 1) := by decide +kernel
theorem dX5_isText_11 : decode cX5_isText 11 = .ok (.invokevirtual 143, 3) := by decide +kernel
theorem dX5_isText_14 : decode cX5_isText 14 = .ok (.istore_n 1, 1) := by decide +kernel
theorem dX5_isText_15 : decode cX5_isText 15 = .ok (.iload_n 1, 1) := by decide +kernel
theorem dX5_isText_16 : decode cX5_isText 16 = .ok (.ifCond .eq 20, 3) := by decide +kernel
theorem dX5_isText_19 : decode cX5_isText 19 = .ok (.aload_n 0, 1) := by decide +kernel
theorem dX5_isText_20 : decode cX5_isText 20 = .ok (.bipush 59, 2) := by decide +kernel
theorem dX5_isText_22 : decode cX5_isText 22 = .ok (.invokevirtual 137, 3) := by decide +kernel
theorem dX5_isText_25 : decode cX5_isText 25 = .ok (.ifCond .eq 11, 3) := by decide +kernel
theorem dX5_isText_28 : decode cX5_isText 28 = .ok (.aload_n 0, 1) := by decide +kernel
theorem dX5_isText_29 : decode cX5_isText 29 = .ok (.invokevirtual 143, 3) := by decide +kernel
theorem dX5_isText_32 : decode cX5_isText 32 = .ok (.istore_n 1, 1) := by decide +kernel
theorem dX5_isText_33 : decode cX5_isText 33 = .ok (.goto (-18), 3) := by decide +kernel
theorem dX5_isText_36 : decode cX5_isText 36 = .ok (.iload_n 1, 1) := by decide +kernel
theorem dX5_isText_37 : decode cX5_isText 37 = .ok (.ifCond .eq 18, 3) := by decide +kernel
theorem dX5_isText_40 : decode cX5_isText 40 = .ok (.aload_n 0, 1) := by decide +kernel
theorem dX5_isText_41 : decode cX5_isText 41 = .ok (.getfield 131, 3) := by decide +kernel
theorem dX5_isText_44 : decode cX5_isText 44 = .ok (.aload_n 0, 1) := by decide +kernel
theorem dX5_isText_45 : decode cX5_isText 45 = .ok (.getfield 128, 3) := by decide +kernel
theorem dX5_isText_48 : decode cX5_isText 48 = .ok (.if_icmp .ne 7, 3) := by decide +kernel
theorem dX5_isText_51 : decode cX5_isText 51 = .ok (.iconst 1, 1) := by decide +kernel
theorem dX5_isText_52 : decode cX5_isText 52 = .ok (.goto 4, 3) := by decide +kernel
theorem dX5_isText_55 : decode cX5_isText 55 = .ok (.iconst 0, 1) := by decide +kernel
theorem dX5_isText_56 : decode cX5_isText 56 = .ok (.ireturn, 1) := by decide +kernel
theorem dX5_firstError_0 : decode cX5_firstError 0 = .ok (.aload_n 0, 1) := by decide +kernel
theorem dX5_firstError_1 : decode cX5_firstError 1 = .ok (.iconst 0, 1) := by decide +kernel
theorem dX5_firstError_2 : decode cX5_firstError 2 = .ok (.putfield 29, 3) := by decide +kernel
theorem dX5_firstError_5 : decode cX5_firstError 5 = .ok (.aload_n 0, 1) := by decide +kernel
theorem dX5_firstError_6 : decode cX5_firstError 6 = .ok (.invokevirtual 147, 3) := by decide +kernel
theorem dX5_firstError_9 : decode cX5_firstError 9 = .ok (.ifCond .eq 10, 3) := by decide +kernel
theorem dX5_firstError_12 : decode cX5_firstError 12 = .ok (.aload_n 0, 1) := by decide +kernel
theorem dX5_firstError_13 : decode cX5_firstError 13 = .ok (.getfield 128, 3) := by decide +kernel
theorem dX5_firstError_16 : decode cX5_firstError 16 = .ok (.goto 7, 3) := by decide +kernel
theorem dX5_firstError_19 : decode cX5_firstError 19 = .ok (.aload_n 0, 1) := by decide +kernel
theorem dX5_firstError_20 : decode cX5_firstError 20 = .ok (.getfield 131, 3) := by decide +kernel
theorem dX5_firstError_23 : decode cX5_firstError 23 = .ok (.ireturn, 1) := by decide +kernel
theorem dX5_complainAll_0 : decode cX5_complainAll 0 = .ok (.aload_n 0, 1) := by decide +kernel
theorem dX5_complainAll_1 : decode cX5_complainAll 1 = .ok (.iconst 0, 1) := by decide +kernel
theorem dX5_complainAll_2 : decode cX5_complainAll 2 = .ok (.putfield 29, 3) := by decide +kernel
theorem dX5_complainAll_5 : decode cX5_complainAll 5 = .ok (.aload_n 0, 1) := by decide +kernel
theorem dX5_complainAll_6 : decode cX5_complainAll 6 = .ok (.invokevirtual 147, 3) := by decide +kernel
theorem dX5_complainAll_9 : decode cX5_complainAll 9 = .ok (.ifCond .ne 9, 3) := by decide +kernel
theorem dX5_complainAll_12 : decode cX5_complainAll 12 = .ok (.aload_n 0, 1) := by decide +kernel
theorem dX5_complainAll_13 : decode cX5_complainAll 13 = .ok (.iconst 1, 1) := by decide +kernel
theorem dX5_complainAll_14 : decode cX5_complainAll 14 = .ok (.invokevirtual 64, 3) := by decide +kernel
theorem dX5_complainAll_17 : decode cX5_complainAll 17 = .ok (.ireturn, 1) := by decide +kernel
theorem dX5_complainAll_18 : decode cX5_complainAll 18 = .ok (.aload_n 0, 1) := by decide +kernel
theorem dX5_complainAll_19 : decode cX5_complainAll 19 = .ok (.getfield 7, 3) := by decide +kernel
theorem dX5_complainAll_22 : decode cX5_complainAll 22 = .ok (.iconst 0, 1) := by decide +kernel
theorem dX5_complainAll_23 : decode cX5_complainAll 23 = .ok (.iaload, 1) := by decide +kernel
theorem dX5_complainAll_24 : decode cX5_complainAll 24 = .ok (.aload_n 0, 1) := by decide +kernel
theorem dX5_complainAll_25 : decode cX5_complainAll 25 = .ok (.getfield 134, 3) := by decide +kernel
theorem dX5_complainAll_28 : decode cX5_complainAll 28 = .ok (.iadd, 1) := by decide +kernel
theorem dX5_complainAll_29 : decode cX5_complainAll 29 = .ok (.bipush 24, 2) := by decide +kernel
theorem dX5_complainAll_31 : decode cX5_complainAll 31 = .ok (.if_icmp .le 9, 3) := by decide +kernel
theorem dX5_complainAll_34 : decode cX5_complainAll 34 = .ok (.aload_n 0, 1) := by decide +kernel
theorem dX5_complainAll_35 : decode cX5_complainAll 35 = .ok (.iconst 2, 1) := by decide +kernel
theorem dX5_complainAll_36 : decode cX5_complainAll 36 = .ok (.invokevirtual 64, 3) := by decide +kernel
theorem dX5_complainAll_39 : decode cX5_complainAll 39 = .ok (.ireturn, 1) := by decide +kernel
theorem dX5_complainAll_40 : decode cX5_complainAll 40 = .ok (.aload_n 0, 1) := by decide +kernel
theorem dX5_complainAll_41 : decode cX5_complainAll 41 = .ok (.invokevirtual 67, 3) := by decide +kernel
theorem dX5_complainAll_44 : decode cX5_complainAll 44 = .ok (.iconst 0, 1) := by decide +kernel
theorem dX5_complainAll_45 : decode cX5_complainAll 45 = .ok (.istore_n 1, 1) := by decide +kernel
theorem dX5_complainAll_46 : decode cX5_complainAll 46 = .ok (.iload_n 1, 1) := by decide +kernel
theorem dX5_complainAll_47 : decode cX5_complainAll 47 = .ok (.aload_n 0, 1) := by decide +kernel
theorem dX5_complainAll_48 : decode cX5_complainAll 48 = .ok (.getfield 134, 3) := by decide +kernel
theorem dX5_complainAll_51 : decode cX5_complainAll 51 = .ok (.if_icmp .ge 41, 3) := by decide +kernel
theorem dX5_complainAll_54 : decode cX5_complainAll 54 = .ok (.aload_n 0, 1) := by decide +kernel
theorem dX5_complainAll_55 : decode cX5_complainAll 55 = .ok (.aload_n 0, 1) := by decide +kernel
theorem dX5_complainAll_56 : decode cX5_complainAll 56 = .ok (.getfield 22, 3) := by decide +kernel
theorem dX5_complainAll_59 : decode cX5_complainAll 59 = .ok (.iconst 3, 1) := by decide +kernel
theorem dX5_complainAll_60 : decode cX5_complainAll 60 = .ok (.iload_n 1, 1) := by decide +kernel
theorem dX5_complainAll_61 : decode cX5_complainAll 61 = .ok (.imul, 1) := by decide +kernel
theorem dX5_complainAll_62 : decode cX5_complainAll 62 = .ok (.iaload, 1) := by decide +kernel
theorem dX5_complainAll_63 : decode cX5_complainAll 63 = .ok (.aload_n 0, 1) := by decide +kernel
theorem dX5_complainAll_64 : decode cX5_complainAll 64 = .ok (.getfield 22, 3) := by decide +kernel
theorem dX5_complainAll_67 : decode cX5_complainAll 67 = .ok (.iconst 3, 1) := by decide +kernel
theorem dX5_complainAll_68 : decode cX5_complainAll 68 = .ok (.iload_n 1, 1) := by decide +kernel
theorem dX5_complainAll_69 : decode cX5_complainAll 69 = .ok (.imul, 1) := by decide +kernel
theorem dX5_complainAll_70 : decode cX5_complainAll 70 = .ok (.iconst 1, 1) := by decide +kernel
theorem dX5_complainAll_71 : decode cX5_complainAll 71 = .ok (.iadd, 1) := by decide +kernel
theorem dX5_complainAll_72 : decode cX5_complainAll 72 = .ok (.iaload, 1) := by decide +kernel
theorem dX5_complainAll_73 : decode cX5_complainAll 73 = .ok (.aload_n 0, 1) := by decide +kernel
theorem dX5_complainAll_74 : decode cX5_complainAll 74 = .ok (.getfield 22, 3) := by decide +kernel
theorem dX5_complainAll_77 : decode cX5_complainAll 77 = .ok (.iconst 3, 1) := by decide +kernel
theorem dX5_complainAll_78 : decode cX5_complainAll 78 = .ok (.iload_n 1, 1) := by decide +kernel
theorem dX5_complainAll_79 : decode cX5_complainAll 79 = .ok (.imul, 1) := by decide +kernel
theorem dX5_complainAll_80 : decode cX5_complainAll 80 = .ok (.iconst 2, 1) := by decide +kernel
theorem dX5_complainAll_81 : decode cX5_complainAll 81 = .ok (.iadd, 1) := by decide +kernel
theorem dX5_complainAll_82 : decode cX5_complainAll 82 = .ok (.iaload, 1) := by decide +kernel
theorem dX5_complainAll_83 : decode cX5_complainAll 83 = .ok (.invokevirtual 76, 3) := by decide +kernel
theorem dX5_complainAll_86 : decode cX5_complainAll 86 = .ok (.iinc 1 1, 3) := by decide +kernel
theorem dX5_complainAll_89 : decode cX5_complainAll 89 = .ok (.goto (-43), 3) := by decide +kernel
theorem dX5_complainAll_92 : decode cX5_complainAll 92 = .ok (.aload_n 0, 1) := by decide +kernel
theorem dX5_complainAll_93 : decode cX5_complainAll 93 = .ok (.iconst 0, 1) := by decide +kernel
theorem dX5_complainAll_94 : decode cX5_complainAll 94 = .ok (.putfield 128, 3) := by decide +kernel
theorem dX5_complainAll_97 : decode cX5_complainAll 97 = .ok (.aload_n 0, 1) := by decide +kernel
theorem dX5_complainAll_98 : decode cX5_complainAll 98 = .ok (.getfield 7, 3) := by decide +kernel
theorem dX5_complainAll_101 : decode cX5_complainAll 101 = .ok (.iconst 0, 1) := by decide +kernel
theorem dX5_complainAll_102 : decode cX5_complainAll 102 = .ok (.iaload, 1) := by decide +kernel
theorem dX5_complainAll_103 : decode cX5_complainAll 103 = .ok (.ireturn, 1) := by decide +kernel
theorem dX5_undo_0 : decode cX5_undo 0 = .ok (.aload_n 0, 1) := by decide +kernel
theorem dX5_undo_1 : decode cX5_undo 1 = .ok (.iconst 0, 1) := by decide +kernel
theorem dX5_undo_2 : decode cX5_undo 2 = .ok (.putfield 29, 3) := by decide +kernel
theorem dX5_undo_5 : decode cX5_undo 5 = .ok (.aload_n 0, 1) := by decide +kernel
theorem dX5_undo_6 : decode cX5_undo 6 = .ok (.getfield 33, 3) := by decide +kernel
theorem dX5_undo_9 : decode cX5_undo 9 = .ok (.ifCond .ne 9, 3) := by decide +kernel
theorem dX5_undo_12 : decode cX5_undo 12 = .ok (.aload_n 0, 1) := by decide +kernel
theorem dX5_undo_13 : decode cX5_undo 13 = .ok (.iconst 1, 1) := by decide +kernel
theorem dX5_undo_14 : decode cX5_undo 14 = .ok (.invokevirtual 64, 3) := by decide +kernel
theorem dX5_undo_17 : decode cX5_undo 17 = .ok (.ireturn, 1) := by decide +kernel
theorem dX5_undo_18 : decode cX5_undo 18 = .ok (.aload_n 0, 1) := by decide +kernel
theorem dX5_undo_19 : decode cX5_undo 19 = .ok (.dup, 1) := by decide +kernel
theorem dX5_undo_20 : decode cX5_undo 20 = .ok (.getfield 33, 3) := by decide +kernel
theorem dX5_undo_23 : decode cX5_undo 23 = .ok (.iconst 1, 1) := by decide +kernel
theorem dX5_undo_24 : decode cX5_undo 24 = .ok (.isub, 1) := by decide +kernel
theorem dX5_undo_25 : decode cX5_undo 25 = .ok (.putfield 33, 3) := by decide +kernel
theorem dX5_undo_28 : decode cX5_undo 28 = .ok (.iconst 0, 1) := by decide +kernel
theorem dX5_undo_29 : decode cX5_undo 29 = .ok (.istore_n 1, 1) := by decide +kernel
theorem dX5_undo_30 : decode cX5_undo 30 = .ok (.iload_n 1, 1) := by decide +kernel
theorem dX5_undo_31 : decode cX5_undo 31 = .ok (.sipush 442, 3) := by decide +kernel
theorem dX5_undo_34 : decode cX5_undo 34 = .ok (.if_icmp .ge 30, 3) := by decide +kernel
theorem dX5_undo_37 : decode cX5_undo 37 = .ok (.aload_n 0, 1) := by decide +kernel
theorem dX5_undo_38 : decode cX5_undo 38 = .ok (.getfield 7, 3) := by decide +kernel
theorem dX5_undo_41 : decode cX5_undo 41 = .ok (.iload_n 1, 1) := by decide +kernel
theorem dX5_undo_42 : decode cX5_undo 42 = .ok (.aload_n 0, 1) := by decide +kernel
theorem dX5_undo_43 : decode cX5_undo 43 = .ok (.getfield 13, 3) := by decide +kernel
theorem dX5_undo_46 : decode cX5_undo 46 = .ok (.sipush 442, 3) := by decide +kernel
theorem dX5_undo_49 : decode cX5_undo 49 = .ok (.aload_n 0, 1) := by decide +kernel
theorem dX5_undo_50 : decode cX5_undo 50 = .ok (.getfield 33, 3) := by decide +kernel
theorem dX5_undo_53 : decode cX5_undo 53 = .ok (.imul, 1) := by decide +kernel
theorem dX5_undo_54 : decode cX5_undo 54 = .ok (.iload_n 1, 1) := by decide +kernel
theorem dX5_undo_55 : decode cX5_undo 55 = .ok (.iadd, 1) := by decide +kernel
theorem dX5_undo_56 : decode cX5_undo 56 = .ok (.iaload, 1) := by decide +kernel
theorem dX5_undo_57 : decode cX5_undo 57 = .ok (.iastore, 1) := by decide +kernel
theorem dX5_undo_58 : decode cX5_undo 58 = .ok (.iinc 1 1, 3) := by decide +kernel
theorem dX5_undo_61 : decode cX5_undo 61 = .ok (.goto (-31), 3) := by decide +kernel
theorem dX5_undo_64 : decode cX5_undo 64 = .ok (.aload_n 0, 1) := by decide +kernel
theorem dX5_undo_65 : decode cX5_undo 65 = .ok (.getfield 33, 3) := by decide +kernel
theorem dX5_undo_68 : decode cX5_undo 68 = .ok (.ireturn, 1) := by decide +kernel
theorem dX5_complaintOf_0 : decode cX5_complaintOf 0 = .ok (.iload_n 1, 1) := by decide +kernel
theorem dX5_complaintOf_1 : decode cX5_complaintOf 1 = .ok (.invokestatic 54, 3) := by decide +kernel
theorem dX5_complaintOf_4 : decode cX5_complaintOf 4 = .ok (.istore_n 3, 1) := by decide +kernel
theorem dX5_complaintOf_5 : decode cX5_complaintOf 5 = .ok (.iload_n 2, 1) := by decide +kernel
theorem dX5_complaintOf_6 : decode cX5_complaintOf 6 = .ok (.tableswitch 85 0 10 #[58, 58, 58, 67, 85, 85, 85, 85, 85, 85, 79], 58) := by decide +kernel
theorem dX5_complaintOf_64 : decode cX5_complaintOf 64 = .ok (.aload_n 0, 1) := by decide +kernel
theorem dX5_complaintOf_65 : decode cX5_complaintOf 65 = .ok (.getfield 7, 3) := by decide +kernel
theorem dX5_complaintOf_68 : decode cX5_complaintOf 68 = .ok (.iload_n 3, 1) := by decide +kernel
theorem dX5_complaintOf_69 : decode cX5_complaintOf 69 = .ok (.iload_n 2, 1) := by decide +kernel
theorem dX5_complaintOf_70 : decode cX5_complaintOf 70 = .ok (.iadd, 1) := by decide +kernel
theorem dX5_complaintOf_71 : decode cX5_complaintOf 71 = .ok (.iaload, 1) := by decide +kernel
theorem dX5_complaintOf_72 : decode cX5_complaintOf 72 = .ok (.ireturn, 1) := by decide +kernel
theorem dX5_complaintOf_73 : decode cX5_complaintOf 73 = .ok (.aload_n 0, 1) := by decide +kernel
theorem dX5_complaintOf_74 : decode cX5_complaintOf 74 = .ok (.getfield 7, 3) := by decide +kernel
theorem dX5_complaintOf_77 : decode cX5_complaintOf 77 = .ok (.iload_n 3, 1) := by decide +kernel
theorem dX5_complaintOf_78 : decode cX5_complaintOf 78 = .ok (.iconst 1, 1) := by decide +kernel
theorem dX5_complaintOf_79 : decode cX5_complaintOf 79 = .ok (.iadd, 1) := by decide +kernel
theorem dX5_complaintOf_80 : decode cX5_complaintOf 80 = .ok (.iaload, 1) := by decide +kernel
theorem dX5_complaintOf_81 : decode cX5_complaintOf 81 = .ok (.invokestatic 80, 3) := by decide +kernel
theorem dX5_complaintOf_84 : decode cX5_complaintOf 84 = .ok (.ireturn, 1) := by decide +kernel
theorem dX5_complaintOf_85 : decode cX5_complaintOf 85 = .ok (.aload_n 0, 1) := by decide +kernel
theorem dX5_complaintOf_86 : decode cX5_complaintOf 86 = .ok (.iload_n 1, 1) := by decide +kernel
theorem dX5_complaintOf_87 : decode cX5_complaintOf 87 = .ok (.invokevirtual 115, 3) := by decide +kernel
theorem dX5_complaintOf_90 : decode cX5_complaintOf 90 = .ok (.ireturn, 1) := by decide +kernel
theorem dX5_complaintOf_91 : decode cX5_complaintOf 91 = .ok (.iload_n 2, 1) := by decide +kernel
theorem dX5_complaintOf_92 : decode cX5_complaintOf 92 = .ok (.bipush 9, 2) := by decide +kernel
theorem dX5_complaintOf_94 : decode cX5_complaintOf 94 = .ok (.if_icmp .ne 15, 3) := by decide +kernel
theorem dX5_complaintOf_97 : decode cX5_complaintOf 97 = .ok (.aload_n 0, 1) := by decide +kernel
theorem dX5_complaintOf_98 : decode cX5_complaintOf 98 = .ok (.getfield 7, 3) := by decide +kernel
theorem dX5_complaintOf_101 : decode cX5_complaintOf 101 = .ok (.iload_n 3, 1) := by decide +kernel
theorem dX5_complaintOf_102 : decode cX5_complaintOf 102 = .ok (.bipush 9, 2) := by decide +kernel
theorem dX5_complaintOf_104 : decode cX5_complaintOf 104 = .ok (.iadd, 1) := by decide +kernel
theorem dX5_complaintOf_105 : decode cX5_complaintOf 105 = .ok (.iaload, 1) := by decide +kernel
theorem dX5_complaintOf_106 : decode cX5_complaintOf 106 = .ok (.goto 13, 3) := by decide +kernel
theorem dX5_complaintOf_109 : decode cX5_complaintOf 109 = .ok (.aload_n 0, 1) := by decide +kernel
theorem dX5_complaintOf_110 : decode cX5_complaintOf 110 = .ok (.getfield 7, 3) := by decide +kernel
theorem dX5_complaintOf_113 : decode cX5_complaintOf 113 = .ok (.iload_n 3, 1) := by decide +kernel
theorem dX5_complaintOf_114 : decode cX5_complaintOf 114 = .ok (.iload_n 2, 1) := by decide +kernel
theorem dX5_complaintOf_115 : decode cX5_complaintOf 115 = .ok (.iadd, 1) := by decide +kernel
theorem dX5_complaintOf_116 : decode cX5_complaintOf 116 = .ok (.iconst 1, 1) := by decide +kernel
theorem dX5_complaintOf_117 : decode cX5_complaintOf 117 = .ok (.isub, 1) := by decide +kernel
theorem dX5_complaintOf_118 : decode cX5_complaintOf 118 = .ok (.iaload, 1) := by decide +kernel
theorem dX5_complaintOf_119 : decode cX5_complaintOf 119 = .ok (.ireturn, 1) := by decide +kernel
theorem dX5_complaint_0 : decode cX5_complaint 0 = .ok (.aload_n 0, 1) := by decide +kernel
theorem dX5_complaint_1 : decode cX5_complaint 1 = .ok (.iconst 0, 1) := by decide +kernel
theorem dX5_complaint_2 : decode cX5_complaint 2 = .ok (.putfield 29, 3) := by decide +kernel
theorem dX5_complaint_5 : decode cX5_complaint 5 = .ok (.aload_n 0, 1) := by decide +kernel
theorem dX5_complaint_6 : decode cX5_complaint 6 = .ok (.iload_n 1, 1) := by decide +kernel
theorem dX5_complaint_7 : decode cX5_complaint 7 = .ok (.invokevirtual 99, 3) := by decide +kernel
theorem dX5_complaint_10 : decode cX5_complaint 10 = .ok (.ifCond .ne 9, 3) := by decide +kernel
theorem dX5_complaint_13 : decode cX5_complaint 13 = .ok (.aload_n 0, 1) := by decide +kernel
theorem dX5_complaint_14 : decode cX5_complaint 14 = .ok (.iconst 1, 1) := by decide +kernel
theorem dX5_complaint_15 : decode cX5_complaint 15 = .ok (.invokevirtual 64, 3) := by decide +kernel
theorem dX5_complaint_18 : decode cX5_complaint 18 = .ok (.ireturn, 1) := by decide +kernel
theorem dX5_complaint_19 : decode cX5_complaint 19 = .ok (.iload_n 2, 1) := by decide +kernel
theorem dX5_complaint_20 : decode cX5_complaint 20 = .ok (.iconst 0, 1) := by decide +kernel
theorem dX5_complaint_21 : decode cX5_complaint 21 = .ok (.bipush 10, 2) := by decide +kernel
theorem dX5_complaint_23 : decode cX5_complaint 23 = .ok (.invokestatic 36, 3) := by decide +kernel
theorem dX5_complaint_26 : decode cX5_complaint 26 = .ok (.ifCond .eq 12, 3) := by decide +kernel
theorem dX5_complaint_29 : decode cX5_complaint 29 = .ok (.aload_n 0, 1) := by decide +kernel
theorem dX5_complaint_30 : decode cX5_complaint 30 = .ok (.iload_n 1, 1) := by decide +kernel
theorem dX5_complaint_31 : decode cX5_complaint 31 = .ok (.iload_n 2, 1) := by decide +kernel
theorem dX5_complaint_32 : decode cX5_complaint 32 = .ok (.invokevirtual 150, 3) := by decide +kernel
theorem dX5_complaint_35 : decode cX5_complaint 35 = .ok (.goto 8, 3) := by decide +kernel
theorem dX5_complaint_38 : decode cX5_complaint 38 = .ok (.aload_n 0, 1) := by decide +kernel
theorem dX5_complaint_39 : decode cX5_complaint 39 = .ok (.iconst 2, 1) := by decide +kernel
theorem dX5_complaint_40 : decode cX5_complaint 40 = .ok (.invokevirtual 64, 3) := by decide +kernel
theorem dX5_complaint_43 : decode cX5_complaint 43 = .ok (.ireturn, 1) := by decide +kernel
theorem dX5_having_0 : decode cX5_having 0 = .ok (.iconst 0, 1) := by decide +kernel
theorem dX5_having_1 : decode cX5_having 1 = .ok (.istore_n 3, 1) := by decide +kernel
theorem dX5_having_2 : decode cX5_having 2 = .ok (.iconst 0, 1) := by decide +kernel
theorem dX5_having_3 : decode cX5_having 3 = .ok (.istore 4, 2) := by decide +kernel
theorem dX5_having_5 : decode cX5_having 5 = .ok (.iload 4, 2) := by decide +kernel
theorem dX5_having_7 : decode cX5_having 7 = .ok (.aload_n 0, 1) := by decide +kernel
theorem dX5_having_8 : decode cX5_having 8 = .ok (.getfield 7, 3) := by decide +kernel
theorem dX5_having_11 : decode cX5_having 11 = .ok (.iconst 0, 1) := by decide +kernel
theorem dX5_having_12 : decode cX5_having 12 = .ok (.iaload, 1) := by decide +kernel
theorem dX5_having_13 : decode cX5_having 13 = .ok (.if_icmp .ge 47, 3) := by decide +kernel
theorem dX5_having_16 : decode cX5_having 16 = .ok (.iload_n 3, 1) := by decide +kernel
theorem dX5_having_17 : decode cX5_having 17 = .ok (.aload_n 0, 1) := by decide +kernel
theorem dX5_having_18 : decode cX5_having 18 = .ok (.getfield 7, 3) := by decide +kernel
theorem dX5_having_21 : decode cX5_having 21 = .ok (.iload 4, 2) := by decide +kernel
theorem dX5_having_23 : decode cX5_having 23 = .ok (.invokestatic 54, 3) := by decide +kernel
theorem dX5_having_26 : decode cX5_having 26 = .ok (.iaload, 1) := by decide +kernel
theorem dX5_having_27 : decode cX5_having 27 = .ok (.iload_n 1, 1) := by decide +kernel
theorem dX5_having_28 : decode cX5_having 28 = .ok (.if_icmp .ne 23, 3) := by decide +kernel
theorem dX5_having_31 : decode cX5_having 31 = .ok (.aload_n 0, 1) := by decide +kernel
theorem dX5_having_32 : decode cX5_having 32 = .ok (.getfield 7, 3) := by decide +kernel
theorem dX5_having_35 : decode cX5_having 35 = .ok (.iload 4, 2) := by decide +kernel
theorem dX5_having_37 : decode cX5_having 37 = .ok (.invokestatic 54, 3) := by decide +kernel
theorem dX5_having_40 : decode cX5_having 40 = .ok (.iconst 4, 1) := by decide +kernel
theorem dX5_having_41 : decode cX5_having 41 = .ok (.iadd, 1) := by decide +kernel
theorem dX5_having_42 : decode cX5_having 42 = .ok (.iaload, 1) := by decide +kernel
theorem dX5_having_43 : decode cX5_having 43 = .ok (.iload_n 2, 1) := by decide +kernel
theorem dX5_having_44 : decode cX5_having 44 = .ok (.if_icmp .ne 7, 3) := by decide +kernel
theorem dX5_having_47 : decode cX5_having 47 = .ok (.iconst 1, 1) := by decide +kernel
theorem dX5_having_48 : decode cX5_having 48 = .ok (.goto 4, 3) := by decide +kernel
theorem dX5_having_51 : decode cX5_having 51 = .ok (.iconst 0, 1) := by decide +kernel
theorem dX5_having_52 : decode cX5_having 52 = .ok (.iadd, 1) := by decide +kernel
theorem dX5_having_53 : decode cX5_having 53 = .ok (.istore_n 3, 1) := by decide +kernel
theorem dX5_having_54 : decode cX5_having 54 = .ok (.iinc 4 1, 3) := by decide +kernel
theorem dX5_having_57 : decode cX5_having 57 = .ok (.goto (-52), 3) := by decide +kernel
theorem dX5_having_60 : decode cX5_having 60 = .ok (.iload_n 3, 1) := by decide +kernel
theorem dX5_having_61 : decode cX5_having 61 = .ok (.ireturn, 1) := by decide +kernel
theorem dX5_amendsOf_0 : decode cX5_amendsOf 0 = .ok (.iload_n 3, 1) := by decide +kernel
theorem dX5_amendsOf_1 : decode cX5_amendsOf 1 = .ok (.iconst 4, 1) := by decide +kernel
theorem dX5_amendsOf_2 : decode cX5_amendsOf 2 = .ok (.if_icmp .ne 12, 3) := by decide +kernel
theorem dX5_amendsOf_5 : decode cX5_amendsOf 5 = .ok (.aload_n 0, 1) := by decide +kernel
theorem dX5_amendsOf_6 : decode cX5_amendsOf 6 = .ok (.iload_n 1, 1) := by decide +kernel
theorem dX5_amendsOf_7 : decode cX5_amendsOf 7 = .ok (.iload_n 2, 1) := by decide +kernel
theorem dX5_amendsOf_8 : decode cX5_amendsOf 8 = .ok (.invokevirtual 153, 3) := by decide +kernel
theorem dX5_amendsOf_11 : decode cX5_amendsOf 11 = .ok (.goto 15, 3) := by decide +kernel
theorem dX5_amendsOf_14 : decode cX5_amendsOf 14 = .ok (.aload_n 0, 1) := by decide +kernel
theorem dX5_amendsOf_15 : decode cX5_amendsOf 15 = .ok (.getfield 7, 3) := by decide +kernel
theorem dX5_amendsOf_18 : decode cX5_amendsOf 18 = .ok (.iload_n 1, 1) := by decide +kernel
theorem dX5_amendsOf_19 : decode cX5_amendsOf 19 = .ok (.iload_n 2, 1) := by decide +kernel
theorem dX5_amendsOf_20 : decode cX5_amendsOf 20 = .ok (.invokestatic 44, 3) := by decide +kernel
theorem dX5_amendsOf_23 : decode cX5_amendsOf 23 = .ok (.iload_n 3, 1) := by decide +kernel
theorem dX5_amendsOf_24 : decode cX5_amendsOf 24 = .ok (.iadd, 1) := by decide +kernel
theorem dX5_amendsOf_25 : decode cX5_amendsOf 25 = .ok (.iaload, 1) := by decide +kernel
theorem dX5_amendsOf_26 : decode cX5_amendsOf 26 = .ok (.ireturn, 1) := by decide +kernel
def f_X5_decide_238 (m238 : XS) (l8_238 : Int32) (t0_238 : Int32) (t1_238 : Int32) : Option (Int32 × XS) :=
    (aset m238 1 442 t1_238 t0_238).bind fun m238 =>
    some (l8_238, m238)
def f_X5_decide_173 (m173 : XS) (l1_173 : Int32) (l2_173 : Int32) (l4_173 : Int32) (l7_173 : Int32) (l8_173 : Int32) (t0_173 : Int32) (t1_173 : Int32) : Option (Int32 × XS) :=
    (aset m173 1 442 t1_173 t0_173).bind fun m173 =>
    (aget 442 (m173 1) 1).bind fun v188 =>
    (aset m173 1 442 (l4_173 + 7) v188).bind fun m189 =>
    (aset m189 1 442 (l4_173 + 9) l8_173).bind fun m201 =>
    if (l8_173 = 1 : Prop) then
      ((f_X5_setPrecedent m201 l1_173 l2_173).bind fun q220 => (fun v220 m220 =>
      f_X5_decide_238 m220 l8_173 v220 (l4_173 + 8)) q220.1 q220.2)
    else
      (if (l8_173 = 2 : Prop) then
        f_X5_decide_238 m201 l8_173 l7_173 (l4_173 + 8)
      else
        f_X5_decide_238 m201 l8_173 (-1) (l4_173 + 8))
def f_X5_decide_135 (m135 : XS) (l1_135 : Int32) (l2_135 : Int32) (l3_135 : Int32) (l4_135 : Int32) (l7_135 : Int32) (t0_135 : Int32) : Option (Int32 × XS) :=
    (f_X5_give m135 l1_135 l2_135).bind fun m140 =>
    (aset m140 1 442 (l4_135 + 3) 1).bind fun m152 =>
    if (t0_135 = 3 : Prop) then
      f_X5_decide_173 m152 l1_135 l2_135 l4_135 l7_135 t0_135 l3_135 (l4_135 + 6)
    else
      f_X5_decide_173 m152 l1_135 l2_135 l4_135 l7_135 t0_135 0 (l4_135 + 6)
def f_X5_decide (m : XS) (a0 : Int32) (a1 : Int32) (a2 : Int32) : Option (Int32 × XS) :=
    (some (ux m 0 6 0)).bind fun m2 =>
    (f_X5_isComplaint m2 a0).bind fun v7 =>
    if (v7 = 0 : Prop) then
      ((f_X5_fails m2 1).bind fun q15 => (fun v15 m15 =>
      some (v15, m15)) q15.1 q15.2)
    else
      ((f_X5_in a2 0 5).bind fun v22 =>
      if (v22 = 0 : Prop) then
        ((f_X5_fails m2 2).bind fun q30 => (fun v30 m30 =>
        some (v30, m30)) q30.1 q30.2)
      else
        ((f_X5_whyDecided m2 a0 a1 a2).bind fun v38 =>
        if (v38 = 0 : Prop) then
          ((f_X5_save m2).bind fun m51 =>
          (f_X5_of a0).bind fun v55 =>
          (aget 442 (m51 1) (v55 + 1)).bind fun v68 =>
          (f_X5_group v68).bind fun v69 =>
          (aget 442 (m51 1) v55).bind fun v81 =>
          (f_X5_binds m51 v81 v69).bind fun v84 =>
          (aget 442 (m51 1) v55).bind fun v96 =>
          (f_X5_latest m51 v96 v69).bind fun v99 =>
          if (v84 = 0 : Prop) then
            f_X5_decide_135 m51 a0 a1 a2 v55 v99 1
          else
            ((aget 442 (m51 1) (130 + (3 * v99))).bind fun v125 =>
            if (v125 = a1 : Prop) then
              f_X5_decide_135 m51 a0 a1 a2 v55 v99 2
            else
              f_X5_decide_135 m51 a0 a1 a2 v55 v99 3))
        else
          ((f_X5_fails m2 3).bind fun q46 => (fun v46 m46 =>
          some (v46, m46)) q46.1 q46.2)))
set_option maxRecDepth 100000 in
set_option maxHeartbeats 4000000 in
theorem p_X5_decide (l : Launch) (E : TE) (x m : XS) (g o : Int64) {a0 : Int32} {a1 : Int32} {a2 : Int32} {r : Int32} {mr : XS} (hf : f_X5_decide m a0 a1 a2 = some (r, mr)) : MG l E yX5_decide cX5_decide 9 (some .int) 5 [rf E 211, .int a0, .int a1, .int a2] (Wd E x m g o) (Wd E x mr g o) (some (.int r)) := by
  unfold f_X5_decide at hf
  refine m_in (by decide) (Nat.le_of_ble_eq_true rfl) ?_
  intro p e s mi args below meth c H ls hx hb hr hlk hml hown hB hK hW hS hl
  have hl : lv_has ls 9 [(0, rf E 211), (1, .int a0), (2, .int a1), (3, .int a2)] := hl
  have J238 : ∀ (m238 : XS) (l8_238 : Int32) (t0_238 : Int32) (t1_238 : Int32) (H : Heap) (locs : List Loc) (ls : Array Slot), f_X5_decide_238 m238 l8_238 t0_238 t1_238 = some (r, mr) → Wd E x m238 g o H → va_S (Ah E) s.heap H locs → lv_has ls 9 [(8, .int l8_238)] → W p l e (rmH 5) s mi args below meth c H locs 0 0 (EQ E below args s (Wd E x mr g o) (some (.int r))) (F0 mi 238 ls [.int t0_238, .int t1_238, rf E 212]) := by
    intro m238 l8_238 t0_238 t1_238 H locs ls hf hW hS hl
    unfold f_X5_decide_238 at hf
    obtain ⟨m238, e238, hf⟩ := ob2 hf
    refine r_iastM (k := 1) hx hb hK hW hS (by decide) (fun _ => cM_1) e238 dX5_decide_238 (fun H locs hW hS => ?_)
    refine lv_iload hx hb dX5_decide_239 (lv_at hl 0 rfl) ?_
    cases hf
    exact e_i hx hb hr hlk hW hS dX5_decide_241
  have J173 : ∀ (m173 : XS) (l1_173 : Int32) (l2_173 : Int32) (l4_173 : Int32) (l7_173 : Int32) (l8_173 : Int32) (t0_173 : Int32) (t1_173 : Int32) (H : Heap) (locs : List Loc) (ls : Array Slot), f_X5_decide_173 m173 l1_173 l2_173 l4_173 l7_173 l8_173 t0_173 t1_173 = some (r, mr) → Wd E x m173 g o H → va_S (Ah E) s.heap H locs → lv_has ls 9 [(0, rf E 211), (1, .int l1_173), (2, .int l2_173), (4, .int l4_173), (7, .int l7_173), (8, .int l8_173)] → W p l e (rmH 5) s mi args below meth c H locs 0 0 (EQ E below args s (Wd E x mr g o) (some (.int r))) (F0 mi 173 ls [.int t0_173, .int t1_173, rf E 212]) := by
    intro m173 l1_173 l2_173 l4_173 l7_173 l8_173 t0_173 t1_173 H locs ls hf hW hS hl
    unfold f_X5_decide_173 at hf
    obtain ⟨m173, e173, hf⟩ := ob2 hf
    refine r_iastM (k := 1) hx hb hK hW hS (by decide) (fun _ => cM_1) e173 dX5_decide_173 (fun H locs hW hS => ?_)
    refine lv_aload_n hx hb dX5_decide_174 rfl (lv_at hl 0 rfl) ?_
    refine gf_X5_7 hx hb hB hK hown hW dX5_decide_175 ?_
    refine lv_iload hx hb dX5_decide_178 (lv_at hl 3 rfl) ?_
    refine lv_bipush (v := 7) hx hb dX5_decide_180 (by decide) ?_
    refine lv_iadd hx hb dX5_decide_182 ?_
    refine lv_aload_n hx hb dX5_decide_183 rfl (lv_at hl 0 rfl) ?_
    refine gf_X5_7 hx hb hB hK hown hW dX5_decide_184 ?_
    refine lv_iconst (v := 1) hx hb dX5_decide_187 (by decide) ?_
    obtain ⟨v188, e188, hf⟩ := ob2 hf
    refine r_iald hx hb hK hW (by decide) (cM_1) e188 dX5_decide_188 ?_
    obtain ⟨m189, e189, hf⟩ := ob2 hf
    refine r_iastM (k := 1) hx hb hK hW hS (by decide) (fun _ => cM_1) e189 dX5_decide_189 (fun H locs hW hS => ?_)
    refine lv_aload_n hx hb dX5_decide_190 rfl (lv_at hl 0 rfl) ?_
    refine gf_X5_7 hx hb hB hK hown hW dX5_decide_191 ?_
    refine lv_iload hx hb dX5_decide_194 (lv_at hl 3 rfl) ?_
    refine lv_bipush (v := 9) hx hb dX5_decide_196 (by decide) ?_
    refine lv_iadd hx hb dX5_decide_198 ?_
    refine lv_iload hx hb dX5_decide_199 (lv_at hl 5 rfl) ?_
    obtain ⟨m201, e201, hf⟩ := ob2 hf
    refine r_iastM (k := 1) hx hb hK hW hS (by decide) (fun _ => cM_1) e201 dX5_decide_201 (fun H locs hW hS => ?_)
    refine lv_aload_n hx hb dX5_decide_202 rfl (lv_at hl 0 rfl) ?_
    refine gf_X5_7 hx hb hB hK hown hW dX5_decide_203 ?_
    refine lv_iload hx hb dX5_decide_206 (lv_at hl 3 rfl) ?_
    refine lv_bipush (v := 8) hx hb dX5_decide_208 (by decide) ?_
    refine lv_iadd hx hb dX5_decide_210 ?_
    refine lv_iload hx hb dX5_decide_211 (lv_at hl 5 rfl) ?_
    refine lv_iconst (v := 1) hx hb dX5_decide_213 (by decide) ?_
    refine lv_icmp_ne (tgt := 226) hx hb dX5_decide_214 (by decide) (fun c214 => ?_) (fun c214 => ?_)
    · rw [if_neg c214] at hf
      refine lv_iload hx hb dX5_decide_226 (lv_at hl 5 rfl) ?_
      refine lv_iconst (v := 2) hx hb dX5_decide_228 (by decide) ?_
      refine lv_icmp_ne (tgt := 237) hx hb dX5_decide_229 (by decide) (fun c229 => ?_) (fun c229 => ?_)
      · rw [if_neg c229] at hf
        refine lv_iconst (v := (-1)) hx hb dX5_decide_237 (by decide) ?_
        exact J238 m201 l8_173 (-1) (l4_173 + 8) _ _ _ hf hW hS (lv_sub hl [5] rfl)
      · rw [if_pos c229] at hf
        refine lv_iload hx hb dX5_decide_232 (lv_at hl 4 rfl) ?_
        refine lv_goto (tgt := 238) hx hb dX5_decide_234 (by decide) ?_
        exact J238 m201 l8_173 l7_173 (l4_173 + 8) _ _ _ hf hW hS (lv_sub hl [5] rfl)
    · rw [if_pos c214] at hf
      refine lv_aload_n hx hb dX5_decide_217 rfl (lv_at hl 0 rfl) ?_
      refine lv_iload_n hx hb dX5_decide_218 rfl (lv_at hl 1 rfl) ?_
      refine lv_iload_n hx hb dX5_decide_219 rfl (lv_at hl 2 rfl) ?_
      obtain ⟨⟨v220, m220⟩, e220, hf⟩ := ob2 hf
      dsimp only at hf
      refine c_V (As := [.int l1_173, .int l2_173]) (st1 := [.int v220, .int (l4_173 + 8), rf E 212]) (rest := [.int (l4_173 + 8), rf E 212]) (p_X5_setPrecedent l E x m201 g o e220) (kc_X5_106 hB ⟨Nat.le_of_ble_eq_true rfl, Nat.le_of_ble_eq_true rfl⟩) (Wd.rec hK hW (by decide) cM_0 (ci := 5) rfl) hx hb hml hown hB hK hW hS ⟨Nat.zero_le _, Nat.zero_le _⟩ rfl hl.1 rfl (Nat.le_of_ble_eq_true rfl) rfl dX5_decide_220 (fun H locs hW hS => ?_)
      refine lv_goto (tgt := 238) hx hb dX5_decide_223 (by decide) ?_
      exact J238 m220 l8_173 v220 (l4_173 + 8) _ _ _ hf hW hS (lv_sub hl [5] rfl)
  have J135 : ∀ (m135 : XS) (l1_135 : Int32) (l2_135 : Int32) (l3_135 : Int32) (l4_135 : Int32) (l7_135 : Int32) (t0_135 : Int32) (H : Heap) (locs : List Loc) (ls : Array Slot), f_X5_decide_135 m135 l1_135 l2_135 l3_135 l4_135 l7_135 t0_135 = some (r, mr) → Wd E x m135 g o H → va_S (Ah E) s.heap H locs → lv_has ls 9 [(0, rf E 211), (1, .int l1_135), (2, .int l2_135), (3, .int l3_135), (4, .int l4_135), (7, .int l7_135)] → W p l e (rmH 5) s mi args below meth c H locs 0 0 (EQ E below args s (Wd E x mr g o) (some (.int r))) (F0 mi 135 ls [.int t0_135]) := by
    intro m135 l1_135 l2_135 l3_135 l4_135 l7_135 t0_135 H locs ls hf hW hS hl
    unfold f_X5_decide_135 at hf
    refine lv_istore (lv' := [(8, .int t0_135), (0, rf E 211), (1, .int l1_135), (2, .int l2_135), (3, .int l3_135), (4, .int l4_135), (7, .int l7_135)]) hx hb dX5_decide_135 hl (by decide) rfl (fun ls hl => ?_)
    refine lv_aload_n hx hb dX5_decide_137 rfl (lv_at hl 1 rfl) ?_
    refine lv_iload_n hx hb dX5_decide_138 rfl (lv_at hl 2 rfl) ?_
    refine lv_iload_n hx hb dX5_decide_139 rfl (lv_at hl 3 rfl) ?_
    obtain ⟨m140, e140, hf⟩ := ob2 hf
    refine c_V (As := [.int l1_135, .int l2_135]) (st1 := []) (rest := []) (p_X5_give l E x m135 g o e140) (kc_X5_102 hB ⟨Nat.le_of_ble_eq_true rfl, Nat.le_of_ble_eq_true rfl⟩) (Wd.rec hK hW (by decide) cM_0 (ci := 5) rfl) hx hb hml hown hB hK hW hS ⟨Nat.zero_le _, Nat.zero_le _⟩ rfl hl.1 rfl (Nat.le_of_ble_eq_true rfl) rfl dX5_decide_140 (fun H locs hW hS => ?_)
    refine lv_aload_n hx hb dX5_decide_143 rfl (lv_at hl 1 rfl) ?_
    refine gf_X5_7 hx hb hB hK hown hW dX5_decide_144 ?_
    refine lv_iload hx hb dX5_decide_147 (lv_at hl 5 rfl) ?_
    refine lv_iconst (v := 3) hx hb dX5_decide_149 (by decide) ?_
    refine lv_iadd hx hb dX5_decide_150 ?_
    refine lv_iconst (v := 1) hx hb dX5_decide_151 (by decide) ?_
    obtain ⟨m152, e152, hf⟩ := ob2 hf
    refine r_iastM (k := 1) hx hb hK hW hS (by decide) (fun _ => cM_1) e152 dX5_decide_152 (fun H locs hW hS => ?_)
    refine lv_aload_n hx hb dX5_decide_153 rfl (lv_at hl 1 rfl) ?_
    refine gf_X5_7 hx hb hB hK hown hW dX5_decide_154 ?_
    refine lv_iload hx hb dX5_decide_157 (lv_at hl 5 rfl) ?_
    refine lv_bipush (v := 6) hx hb dX5_decide_159 (by decide) ?_
    refine lv_iadd hx hb dX5_decide_161 ?_
    refine lv_iload hx hb dX5_decide_162 (lv_at hl 0 rfl) ?_
    refine lv_iconst (v := 3) hx hb dX5_decide_164 (by decide) ?_
    refine lv_icmp_ne (tgt := 172) hx hb dX5_decide_165 (by decide) (fun c165 => ?_) (fun c165 => ?_)
    · rw [if_neg c165] at hf
      refine lv_iconst (v := 0) hx hb dX5_decide_172 (by decide) ?_
      exact J173 m152 l1_135 l2_135 l4_135 l7_135 t0_135 0 (l4_135 + 6) _ _ _ hf hW hS (lv_sub hl [1, 2, 3, 5, 6, 0] rfl)
    · rw [if_pos c165] at hf
      refine lv_iload_n hx hb dX5_decide_168 rfl (lv_at hl 4 rfl) ?_
      refine lv_goto (tgt := 173) hx hb dX5_decide_169 (by decide) ?_
      exact J173 m152 l1_135 l2_135 l4_135 l7_135 t0_135 l3_135 (l4_135 + 6) _ _ _ hf hW hS (lv_sub hl [1, 2, 3, 5, 6, 0] rfl)
  refine lv_aload_n hx hb dX5_decide_0 rfl (lv_at hl 0 rfl) ?_
  refine lv_iconst (v := 0) hx hb dX5_decide_1 (by decide) ?_
  obtain ⟨m2, e2, hf⟩ := ob hf
  refine pf_X5_29 hx hb hB hK hown hW hS e2 dX5_decide_2 (fun H locs hW hS => ?_)
  refine lv_aload_n hx hb dX5_decide_5 rfl (lv_at hl 0 rfl) ?_
  refine lv_iload_n hx hb dX5_decide_6 rfl (lv_at hl 1 rfl) ?_
  obtain ⟨v7, e7, hf⟩ := ob2 hf
  refine c_V (As := [.int a0]) (st1 := [.int v7]) (rest := []) (p_X5_isComplaint l E x m2 g o e7) (kc_X5_99 hB ⟨Nat.le_of_ble_eq_true rfl, Nat.le_of_ble_eq_true rfl⟩) (Wd.rec hK hW (by decide) cM_0 (ci := 5) rfl) hx hb hml hown hB hK hW hS ⟨Nat.zero_le _, Nat.zero_le _⟩ rfl hl.1 rfl (Nat.le_of_ble_eq_true rfl) rfl dX5_decide_7 (fun H locs hW hS => ?_)
  refine lv_if_ne (tgt := 19) hx hb dX5_decide_10 (by decide) (fun c10 => ?_) (fun c10 => ?_)
  · rw [if_neg c10] at hf
    refine lv_iload_n hx hb dX5_decide_19 rfl (lv_at hl 3 rfl) ?_
    refine lv_iconst (v := 0) hx hb dX5_decide_20 (by decide) ?_
    refine lv_iconst (v := 5) hx hb dX5_decide_21 (by decide) ?_
    obtain ⟨v22, e22, hf⟩ := ob2 hf
    refine c_S (As := [.int a2, .int 0, .int 5]) (st1 := [.int v22]) (rest := []) (p_X5_in l E x m2 g o e22) (kc_X5_36 hB ⟨Nat.le_of_ble_eq_true rfl, Nat.le_of_ble_eq_true rfl⟩) hx hb hml hown hB hK hW hS ⟨Nat.zero_le _, Nat.zero_le _⟩ rfl hl.1 rfl (Nat.le_of_ble_eq_true rfl) rfl dX5_decide_22 (fun H locs hW hS => ?_)
    refine lv_if_ne (tgt := 34) hx hb dX5_decide_25 (by decide) (fun c25 => ?_) (fun c25 => ?_)
    · rw [if_neg c25] at hf
      refine lv_aload_n hx hb dX5_decide_34 rfl (lv_at hl 0 rfl) ?_
      refine lv_iload_n hx hb dX5_decide_35 rfl (lv_at hl 1 rfl) ?_
      refine lv_iload_n hx hb dX5_decide_36 rfl (lv_at hl 2 rfl) ?_
      refine lv_iload_n hx hb dX5_decide_37 rfl (lv_at hl 3 rfl) ?_
      obtain ⟨v38, e38, hf⟩ := ob2 hf
      refine c_V (As := [.int a0, .int a1, .int a2]) (st1 := [.int v38]) (rest := []) (p_X5_whyDecided l E x m2 g o e38) (kc_X5_95 hB ⟨Nat.le_of_ble_eq_true rfl, Nat.le_of_ble_eq_true rfl⟩) (Wd.rec hK hW (by decide) cM_0 (ci := 5) rfl) hx hb hml hown hB hK hW hS ⟨Nat.zero_le _, Nat.zero_le _⟩ rfl hl.1 rfl (Nat.le_of_ble_eq_true rfl) rfl dX5_decide_38 (fun H locs hW hS => ?_)
      refine lv_if_eq (tgt := 50) hx hb dX5_decide_41 (by decide) (fun c41 => ?_) (fun c41 => ?_)
      · rw [if_pos c41] at hf
        refine lv_aload_n hx hb dX5_decide_50 rfl (lv_at hl 0 rfl) ?_
        obtain ⟨m51, e51, hf⟩ := ob2 hf
        refine c_V (As := []) (st1 := []) (rest := []) (p_X5_save l E x m2 g o e51) (kc_X5_67 hB ⟨Nat.le_of_ble_eq_true rfl, Nat.le_of_ble_eq_true rfl⟩) (Wd.rec hK hW (by decide) cM_0 (ci := 5) rfl) hx hb hml hown hB hK hW hS ⟨Nat.zero_le _, Nat.zero_le _⟩ rfl hl.1 rfl (Nat.le_of_ble_eq_true rfl) rfl dX5_decide_51 (fun H locs hW hS => ?_)
        refine lv_iload_n hx hb dX5_decide_54 rfl (lv_at hl 1 rfl) ?_
        obtain ⟨v55, e55, hf⟩ := ob2 hf
        refine c_S (As := [.int a0]) (st1 := [.int v55]) (rest := []) (p_X5_of l E x m51 g o e55) (kc_X5_54 hB ⟨Nat.le_of_ble_eq_true rfl, Nat.le_of_ble_eq_true rfl⟩) hx hb hml hown hB hK hW hS ⟨Nat.zero_le _, Nat.zero_le _⟩ rfl hl.1 rfl (Nat.le_of_ble_eq_true rfl) rfl dX5_decide_55 (fun H locs hW hS => ?_)
        refine lv_istore (lv' := [(4, .int v55), (0, rf E 211), (1, .int a0), (2, .int a1), (3, .int a2)]) hx hb dX5_decide_58 hl (by decide) rfl (fun ls hl => ?_)
        refine lv_aload_n hx hb dX5_decide_60 rfl (lv_at hl 1 rfl) ?_
        refine gf_X5_7 hx hb hB hK hown hW dX5_decide_61 ?_
        refine lv_iload hx hb dX5_decide_64 (lv_at hl 0 rfl) ?_
        refine lv_iconst (v := 1) hx hb dX5_decide_66 (by decide) ?_
        refine lv_iadd hx hb dX5_decide_67 ?_
        obtain ⟨v68, e68, hf⟩ := ob2 hf
        refine r_iald hx hb hK hW (by decide) (cM_1) e68 dX5_decide_68 ?_
        obtain ⟨v69, e69, hf⟩ := ob2 hf
        refine c_S (As := [.int v68]) (st1 := [.int v69]) (rest := []) (p_X5_group l E x m51 g o e69) (kc_X5_80 hB ⟨Nat.le_of_ble_eq_true rfl, Nat.le_of_ble_eq_true rfl⟩) hx hb hml hown hB hK hW hS ⟨Nat.zero_le _, Nat.zero_le _⟩ rfl hl.1 rfl (Nat.le_of_ble_eq_true rfl) rfl dX5_decide_69 (fun H locs hW hS => ?_)
        refine lv_istore (lv' := [(5, .int v69), (4, .int v55), (0, rf E 211), (1, .int a0), (2, .int a1), (3, .int a2)]) hx hb dX5_decide_72 hl (by decide) rfl (fun ls hl => ?_)
        refine lv_aload_n hx hb dX5_decide_74 rfl (lv_at hl 2 rfl) ?_
        refine lv_aload_n hx hb dX5_decide_75 rfl (lv_at hl 2 rfl) ?_
        refine gf_X5_7 hx hb hB hK hown hW dX5_decide_76 ?_
        refine lv_iload hx hb dX5_decide_79 (lv_at hl 1 rfl) ?_
        obtain ⟨v81, e81, hf⟩ := ob2 hf
        refine r_iald hx hb hK hW (by decide) (cM_1) e81 dX5_decide_81 ?_
        refine lv_iload hx hb dX5_decide_82 (lv_at hl 0 rfl) ?_
        obtain ⟨v84, e84, hf⟩ := ob2 hf
        refine c_V (As := [.int v81, .int v69]) (st1 := [.int v84]) (rest := []) (p_X5_binds l E x m51 g o e84) (kc_X5_86 hB ⟨Nat.le_of_ble_eq_true rfl, Nat.le_of_ble_eq_true rfl⟩) (Wd.rec hK hW (by decide) cM_0 (ci := 5) rfl) hx hb hml hown hB hK hW hS ⟨Nat.zero_le _, Nat.zero_le _⟩ rfl hl.1 rfl (Nat.le_of_ble_eq_true rfl) rfl dX5_decide_84 (fun H locs hW hS => ?_)
        refine lv_istore (lv' := [(6, .int v84), (5, .int v69), (4, .int v55), (0, rf E 211), (1, .int a0), (2, .int a1), (3, .int a2)]) hx hb dX5_decide_87 hl (by decide) rfl (fun ls hl => ?_)
        refine lv_aload_n hx hb dX5_decide_89 rfl (lv_at hl 3 rfl) ?_
        refine lv_aload_n hx hb dX5_decide_90 rfl (lv_at hl 3 rfl) ?_
        refine gf_X5_7 hx hb hB hK hown hW dX5_decide_91 ?_
        refine lv_iload hx hb dX5_decide_94 (lv_at hl 2 rfl) ?_
        obtain ⟨v96, e96, hf⟩ := ob2 hf
        refine r_iald hx hb hK hW (by decide) (cM_1) e96 dX5_decide_96 ?_
        refine lv_iload hx hb dX5_decide_97 (lv_at hl 1 rfl) ?_
        obtain ⟨v99, e99, hf⟩ := ob2 hf
        refine c_V (As := [.int v96, .int v69]) (st1 := [.int v99]) (rest := []) (p_X5_latest l E x m51 g o e99) (kc_X5_48 hB ⟨Nat.le_of_ble_eq_true rfl, Nat.le_of_ble_eq_true rfl⟩) (Wd.rec hK hW (by decide) cM_0 (ci := 5) rfl) hx hb hml hown hB hK hW hS ⟨Nat.zero_le _, Nat.zero_le _⟩ rfl hl.1 rfl (Nat.le_of_ble_eq_true rfl) rfl dX5_decide_99 (fun H locs hW hS => ?_)
        refine lv_istore (lv' := [(7, .int v99), (6, .int v84), (5, .int v69), (4, .int v55), (0, rf E 211), (1, .int a0), (2, .int a1), (3, .int a2)]) hx hb dX5_decide_102 hl (by decide) rfl (fun ls hl => ?_)
        refine lv_iload hx hb dX5_decide_104 (lv_at hl 1 rfl) ?_
        refine lv_if_ne (tgt := 113) hx hb dX5_decide_106 (by decide) (fun c106 => ?_) (fun c106 => ?_)
        · rw [if_neg c106] at hf
          refine lv_aload_n hx hb dX5_decide_113 rfl (lv_at hl 4 rfl) ?_
          refine gf_X5_7 hx hb hB hK hown hW dX5_decide_114 ?_
          refine lv_sipush (v := 130) hx hb dX5_decide_117 (by decide) ?_
          refine lv_iconst (v := 3) hx hb dX5_decide_120 (by decide) ?_
          refine lv_iload hx hb dX5_decide_121 (lv_at hl 0 rfl) ?_
          refine lv_imul hx hb dX5_decide_123 ?_
          refine lv_iadd hx hb dX5_decide_124 ?_
          obtain ⟨v125, e125, hf⟩ := ob2 hf
          refine r_iald hx hb hK hW (by decide) (cM_1) e125 dX5_decide_125 ?_
          refine lv_iload_n hx hb dX5_decide_126 rfl (lv_at hl 6 rfl) ?_
          refine lv_icmp_ne (tgt := 134) hx hb dX5_decide_127 (by decide) (fun c127 => ?_) (fun c127 => ?_)
          · rw [if_neg c127] at hf
            refine lv_iconst (v := 3) hx hb dX5_decide_134 (by decide) ?_
            exact J135 m51 a0 a1 a2 v55 v99 3 _ _ _ hf hW hS (lv_sub hl [4, 5, 6, 7, 3, 0] rfl)
          · rw [if_pos c127] at hf
            refine lv_iconst (v := 2) hx hb dX5_decide_130 (by decide) ?_
            refine lv_goto (tgt := 135) hx hb dX5_decide_131 (by decide) ?_
            exact J135 m51 a0 a1 a2 v55 v99 2 _ _ _ hf hW hS (lv_sub hl [4, 5, 6, 7, 3, 0] rfl)
        · rw [if_pos c106] at hf
          refine lv_iconst (v := 1) hx hb dX5_decide_109 (by decide) ?_
          refine lv_goto (tgt := 135) hx hb dX5_decide_110 (by decide) ?_
          exact J135 m51 a0 a1 a2 v55 v99 1 _ _ _ hf hW hS (lv_sub hl [4, 5, 6, 7, 3, 0] rfl)
      · rw [if_neg c41] at hf
        refine lv_aload_n hx hb dX5_decide_44 rfl (lv_at hl 0 rfl) ?_
        refine lv_iconst (v := 3) hx hb dX5_decide_45 (by decide) ?_
        obtain ⟨⟨v46, m46⟩, e46, hf⟩ := ob2 hf
        dsimp only at hf
        refine c_V (As := [.int 3]) (st1 := [.int v46]) (rest := []) (p_X5_fails l E x m2 g o e46) (kc_X5_64 hB ⟨Nat.le_of_ble_eq_true rfl, Nat.le_of_ble_eq_true rfl⟩) (Wd.rec hK hW (by decide) cM_0 (ci := 5) rfl) hx hb hml hown hB hK hW hS ⟨Nat.zero_le _, Nat.zero_le _⟩ rfl hl.1 rfl (Nat.le_of_ble_eq_true rfl) rfl dX5_decide_46 (fun H locs hW hS => ?_)
        cases hf
        exact e_i hx hb hr hlk hW hS dX5_decide_49
    · rw [if_pos c25] at hf
      refine lv_aload_n hx hb dX5_decide_28 rfl (lv_at hl 0 rfl) ?_
      refine lv_iconst (v := 2) hx hb dX5_decide_29 (by decide) ?_
      obtain ⟨⟨v30, m30⟩, e30, hf⟩ := ob2 hf
      dsimp only at hf
      refine c_V (As := [.int 2]) (st1 := [.int v30]) (rest := []) (p_X5_fails l E x m2 g o e30) (kc_X5_64 hB ⟨Nat.le_of_ble_eq_true rfl, Nat.le_of_ble_eq_true rfl⟩) (Wd.rec hK hW (by decide) cM_0 (ci := 5) rfl) hx hb hml hown hB hK hW hS ⟨Nat.zero_le _, Nat.zero_le _⟩ rfl hl.1 rfl (Nat.le_of_ble_eq_true rfl) rfl dX5_decide_30 (fun H locs hW hS => ?_)
      cases hf
      exact e_i hx hb hr hlk hW hS dX5_decide_33
  · rw [if_pos c10] at hf
    refine lv_aload_n hx hb dX5_decide_13 rfl (lv_at hl 0 rfl) ?_
    refine lv_iconst (v := 1) hx hb dX5_decide_14 (by decide) ?_
    obtain ⟨⟨v15, m15⟩, e15, hf⟩ := ob2 hf
    dsimp only at hf
    refine c_V (As := [.int 1]) (st1 := [.int v15]) (rest := []) (p_X5_fails l E x m2 g o e15) (kc_X5_64 hB ⟨Nat.le_of_ble_eq_true rfl, Nat.le_of_ble_eq_true rfl⟩) (Wd.rec hK hW (by decide) cM_0 (ci := 5) rfl) hx hb hml hown hB hK hW hS ⟨Nat.zero_le _, Nat.zero_le _⟩ rfl hl.1 rfl (Nat.le_of_ble_eq_true rfl) rfl dX5_decide_15 (fun H locs hW hS => ?_)
    cases hf
    exact e_i hx hb hr hlk hW hS dX5_decide_18
def f_X5_staged_35 (m : XS) (k4 : Int32 → Int32 → Int32 → Option (Int32)) (l1_35 : Int32) (l3_35 : Int32) (t0_35 : Int32) (t1_35 : Int32) : Option (Int32) :=
    (some ((t1_35 + t0_35))).bind fun v36 =>
    (some (l3_35 + 1)).bind fun v37 =>
    k4 l1_35 v36 v37
def f_X5_staged_4 (m : XS) : Nat → Int32 → Int32 → Int32 → Option (Int32)
  | 0, _, _, _ => none
  | n4 + 1, l1_4, l2_4, l3_4 =>
    (aget 442 (m 1) 0).bind fun v10 =>
    if (v10 ≤ l3_4 : Prop) then
      some l2_4
    else
      ((f_X5_of l3_4).bind fun v20 =>
      (aget 442 (m 1) (v20 + 3)).bind fun v25 =>
      if (v25 = l1_4 : Prop) then
        f_X5_staged_35 m (f_X5_staged_4 m n4) l1_4 l3_4 1 l2_4
      else
        f_X5_staged_35 m (f_X5_staged_4 m n4) l1_4 l3_4 0 l2_4)
def f_X5_staged (m : XS) (a0 : Int32) : Option (Int32) :=
    f_X5_staged_4 m 4096 a0 0 0
set_option maxRecDepth 100000 in
set_option maxHeartbeats 4000000 in
theorem p_X5_staged (l : Launch) (E : TE) (x m : XS) (g o : Int64) {a0 : Int32} {r : Int32} (hf : f_X5_staged m a0 = some r) : MG l E yX5_staged cX5_staged 4 (some .int) 1 [rf E 211, .int a0] (Wd E x m g o) (Wd E x m g o) (some (.int r)) := by
  unfold f_X5_staged at hf
  refine m_in (by decide) (Nat.le_of_ble_eq_true rfl) ?_
  intro p e s mi args below meth c H ls hx hb hr hlk hml hown hB hK hW hS hl
  have hl : lv_has ls 4 [(0, rf E 211), (1, .int a0)] := hl
  have J4 : ∀ (n4 : Nat), ∀ (l1_4 : Int32) (l2_4 : Int32) (l3_4 : Int32) (H : Heap) (locs : List Loc) (ls : Array Slot), f_X5_staged_4 m n4 l1_4 l2_4 l3_4 = some r → Wd E x m g o H → va_S (Ah E) s.heap H locs → lv_has ls 4 [(0, rf E 211), (1, .int l1_4), (2, .int l2_4), (3, .int l3_4)] → W p l e (rmH 1) s mi args below meth c H locs 0 0 (EQ E below args s (Wd E x m g o) (some (.int r))) (F0 mi 4 ls []) := by
    intro n4
    induction n4 with
    | zero => intro l1_4 l2_4 l3_4 H locs ls hf; exact absurd hf (fun z => nomatch (show (none : Option (Int32)) = some _ from z))
    | succ n4 ih4 =>
      intro l1_4 l2_4 l3_4 H locs ls hf hW hS hl
      rw [f_X5_staged_4.eq_2] at hf
      have J35 : ∀ (l1_35 : Int32) (l3_35 : Int32) (t0_35 : Int32) (t1_35 : Int32) (H : Heap) (locs : List Loc) (ls : Array Slot), f_X5_staged_35 m (f_X5_staged_4 m n4) l1_35 l3_35 t0_35 t1_35 = some r → Wd E x m g o H → va_S (Ah E) s.heap H locs → lv_has ls 4 [(0, rf E 211), (1, .int l1_35), (3, .int l3_35)] → W p l e (rmH 1) s mi args below meth c H locs 0 0 (EQ E below args s (Wd E x m g o) (some (.int r))) (F0 mi 35 ls [.int t0_35, .int t1_35]) := by
        intro l1_35 l3_35 t0_35 t1_35 H locs ls hf hW hS hl
        unfold f_X5_staged_35 at hf
        refine lv_iadd hx hb dX5_staged_35 ?_
        obtain ⟨v36, e36, hf⟩ := ob hf
        refine lv_nm e36 ?_
        refine lv_istore_n (lv' := [(2, .int v36), (0, rf E 211), (1, .int l1_35), (3, .int l3_35)]) hx hb dX5_staged_36 rfl hl (by decide) rfl (fun ls hl => ?_)
        obtain ⟨v37, e37, hf⟩ := ob hf
        refine lv_iinc (v := v37) (lv' := [(3, .int v37), (2, .int v36), (0, rf E 211), (1, .int l1_35)]) hx hb dX5_staged_37 hl (k := 3) rfl (by rw [e37]; rfl) (by decide) rfl (fun ls hl => ?_)
        refine lv_goto (tgt := 4) hx hb dX5_staged_40 (by decide) ?_
        exact ih4 l1_35 v36 v37 _ _ _ hf hW hS (lv_sub hl [2, 3, 1, 0] rfl)
      refine lv_iload_n hx hb dX5_staged_4 rfl (lv_at hl 3 rfl) ?_
      refine lv_aload_n hx hb dX5_staged_5 rfl (lv_at hl 0 rfl) ?_
      refine gf_X5_7 hx hb hB hK hown hW dX5_staged_6 ?_
      refine lv_iconst (v := 0) hx hb dX5_staged_9 (by decide) ?_
      obtain ⟨v10, e10, hf⟩ := ob2 hf
      refine r_iald hx hb hK hW (by decide) (cM_1) e10 dX5_staged_10 ?_
      refine lv_icmp_ge (tgt := 43) hx hb dX5_staged_11 (by decide) (fun c11 => ?_) (fun c11 => ?_)
      · rw [if_pos c11] at hf
        refine lv_iload_n hx hb dX5_staged_43 rfl (lv_at hl 2 rfl) ?_
        cases hf
        exact e_i hx hb hr hlk hW hS dX5_staged_44
      · rw [if_neg c11] at hf
        refine lv_iload_n hx hb dX5_staged_14 rfl (lv_at hl 2 rfl) ?_
        refine lv_aload_n hx hb dX5_staged_15 rfl (lv_at hl 0 rfl) ?_
        refine gf_X5_7 hx hb hB hK hown hW dX5_staged_16 ?_
        refine lv_iload_n hx hb dX5_staged_19 rfl (lv_at hl 3 rfl) ?_
        obtain ⟨v20, e20, hf⟩ := ob2 hf
        refine c_S (As := [.int l3_4]) (st1 := [.int v20, rf E 212, .int l2_4]) (rest := [rf E 212, .int l2_4]) (p_X5_of l E x m g o e20) (kc_X5_54 hB ⟨Nat.le_of_ble_eq_true rfl, Nat.le_of_ble_eq_true rfl⟩) hx hb hml hown hB hK hW hS ⟨Nat.zero_le _, Nat.zero_le _⟩ rfl hl.1 rfl (Nat.le_of_ble_eq_true rfl) rfl dX5_staged_20 (fun H locs hW hS => ?_)
        refine lv_iconst (v := 3) hx hb dX5_staged_23 (by decide) ?_
        refine lv_iadd hx hb dX5_staged_24 ?_
        obtain ⟨v25, e25, hf⟩ := ob2 hf
        refine r_iald hx hb hK hW (by decide) (cM_1) e25 dX5_staged_25 ?_
        refine lv_iload_n hx hb dX5_staged_26 rfl (lv_at hl 1 rfl) ?_
        refine lv_icmp_ne (tgt := 34) hx hb dX5_staged_27 (by decide) (fun c27 => ?_) (fun c27 => ?_)
        · rw [if_neg c27] at hf
          refine lv_iconst (v := 0) hx hb dX5_staged_34 (by decide) ?_
          exact J35 l1_4 l3_4 0 l2_4 _ _ _ hf hW hS (lv_sub hl [0, 1, 3] rfl)
        · rw [if_pos c27] at hf
          refine lv_iconst (v := 1) hx hb dX5_staged_30 (by decide) ?_
          refine lv_goto (tgt := 35) hx hb dX5_staged_31 (by decide) ?_
          exact J35 l1_4 l3_4 1 l2_4 _ _ _ hf hW hS (lv_sub hl [0, 1, 3] rfl)
  refine lv_iconst (v := 0) hx hb dX5_staged_0 (by decide) ?_
  refine lv_istore_n (lv' := [(2, .int 0), (0, rf E 211), (1, .int a0)]) hx hb dX5_staged_1 rfl hl (by decide) rfl (fun ls hl => ?_)
  refine lv_iconst (v := 0) hx hb dX5_staged_2 (by decide) ?_
  refine lv_istore_n (lv' := [(3, .int 0), (2, .int 0), (0, rf E 211), (1, .int a0)]) hx hb dX5_staged_3 rfl hl (by decide) rfl (fun ls hl => ?_)
  exact J4 4096 a0 0 0 _ _ _ hf hW hS (lv_sub hl [2, 3, 1, 0] rfl)
def f_X5_appeal_62 (m62 : XS) : Option (Int32 × XS) :=
    (f_X5_fails m62 2).bind fun q64 => (fun v64 m64 =>
    some (v64, m64)) q64.1 q64.2
def f_X5_appeal (m : XS) (a0 : Int32) : Option (Int32 × XS) :=
    (some (ux m 0 6 0)).bind fun m2 =>
    (f_X5_isComplaint m2 a0).bind fun v7 =>
    if (v7 = 0 : Prop) then
      ((f_X5_fails m2 1).bind fun q15 => (fun v15 m15 =>
      some (v15, m15)) q15.1 q15.2)
    else
      ((f_X5_of a0).bind fun v24 =>
      (aget 442 (m2 1) (v24 + 3)).bind fun v29 =>
      if (v29 = 1 : Prop) then
        ((aget 442 (m2 1) 1).bind fun v39 =>
        (f_X5_of a0).bind fun v45 =>
        (aget 442 (m2 1) (v45 + 7)).bind fun v51 =>
        (aget 442 (m2 1) 3).bind fun v57 =>
        if (v39 ≤ (v51 + v57) : Prop) then
          ((f_X5_save m2).bind fun m69 =>
          (f_X5_of a0).bind fun v77 =>
          (aset m69 1 442 (v77 + 3) 2).bind fun m83 =>
          (f_X5_staged m83 2).bind fun v86 =>
          some (v86, m83))
        else
          f_X5_appeal_62 m2)
      else
        f_X5_appeal_62 m2)
set_option maxRecDepth 100000 in
set_option maxHeartbeats 4000000 in
theorem p_X5_appeal (l : Launch) (E : TE) (x m : XS) (g o : Int64) {a0 : Int32} {r : Int32} {mr : XS} (hf : f_X5_appeal m a0 = some (r, mr)) : MG l E yX5_appeal cX5_appeal 2 (some .int) 2 [rf E 211, .int a0] (Wd E x m g o) (Wd E x mr g o) (some (.int r)) := by
  unfold f_X5_appeal at hf
  refine m_in (by decide) (Nat.le_of_ble_eq_true rfl) ?_
  intro p e s mi args below meth c H ls hx hb hr hlk hml hown hB hK hW hS hl
  have hl : lv_has ls 2 [(0, rf E 211), (1, .int a0)] := hl
  have J62 : ∀ (m62 : XS) (H : Heap) (locs : List Loc) (ls : Array Slot), f_X5_appeal_62 m62 = some (r, mr) → Wd E x m62 g o H → va_S (Ah E) s.heap H locs → lv_has ls 2 [(0, rf E 211)] → W p l e (rmH 2) s mi args below meth c H locs 0 0 (EQ E below args s (Wd E x mr g o) (some (.int r))) (F0 mi 62 ls []) := by
    intro m62 H locs ls hf hW hS hl
    unfold f_X5_appeal_62 at hf
    refine lv_aload_n hx hb dX5_appeal_62 rfl (lv_at hl 0 rfl) ?_
    refine lv_iconst (v := 2) hx hb dX5_appeal_63 (by decide) ?_
    obtain ⟨⟨v64, m64⟩, e64, hf⟩ := ob2 hf
    dsimp only at hf
    refine c_V (As := [.int 2]) (st1 := [.int v64]) (rest := []) (p_X5_fails l E x m62 g o e64) (kc_X5_64 hB ⟨Nat.le_of_ble_eq_true rfl, Nat.le_of_ble_eq_true rfl⟩) (Wd.rec hK hW (by decide) cM_0 (ci := 5) rfl) hx hb hml hown hB hK hW hS ⟨Nat.zero_le _, Nat.zero_le _⟩ rfl hl.1 rfl (Nat.le_of_ble_eq_true rfl) rfl dX5_appeal_64 (fun H locs hW hS => ?_)
    cases hf
    exact e_i hx hb hr hlk hW hS dX5_appeal_67
  refine lv_aload_n hx hb dX5_appeal_0 rfl (lv_at hl 0 rfl) ?_
  refine lv_iconst (v := 0) hx hb dX5_appeal_1 (by decide) ?_
  obtain ⟨m2, e2, hf⟩ := ob hf
  refine pf_X5_29 hx hb hB hK hown hW hS e2 dX5_appeal_2 (fun H locs hW hS => ?_)
  refine lv_aload_n hx hb dX5_appeal_5 rfl (lv_at hl 0 rfl) ?_
  refine lv_iload_n hx hb dX5_appeal_6 rfl (lv_at hl 1 rfl) ?_
  obtain ⟨v7, e7, hf⟩ := ob2 hf
  refine c_V (As := [.int a0]) (st1 := [.int v7]) (rest := []) (p_X5_isComplaint l E x m2 g o e7) (kc_X5_99 hB ⟨Nat.le_of_ble_eq_true rfl, Nat.le_of_ble_eq_true rfl⟩) (Wd.rec hK hW (by decide) cM_0 (ci := 5) rfl) hx hb hml hown hB hK hW hS ⟨Nat.zero_le _, Nat.zero_le _⟩ rfl hl.1 rfl (Nat.le_of_ble_eq_true rfl) rfl dX5_appeal_7 (fun H locs hW hS => ?_)
  refine lv_if_ne (tgt := 19) hx hb dX5_appeal_10 (by decide) (fun c10 => ?_) (fun c10 => ?_)
  · rw [if_neg c10] at hf
    refine lv_aload_n hx hb dX5_appeal_19 rfl (lv_at hl 0 rfl) ?_
    refine gf_X5_7 hx hb hB hK hown hW dX5_appeal_20 ?_
    refine lv_iload_n hx hb dX5_appeal_23 rfl (lv_at hl 1 rfl) ?_
    obtain ⟨v24, e24, hf⟩ := ob2 hf
    refine c_S (As := [.int a0]) (st1 := [.int v24, rf E 212]) (rest := [rf E 212]) (p_X5_of l E x m2 g o e24) (kc_X5_54 hB ⟨Nat.le_of_ble_eq_true rfl, Nat.le_of_ble_eq_true rfl⟩) hx hb hml hown hB hK hW hS ⟨Nat.zero_le _, Nat.zero_le _⟩ rfl hl.1 rfl (Nat.le_of_ble_eq_true rfl) rfl dX5_appeal_24 (fun H locs hW hS => ?_)
    refine lv_iconst (v := 3) hx hb dX5_appeal_27 (by decide) ?_
    refine lv_iadd hx hb dX5_appeal_28 ?_
    obtain ⟨v29, e29, hf⟩ := ob2 hf
    refine r_iald hx hb hK hW (by decide) (cM_1) e29 dX5_appeal_29 ?_
    refine lv_iconst (v := 1) hx hb dX5_appeal_30 (by decide) ?_
    refine lv_icmp_ne (tgt := 62) hx hb dX5_appeal_31 (by decide) (fun c31 => ?_) (fun c31 => ?_)
    · rw [if_neg c31] at hf
      exact J62 m2 _ _ _ hf hW hS (lv_sub hl [0] rfl)
    · rw [if_pos c31] at hf
      refine lv_aload_n hx hb dX5_appeal_34 rfl (lv_at hl 0 rfl) ?_
      refine gf_X5_7 hx hb hB hK hown hW dX5_appeal_35 ?_
      refine lv_iconst (v := 1) hx hb dX5_appeal_38 (by decide) ?_
      obtain ⟨v39, e39, hf⟩ := ob2 hf
      refine r_iald hx hb hK hW (by decide) (cM_1) e39 dX5_appeal_39 ?_
      refine lv_aload_n hx hb dX5_appeal_40 rfl (lv_at hl 0 rfl) ?_
      refine gf_X5_7 hx hb hB hK hown hW dX5_appeal_41 ?_
      refine lv_iload_n hx hb dX5_appeal_44 rfl (lv_at hl 1 rfl) ?_
      obtain ⟨v45, e45, hf⟩ := ob2 hf
      refine c_S (As := [.int a0]) (st1 := [.int v45, rf E 212, .int v39]) (rest := [rf E 212, .int v39]) (p_X5_of l E x m2 g o e45) (kc_X5_54 hB ⟨Nat.le_of_ble_eq_true rfl, Nat.le_of_ble_eq_true rfl⟩) hx hb hml hown hB hK hW hS ⟨Nat.zero_le _, Nat.zero_le _⟩ rfl hl.1 rfl (Nat.le_of_ble_eq_true rfl) rfl dX5_appeal_45 (fun H locs hW hS => ?_)
      refine lv_bipush (v := 7) hx hb dX5_appeal_48 (by decide) ?_
      refine lv_iadd hx hb dX5_appeal_50 ?_
      obtain ⟨v51, e51, hf⟩ := ob2 hf
      refine r_iald hx hb hK hW (by decide) (cM_1) e51 dX5_appeal_51 ?_
      refine lv_aload_n hx hb dX5_appeal_52 rfl (lv_at hl 0 rfl) ?_
      refine gf_X5_7 hx hb hB hK hown hW dX5_appeal_53 ?_
      refine lv_iconst (v := 3) hx hb dX5_appeal_56 (by decide) ?_
      obtain ⟨v57, e57, hf⟩ := ob2 hf
      refine r_iald hx hb hK hW (by decide) (cM_1) e57 dX5_appeal_57 ?_
      refine lv_iadd hx hb dX5_appeal_58 ?_
      refine lv_icmp_le (tgt := 68) hx hb dX5_appeal_59 (by decide) (fun c59 => ?_) (fun c59 => ?_)
      · rw [if_pos c59] at hf
        refine lv_aload_n hx hb dX5_appeal_68 rfl (lv_at hl 0 rfl) ?_
        obtain ⟨m69, e69, hf⟩ := ob2 hf
        refine c_V (As := []) (st1 := []) (rest := []) (p_X5_save l E x m2 g o e69) (kc_X5_67 hB ⟨Nat.le_of_ble_eq_true rfl, Nat.le_of_ble_eq_true rfl⟩) (Wd.rec hK hW (by decide) cM_0 (ci := 5) rfl) hx hb hml hown hB hK hW hS ⟨Nat.zero_le _, Nat.zero_le _⟩ rfl hl.1 rfl (Nat.le_of_ble_eq_true rfl) rfl dX5_appeal_69 (fun H locs hW hS => ?_)
        refine lv_aload_n hx hb dX5_appeal_72 rfl (lv_at hl 0 rfl) ?_
        refine gf_X5_7 hx hb hB hK hown hW dX5_appeal_73 ?_
        refine lv_iload_n hx hb dX5_appeal_76 rfl (lv_at hl 1 rfl) ?_
        obtain ⟨v77, e77, hf⟩ := ob2 hf
        refine c_S (As := [.int a0]) (st1 := [.int v77, rf E 212]) (rest := [rf E 212]) (p_X5_of l E x m69 g o e77) (kc_X5_54 hB ⟨Nat.le_of_ble_eq_true rfl, Nat.le_of_ble_eq_true rfl⟩) hx hb hml hown hB hK hW hS ⟨Nat.zero_le _, Nat.zero_le _⟩ rfl hl.1 rfl (Nat.le_of_ble_eq_true rfl) rfl dX5_appeal_77 (fun H locs hW hS => ?_)
        refine lv_iconst (v := 3) hx hb dX5_appeal_80 (by decide) ?_
        refine lv_iadd hx hb dX5_appeal_81 ?_
        refine lv_iconst (v := 2) hx hb dX5_appeal_82 (by decide) ?_
        obtain ⟨m83, e83, hf⟩ := ob2 hf
        refine r_iastM (k := 1) hx hb hK hW hS (by decide) (fun _ => cM_1) e83 dX5_appeal_83 (fun H locs hW hS => ?_)
        refine lv_aload_n hx hb dX5_appeal_84 rfl (lv_at hl 0 rfl) ?_
        refine lv_iconst (v := 2) hx hb dX5_appeal_85 (by decide) ?_
        obtain ⟨v86, e86, hf⟩ := ob2 hf
        refine c_V (As := [.int 2]) (st1 := [.int v86]) (rest := []) (p_X5_staged l E x m83 g o e86) (kc_X5_109 hB ⟨Nat.le_of_ble_eq_true rfl, Nat.le_of_ble_eq_true rfl⟩) (Wd.rec hK hW (by decide) cM_0 (ci := 5) rfl) hx hb hml hown hB hK hW hS ⟨Nat.zero_le _, Nat.zero_le _⟩ rfl hl.1 rfl (Nat.le_of_ble_eq_true rfl) rfl dX5_appeal_86 (fun H locs hW hS => ?_)
        cases hf
        exact e_i hx hb hr hlk hW hS dX5_appeal_89
      · rw [if_neg c59] at hf
        exact J62 m2 _ _ _ hf hW hS (lv_sub hl [0] rfl)
  · rw [if_pos c10] at hf
    refine lv_aload_n hx hb dX5_appeal_13 rfl (lv_at hl 0 rfl) ?_
    refine lv_iconst (v := 1) hx hb dX5_appeal_14 (by decide) ?_
    obtain ⟨⟨v15, m15⟩, e15, hf⟩ := ob2 hf
    dsimp only at hf
    refine c_V (As := [.int 1]) (st1 := [.int v15]) (rest := []) (p_X5_fails l E x m2 g o e15) (kc_X5_64 hB ⟨Nat.le_of_ble_eq_true rfl, Nat.le_of_ble_eq_true rfl⟩) (Wd.rec hK hW (by decide) cM_0 (ci := 5) rfl) hx hb hml hown hB hK hW hS ⟨Nat.zero_le _, Nat.zero_le _⟩ rfl hl.1 rfl (Nat.le_of_ble_eq_true rfl) rfl dX5_appeal_15 (fun H locs hW hS => ?_)
    cases hf
    exact e_i hx hb hr hlk hW hS dX5_appeal_18
def f_X5_topUps_125 (k9 : XS → Int32 → Int32 → Int32 → Option (Int32 × XS)) (m125 : XS) (l1_125 : Int32) (l2_125 : Int32) (l3_125 : Int32) : Option (Int32 × XS) :=
    (some (l3_125 + 1)).bind fun v125 =>
    k9 m125 l1_125 l2_125 v125
def f_X5_topUps_75 (k9 : XS → Int32 → Int32 → Int32 → Option (Int32 × XS)) (m75 : XS) (l1_75 : Int32) (l2_75 : Int32) (l3_75 : Int32) (l4_75 : Int32) (t0_75 : Int32) : Option (Int32 × XS) :=
    if (t0_75 = 0 : Prop) then
      f_X5_topUps_125 k9 m75 l1_75 l2_75 l3_75
    else
      ((f_X5_of l3_75).bind fun v97 =>
      (aget 442 (m75 1) (v97 + 8)).bind fun v103 =>
      (aget 442 (m75 1) (130 + (3 * v103))).bind fun v106 =>
      (f_X5_give m75 l3_75 v106).bind fun m107 =>
      (some ((l2_75 + l4_75))).bind fun v114 =>
      (some (ux m107 0 7 ((m107 0 7) + 1))).bind fun m122 =>
      f_X5_topUps_125 k9 m122 l1_75 v114 l3_75)
def f_X5_topUps_74 (k9 : XS → Int32 → Int32 → Int32 → Option (Int32 × XS)) (m74 : XS) (l1_74 : Int32) (l2_74 : Int32) (l3_74 : Int32) (l4_74 : Int32) : Option (Int32 × XS) :=
    f_X5_topUps_75 k9 m74 l1_74 l2_74 l3_74 l4_74 0
def f_X5_topUps_52 (k9 : XS → Int32 → Int32 → Int32 → Option (Int32 × XS)) (m52 : XS) (l1_52 : Int32) (l2_52 : Int32) (l3_52 : Int32) (l4_52 : Int32) : Option (Int32 × XS) :=
    (f_X5_of l3_52).bind fun v60 =>
    (aget 442 (m52 1) v60).bind fun v63 =>
    (f_X5_left m52 v63).bind fun v64 =>
    if (v64 < l4_52 : Prop) then
      f_X5_topUps_74 k9 m52 l1_52 l2_52 l3_52 l4_52
    else
      f_X5_topUps_75 k9 m52 l1_52 l2_52 l3_52 l4_52 1
def f_X5_topUps_9 : Nat → XS → Int32 → Int32 → Int32 → Option (Int32 × XS)
  | 0, _, _, _, _ => none
  | n9 + 1, m9, l1_9, l2_9, l3_9 =>
    (aget 442 (m9 1) 0).bind fun v15 =>
    if (v15 ≤ l3_9 : Prop) then
      some (l2_9, m9)
    else
      ((f_X5_waitsFor m9 l3_9).bind fun v21 =>
      if (v21 ≤ 0 : Prop) then
        f_X5_topUps_74 (f_X5_topUps_9 n9) m9 l1_9 l2_9 l3_9 v21
      else
        (if (l1_9 = (-1) : Prop) then
          f_X5_topUps_52 (f_X5_topUps_9 n9) m9 l1_9 l2_9 l3_9 v21
        else
          ((f_X5_of l3_9).bind fun v41 =>
          (aget 442 (m9 1) (v41 + 8)).bind fun v47 =>
          if (v47 = l1_9 : Prop) then
            f_X5_topUps_52 (f_X5_topUps_9 n9) m9 l1_9 l2_9 l3_9 v21
          else
            f_X5_topUps_74 (f_X5_topUps_9 n9) m9 l1_9 l2_9 l3_9 v21)))
def f_X5_topUps (m : XS) (a0 : Int32) : Option (Int32 × XS) :=
    (some (ux m 0 7 0)).bind fun m4 =>
    f_X5_topUps_9 4096 m4 a0 0 0
set_option maxRecDepth 100000 in
set_option maxHeartbeats 4000000 in
theorem p_X5_topUps (l : Launch) (E : TE) (x m : XS) (g o : Int64) {a0 : Int32} {r : Int32} {mr : XS} (hf : f_X5_topUps m a0 = some (r, mr)) : MG l E yX5_topUps cX5_topUps 6 (some .int) 4 [rf E 211, .int a0] (Wd E x m g o) (Wd E x mr g o) (some (.int r)) := by
  unfold f_X5_topUps at hf
  refine m_in (by decide) (Nat.le_of_ble_eq_true rfl) ?_
  intro p e s mi args below meth c H ls hx hb hr hlk hml hown hB hK hW hS hl
  have hl : lv_has ls 6 [(0, rf E 211), (1, .int a0)] := hl
  have J9 : ∀ (n9 : Nat), ∀ (m9 : XS) (l1_9 : Int32) (l2_9 : Int32) (l3_9 : Int32) (H : Heap) (locs : List Loc) (ls : Array Slot), f_X5_topUps_9 n9 m9 l1_9 l2_9 l3_9 = some (r, mr) → Wd E x m9 g o H → va_S (Ah E) s.heap H locs → lv_has ls 6 [(0, rf E 211), (1, .int l1_9), (2, .int l2_9), (3, .int l3_9)] → W p l e (rmH 4) s mi args below meth c H locs 0 0 (EQ E below args s (Wd E x mr g o) (some (.int r))) (F0 mi 9 ls []) := by
    intro n9
    induction n9 with
    | zero => intro m9 l1_9 l2_9 l3_9 H locs ls hf; exact absurd hf (fun z => nomatch (show (none : Option (Int32 × XS)) = some _ from z))
    | succ n9 ih9 =>
      intro m9 l1_9 l2_9 l3_9 H locs ls hf hW hS hl
      rw [f_X5_topUps_9.eq_2] at hf
      have J125 : ∀ (m125 : XS) (l1_125 : Int32) (l2_125 : Int32) (l3_125 : Int32) (H : Heap) (locs : List Loc) (ls : Array Slot), f_X5_topUps_125 (f_X5_topUps_9 n9) m125 l1_125 l2_125 l3_125 = some (r, mr) → Wd E x m125 g o H → va_S (Ah E) s.heap H locs → lv_has ls 6 [(0, rf E 211), (1, .int l1_125), (2, .int l2_125), (3, .int l3_125)] → W p l e (rmH 4) s mi args below meth c H locs 0 0 (EQ E below args s (Wd E x mr g o) (some (.int r))) (F0 mi 125 ls []) := by
        intro m125 l1_125 l2_125 l3_125 H locs ls hf hW hS hl
        unfold f_X5_topUps_125 at hf
        obtain ⟨v125, e125, hf⟩ := ob hf
        refine lv_iinc (v := v125) (lv' := [(3, .int v125), (0, rf E 211), (1, .int l1_125), (2, .int l2_125)]) hx hb dX5_topUps_125 hl (k := 3) rfl (by rw [e125]; rfl) (by decide) rfl (fun ls hl => ?_)
        refine lv_goto (tgt := 9) hx hb dX5_topUps_128 (by decide) ?_
        exact ih9 m125 l1_125 l2_125 v125 _ _ _ hf hW hS (lv_sub hl [1, 2, 3, 0] rfl)
      have J75 : ∀ (m75 : XS) (l1_75 : Int32) (l2_75 : Int32) (l3_75 : Int32) (l4_75 : Int32) (t0_75 : Int32) (H : Heap) (locs : List Loc) (ls : Array Slot), f_X5_topUps_75 (f_X5_topUps_9 n9) m75 l1_75 l2_75 l3_75 l4_75 t0_75 = some (r, mr) → Wd E x m75 g o H → va_S (Ah E) s.heap H locs → lv_has ls 6 [(0, rf E 211), (1, .int l1_75), (2, .int l2_75), (3, .int l3_75), (4, .int l4_75)] → W p l e (rmH 4) s mi args below meth c H locs 0 0 (EQ E below args s (Wd E x mr g o) (some (.int r))) (F0 mi 75 ls [.int t0_75]) := by
        intro m75 l1_75 l2_75 l3_75 l4_75 t0_75 H locs ls hf hW hS hl
        unfold f_X5_topUps_75 at hf
        refine lv_istore (lv' := [(5, .int t0_75), (0, rf E 211), (1, .int l1_75), (2, .int l2_75), (3, .int l3_75), (4, .int l4_75)]) hx hb dX5_topUps_75 hl (by decide) rfl (fun ls hl => ?_)
        refine lv_iload hx hb dX5_topUps_77 (lv_at hl 0 rfl) ?_
        refine lv_if_eq (tgt := 125) hx hb dX5_topUps_79 (by decide) (fun c79 => ?_) (fun c79 => ?_)
        · rw [if_pos c79] at hf
          exact J125 m75 l1_75 l2_75 l3_75 _ _ _ hf hW hS (lv_sub hl [1, 2, 3, 4] rfl)
        · rw [if_neg c79] at hf
          refine lv_aload_n hx hb dX5_topUps_82 rfl (lv_at hl 1 rfl) ?_
          refine lv_iload_n hx hb dX5_topUps_83 rfl (lv_at hl 4 rfl) ?_
          refine lv_aload_n hx hb dX5_topUps_84 rfl (lv_at hl 1 rfl) ?_
          refine gf_X5_7 hx hb hB hK hown hW dX5_topUps_85 ?_
          refine lv_sipush (v := 130) hx hb dX5_topUps_88 (by decide) ?_
          refine lv_iconst (v := 3) hx hb dX5_topUps_91 (by decide) ?_
          refine lv_aload_n hx hb dX5_topUps_92 rfl (lv_at hl 1 rfl) ?_
          refine gf_X5_7 hx hb hB hK hown hW dX5_topUps_93 ?_
          refine lv_iload_n hx hb dX5_topUps_96 rfl (lv_at hl 4 rfl) ?_
          obtain ⟨v97, e97, hf⟩ := ob2 hf
          refine c_S (As := [.int l3_75]) (st1 := [.int v97, rf E 212, .int 3, .int 130, rf E 212, .int l3_75, rf E 211]) (rest := [rf E 212, .int 3, .int 130, rf E 212, .int l3_75, rf E 211]) (p_X5_of l E x m75 g o e97) (kc_X5_54 hB ⟨Nat.le_of_ble_eq_true rfl, Nat.le_of_ble_eq_true rfl⟩) hx hb hml hown hB hK hW hS ⟨Nat.zero_le _, Nat.zero_le _⟩ rfl hl.1 rfl (Nat.le_of_ble_eq_true rfl) rfl dX5_topUps_97 (fun H locs hW hS => ?_)
          refine lv_bipush (v := 8) hx hb dX5_topUps_100 (by decide) ?_
          refine lv_iadd hx hb dX5_topUps_102 ?_
          obtain ⟨v103, e103, hf⟩ := ob2 hf
          refine r_iald hx hb hK hW (by decide) (cM_1) e103 dX5_topUps_103 ?_
          refine lv_imul hx hb dX5_topUps_104 ?_
          refine lv_iadd hx hb dX5_topUps_105 ?_
          obtain ⟨v106, e106, hf⟩ := ob2 hf
          refine r_iald hx hb hK hW (by decide) (cM_1) e106 dX5_topUps_106 ?_
          obtain ⟨m107, e107, hf⟩ := ob2 hf
          refine c_V (As := [.int l3_75, .int v106]) (st1 := []) (rest := []) (p_X5_give l E x m75 g o e107) (kc_X5_102 hB ⟨Nat.le_of_ble_eq_true rfl, Nat.le_of_ble_eq_true rfl⟩) (Wd.rec hK hW (by decide) cM_0 (ci := 5) rfl) hx hb hml hown hB hK hW hS ⟨Nat.zero_le _, Nat.zero_le _⟩ rfl hl.1 rfl (Nat.le_of_ble_eq_true rfl) rfl dX5_topUps_107 (fun H locs hW hS => ?_)
          refine lv_iload_n hx hb dX5_topUps_110 rfl (lv_at hl 3 rfl) ?_
          refine lv_iload hx hb dX5_topUps_111 (lv_at hl 5 rfl) ?_
          refine lv_iadd hx hb dX5_topUps_113 ?_
          obtain ⟨v114, e114, hf⟩ := ob hf
          refine lv_nm e114 ?_
          refine lv_istore_n (lv' := [(2, .int v114), (5, .int t0_75), (0, rf E 211), (1, .int l1_75), (3, .int l3_75), (4, .int l4_75)]) hx hb dX5_topUps_114 rfl hl (by decide) rfl (fun ls hl => ?_)
          refine lv_aload_n hx hb dX5_topUps_115 rfl (lv_at hl 2 rfl) ?_
          refine lv_dup hx hb dX5_topUps_116 rfl ?_
          refine gf_X5_112 hx hb hB hK hown hW dX5_topUps_117 ?_
          refine lv_iconst (v := 1) hx hb dX5_topUps_120 (by decide) ?_
          refine lv_iadd hx hb dX5_topUps_121 ?_
          obtain ⟨m122, e122, hf⟩ := ob hf
          refine pf_X5_112 hx hb hB hK hown hW hS e122 dX5_topUps_122 (fun H locs hW hS => ?_)
          exact J125 m122 l1_75 v114 l3_75 _ _ _ hf hW hS (lv_sub hl [2, 3, 0, 4] rfl)
      have J74 : ∀ (m74 : XS) (l1_74 : Int32) (l2_74 : Int32) (l3_74 : Int32) (l4_74 : Int32) (H : Heap) (locs : List Loc) (ls : Array Slot), f_X5_topUps_74 (f_X5_topUps_9 n9) m74 l1_74 l2_74 l3_74 l4_74 = some (r, mr) → Wd E x m74 g o H → va_S (Ah E) s.heap H locs → lv_has ls 6 [(0, rf E 211), (1, .int l1_74), (2, .int l2_74), (3, .int l3_74), (4, .int l4_74)] → W p l e (rmH 4) s mi args below meth c H locs 0 0 (EQ E below args s (Wd E x mr g o) (some (.int r))) (F0 mi 74 ls []) := by
        intro m74 l1_74 l2_74 l3_74 l4_74 H locs ls hf hW hS hl
        unfold f_X5_topUps_74 at hf
        refine lv_iconst (v := 0) hx hb dX5_topUps_74 (by decide) ?_
        exact J75 m74 l1_74 l2_74 l3_74 l4_74 0 _ _ _ hf hW hS (lv_sub hl [0, 1, 2, 3, 4] rfl)
      have J52 : ∀ (m52 : XS) (l1_52 : Int32) (l2_52 : Int32) (l3_52 : Int32) (l4_52 : Int32) (H : Heap) (locs : List Loc) (ls : Array Slot), f_X5_topUps_52 (f_X5_topUps_9 n9) m52 l1_52 l2_52 l3_52 l4_52 = some (r, mr) → Wd E x m52 g o H → va_S (Ah E) s.heap H locs → lv_has ls 6 [(0, rf E 211), (1, .int l1_52), (2, .int l2_52), (3, .int l3_52), (4, .int l4_52)] → W p l e (rmH 4) s mi args below meth c H locs 0 0 (EQ E below args s (Wd E x mr g o) (some (.int r))) (F0 mi 52 ls []) := by
        intro m52 l1_52 l2_52 l3_52 l4_52 H locs ls hf hW hS hl
        unfold f_X5_topUps_52 at hf
        refine lv_iload hx hb dX5_topUps_52 (lv_at hl 4 rfl) ?_
        refine lv_aload_n hx hb dX5_topUps_54 rfl (lv_at hl 0 rfl) ?_
        refine lv_aload_n hx hb dX5_topUps_55 rfl (lv_at hl 0 rfl) ?_
        refine gf_X5_7 hx hb hB hK hown hW dX5_topUps_56 ?_
        refine lv_iload_n hx hb dX5_topUps_59 rfl (lv_at hl 3 rfl) ?_
        obtain ⟨v60, e60, hf⟩ := ob2 hf
        refine c_S (As := [.int l3_52]) (st1 := [.int v60, rf E 212, rf E 211, .int l4_52]) (rest := [rf E 212, rf E 211, .int l4_52]) (p_X5_of l E x m52 g o e60) (kc_X5_54 hB ⟨Nat.le_of_ble_eq_true rfl, Nat.le_of_ble_eq_true rfl⟩) hx hb hml hown hB hK hW hS ⟨Nat.zero_le _, Nat.zero_le _⟩ rfl hl.1 rfl (Nat.le_of_ble_eq_true rfl) rfl dX5_topUps_60 (fun H locs hW hS => ?_)
        obtain ⟨v63, e63, hf⟩ := ob2 hf
        refine r_iald hx hb hK hW (by decide) (cM_1) e63 dX5_topUps_63 ?_
        obtain ⟨v64, e64, hf⟩ := ob2 hf
        refine c_V (As := [.int v63]) (st1 := [.int v64, .int l4_52]) (rest := [.int l4_52]) (p_X5_left l E x m52 g o e64) (kc_X5_89 hB ⟨Nat.le_of_ble_eq_true rfl, Nat.le_of_ble_eq_true rfl⟩) (Wd.rec hK hW (by decide) cM_0 (ci := 5) rfl) hx hb hml hown hB hK hW hS ⟨Nat.zero_le _, Nat.zero_le _⟩ rfl hl.1 rfl (Nat.le_of_ble_eq_true rfl) rfl dX5_topUps_64 (fun H locs hW hS => ?_)
        refine lv_icmp_gt (tgt := 74) hx hb dX5_topUps_67 (by decide) (fun c67 => ?_) (fun c67 => ?_)
        · rw [if_pos c67] at hf
          exact J74 m52 l1_52 l2_52 l3_52 l4_52 _ _ _ hf hW hS (lv_sub hl [0, 1, 2, 3, 4] rfl)
        · rw [if_neg c67] at hf
          refine lv_iconst (v := 1) hx hb dX5_topUps_70 (by decide) ?_
          refine lv_goto (tgt := 75) hx hb dX5_topUps_71 (by decide) ?_
          exact J75 m52 l1_52 l2_52 l3_52 l4_52 1 _ _ _ hf hW hS (lv_sub hl [0, 1, 2, 3, 4] rfl)
      refine lv_iload_n hx hb dX5_topUps_9 rfl (lv_at hl 3 rfl) ?_
      refine lv_aload_n hx hb dX5_topUps_10 rfl (lv_at hl 0 rfl) ?_
      refine gf_X5_7 hx hb hB hK hown hW dX5_topUps_11 ?_
      refine lv_iconst (v := 0) hx hb dX5_topUps_14 (by decide) ?_
      obtain ⟨v15, e15, hf⟩ := ob2 hf
      refine r_iald hx hb hK hW (by decide) (cM_1) e15 dX5_topUps_15 ?_
      refine lv_icmp_ge (tgt := 131) hx hb dX5_topUps_16 (by decide) (fun c16 => ?_) (fun c16 => ?_)
      · rw [if_pos c16] at hf
        refine lv_iload_n hx hb dX5_topUps_131 rfl (lv_at hl 2 rfl) ?_
        cases hf
        exact e_i hx hb hr hlk hW hS dX5_topUps_132
      · rw [if_neg c16] at hf
        refine lv_aload_n hx hb dX5_topUps_19 rfl (lv_at hl 0 rfl) ?_
        refine lv_iload_n hx hb dX5_topUps_20 rfl (lv_at hl 3 rfl) ?_
        obtain ⟨v21, e21, hf⟩ := ob2 hf
        refine c_V (As := [.int l3_9]) (st1 := [.int v21]) (rest := []) (p_X5_waitsFor l E x m9 g o e21) (kc_X5_115 hB ⟨Nat.le_of_ble_eq_true rfl, Nat.le_of_ble_eq_true rfl⟩) (Wd.rec hK hW (by decide) cM_0 (ci := 5) rfl) hx hb hml hown hB hK hW hS ⟨Nat.zero_le _, Nat.zero_le _⟩ rfl hl.1 rfl (Nat.le_of_ble_eq_true rfl) rfl dX5_topUps_21 (fun H locs hW hS => ?_)
        refine lv_istore (lv' := [(4, .int v21), (0, rf E 211), (1, .int l1_9), (2, .int l2_9), (3, .int l3_9)]) hx hb dX5_topUps_24 hl (by decide) rfl (fun ls hl => ?_)
        refine lv_iload hx hb dX5_topUps_26 (lv_at hl 0 rfl) ?_
        refine lv_if_le (tgt := 74) hx hb dX5_topUps_28 (by decide) (fun c28 => ?_) (fun c28 => ?_)
        · rw [if_pos c28] at hf
          exact J74 m9 l1_9 l2_9 l3_9 v21 _ _ _ hf hW hS (lv_sub hl [1, 2, 3, 4, 0] rfl)
        · rw [if_neg c28] at hf
          refine lv_iload_n hx hb dX5_topUps_31 rfl (lv_at hl 2 rfl) ?_
          refine lv_iconst (v := (-1)) hx hb dX5_topUps_32 (by decide) ?_
          refine lv_icmp_eq (tgt := 52) hx hb dX5_topUps_33 (by decide) (fun c33 => ?_) (fun c33 => ?_)
          · rw [if_pos c33] at hf
            exact J52 m9 l1_9 l2_9 l3_9 v21 _ _ _ hf hW hS (lv_sub hl [1, 2, 3, 4, 0] rfl)
          · rw [if_neg c33] at hf
            refine lv_aload_n hx hb dX5_topUps_36 rfl (lv_at hl 1 rfl) ?_
            refine gf_X5_7 hx hb hB hK hown hW dX5_topUps_37 ?_
            refine lv_iload_n hx hb dX5_topUps_40 rfl (lv_at hl 4 rfl) ?_
            obtain ⟨v41, e41, hf⟩ := ob2 hf
            refine c_S (As := [.int l3_9]) (st1 := [.int v41, rf E 212]) (rest := [rf E 212]) (p_X5_of l E x m9 g o e41) (kc_X5_54 hB ⟨Nat.le_of_ble_eq_true rfl, Nat.le_of_ble_eq_true rfl⟩) hx hb hml hown hB hK hW hS ⟨Nat.zero_le _, Nat.zero_le _⟩ rfl hl.1 rfl (Nat.le_of_ble_eq_true rfl) rfl dX5_topUps_41 (fun H locs hW hS => ?_)
            refine lv_bipush (v := 8) hx hb dX5_topUps_44 (by decide) ?_
            refine lv_iadd hx hb dX5_topUps_46 ?_
            obtain ⟨v47, e47, hf⟩ := ob2 hf
            refine r_iald hx hb hK hW (by decide) (cM_1) e47 dX5_topUps_47 ?_
            refine lv_iload_n hx hb dX5_topUps_48 rfl (lv_at hl 2 rfl) ?_
            refine lv_icmp_ne (tgt := 74) hx hb dX5_topUps_49 (by decide) (fun c49 => ?_) (fun c49 => ?_)
            · rw [if_neg c49] at hf
              exact J74 m9 l1_9 l2_9 l3_9 v21 _ _ _ hf hW hS (lv_sub hl [1, 2, 3, 4, 0] rfl)
            · rw [if_pos c49] at hf
              exact J52 m9 l1_9 l2_9 l3_9 v21 _ _ _ hf hW hS (lv_sub hl [1, 2, 3, 4, 0] rfl)
  refine lv_iconst (v := 0) hx hb dX5_topUps_0 (by decide) ?_
  refine lv_istore_n (lv' := [(2, .int 0), (0, rf E 211), (1, .int a0)]) hx hb dX5_topUps_1 rfl hl (by decide) rfl (fun ls hl => ?_)
  refine lv_aload_n hx hb dX5_topUps_2 rfl (lv_at hl 1 rfl) ?_
  refine lv_iconst (v := 0) hx hb dX5_topUps_3 (by decide) ?_
  obtain ⟨m4, e4, hf⟩ := ob hf
  refine pf_X5_112 hx hb hB hK hown hW hS e4 dX5_topUps_4 (fun H locs hW hS => ?_)
  refine lv_iconst (v := 0) hx hb dX5_topUps_7 (by decide) ?_
  refine lv_istore_n (lv' := [(3, .int 0), (2, .int 0), (0, rf E 211), (1, .int a0)]) hx hb dX5_topUps_8 rfl hl (by decide) rfl (fun ls hl => ?_)
  exact J9 4096 m4 a0 0 0 _ _ _ hf hW hS (lv_sub hl [2, 3, 1, 0] rfl)
def f_X5_judgeNow_114 (m114 : XS) (l3_114 : Int32) (l5_114 : Int32) : Option (Int32 × XS) :=
    (f_X5_at l3_114).bind fun v119 =>
    (aget 442 (m114 1) (v119 + 2)).bind fun v124 =>
    some ((v124 - l5_114), m114)
def f_X5_judgeNow (m : XS) (a0 : Int32) (a1 : Int32) : Option (Int32 × XS) :=
    (f_X5_of a0).bind fun v5 =>
    (aget 442 (m 1) v5).bind fun v8 =>
    (f_X5_of a0).bind fun v15 =>
    (aget 442 (m 1) (v15 + 8)).bind fun v21 =>
    (f_X5_at v8).bind fun v29 =>
    (aget 442 (m 1) (v29 + 2)).bind fun v34 =>
    (some (ux m 0 7 0)).bind fun m39 =>
    (f_X5_give m39 a0 a1).bind fun m45 =>
    (f_X5_of a0).bind fun v53 =>
    (aset m45 1 442 (v53 + 3) 3).bind fun m59 =>
    if (v21 = (-1) : Prop) then
      f_X5_judgeNow_114 m59 v8 v34
    else
      ((f_X5_cost m59 v8 a1).bind fun v69 =>
      (aget 442 (m59 1) (130 + (3 * v21))).bind fun v86 =>
      (f_X5_cost m59 v8 v86).bind fun v87 =>
      if (v69 ≤ v87 : Prop) then
        f_X5_judgeNow_114 m59 v8 v34
      else
        ((aset m59 1 442 (130 + (3 * v21)) a1).bind fun m106 =>
        (f_X5_topUps m106 v21).bind fun q110 => (fun v110 m110 =>
        f_X5_judgeNow_114 m110 v8 v34) q110.1 q110.2))
set_option maxRecDepth 100000 in
set_option maxHeartbeats 4000000 in
theorem p_X5_judgeNow (l : Launch) (E : TE) (x m : XS) (g o : Int64) {a0 : Int32} {a1 : Int32} {r : Int32} {mr : XS} (hf : f_X5_judgeNow m a0 a1 = some (r, mr)) : MG l E yX5_judgeNow cX5_judgeNow 6 (some .int) 5 [rf E 211, .int a0, .int a1] (Wd E x m g o) (Wd E x mr g o) (some (.int r)) := by
  unfold f_X5_judgeNow at hf
  refine m_in (by decide) (Nat.le_of_ble_eq_true rfl) ?_
  intro p e s mi args below meth c H ls hx hb hr hlk hml hown hB hK hW hS hl
  have hl : lv_has ls 6 [(0, rf E 211), (1, .int a0), (2, .int a1)] := hl
  have J114 : ∀ (m114 : XS) (l3_114 : Int32) (l5_114 : Int32) (H : Heap) (locs : List Loc) (ls : Array Slot), f_X5_judgeNow_114 m114 l3_114 l5_114 = some (r, mr) → Wd E x m114 g o H → va_S (Ah E) s.heap H locs → lv_has ls 6 [(0, rf E 211), (3, .int l3_114), (5, .int l5_114)] → W p l e (rmH 5) s mi args below meth c H locs 0 0 (EQ E below args s (Wd E x mr g o) (some (.int r))) (F0 mi 114 ls []) := by
    intro m114 l3_114 l5_114 H locs ls hf hW hS hl
    unfold f_X5_judgeNow_114 at hf
    refine lv_aload_n hx hb dX5_judgeNow_114 rfl (lv_at hl 0 rfl) ?_
    refine gf_X5_7 hx hb hB hK hown hW dX5_judgeNow_115 ?_
    refine lv_iload_n hx hb dX5_judgeNow_118 rfl (lv_at hl 1 rfl) ?_
    obtain ⟨v119, e119, hf⟩ := ob2 hf
    refine c_S (As := [.int l3_114]) (st1 := [.int v119, rf E 212]) (rest := [rf E 212]) (p_X5_at l E x m114 g o e119) (kc_X5_25 hB ⟨Nat.le_of_ble_eq_true rfl, Nat.le_of_ble_eq_true rfl⟩) hx hb hml hown hB hK hW hS ⟨Nat.zero_le _, Nat.zero_le _⟩ rfl hl.1 rfl (Nat.le_of_ble_eq_true rfl) rfl dX5_judgeNow_119 (fun H locs hW hS => ?_)
    refine lv_iconst (v := 2) hx hb dX5_judgeNow_122 (by decide) ?_
    refine lv_iadd hx hb dX5_judgeNow_123 ?_
    obtain ⟨v124, e124, hf⟩ := ob2 hf
    refine r_iald hx hb hK hW (by decide) (cM_1) e124 dX5_judgeNow_124 ?_
    refine lv_iload hx hb dX5_judgeNow_125 (lv_at hl 2 rfl) ?_
    refine lv_isub hx hb dX5_judgeNow_127 ?_
    cases hf
    exact e_i hx hb hr hlk hW hS dX5_judgeNow_128
  refine lv_aload_n hx hb dX5_judgeNow_0 rfl (lv_at hl 0 rfl) ?_
  refine gf_X5_7 hx hb hB hK hown hW dX5_judgeNow_1 ?_
  refine lv_iload_n hx hb dX5_judgeNow_4 rfl (lv_at hl 1 rfl) ?_
  obtain ⟨v5, e5, hf⟩ := ob2 hf
  refine c_S (As := [.int a0]) (st1 := [.int v5, rf E 212]) (rest := [rf E 212]) (p_X5_of l E x m g o e5) (kc_X5_54 hB ⟨Nat.le_of_ble_eq_true rfl, Nat.le_of_ble_eq_true rfl⟩) hx hb hml hown hB hK hW hS ⟨Nat.zero_le _, Nat.zero_le _⟩ rfl hl.1 rfl (Nat.le_of_ble_eq_true rfl) rfl dX5_judgeNow_5 (fun H locs hW hS => ?_)
  obtain ⟨v8, e8, hf⟩ := ob2 hf
  refine r_iald hx hb hK hW (by decide) (cM_1) e8 dX5_judgeNow_8 ?_
  refine lv_istore_n (lv' := [(3, .int v8), (0, rf E 211), (1, .int a0), (2, .int a1)]) hx hb dX5_judgeNow_9 rfl hl (by decide) rfl (fun ls hl => ?_)
  refine lv_aload_n hx hb dX5_judgeNow_10 rfl (lv_at hl 1 rfl) ?_
  refine gf_X5_7 hx hb hB hK hown hW dX5_judgeNow_11 ?_
  refine lv_iload_n hx hb dX5_judgeNow_14 rfl (lv_at hl 2 rfl) ?_
  obtain ⟨v15, e15, hf⟩ := ob2 hf
  refine c_S (As := [.int a0]) (st1 := [.int v15, rf E 212]) (rest := [rf E 212]) (p_X5_of l E x m g o e15) (kc_X5_54 hB ⟨Nat.le_of_ble_eq_true rfl, Nat.le_of_ble_eq_true rfl⟩) hx hb hml hown hB hK hW hS ⟨Nat.zero_le _, Nat.zero_le _⟩ rfl hl.1 rfl (Nat.le_of_ble_eq_true rfl) rfl dX5_judgeNow_15 (fun H locs hW hS => ?_)
  refine lv_bipush (v := 8) hx hb dX5_judgeNow_18 (by decide) ?_
  refine lv_iadd hx hb dX5_judgeNow_20 ?_
  obtain ⟨v21, e21, hf⟩ := ob2 hf
  refine r_iald hx hb hK hW (by decide) (cM_1) e21 dX5_judgeNow_21 ?_
  refine lv_istore (lv' := [(4, .int v21), (3, .int v8), (0, rf E 211), (1, .int a0), (2, .int a1)]) hx hb dX5_judgeNow_22 hl (by decide) rfl (fun ls hl => ?_)
  refine lv_aload_n hx hb dX5_judgeNow_24 rfl (lv_at hl 2 rfl) ?_
  refine gf_X5_7 hx hb hB hK hown hW dX5_judgeNow_25 ?_
  refine lv_iload_n hx hb dX5_judgeNow_28 rfl (lv_at hl 1 rfl) ?_
  obtain ⟨v29, e29, hf⟩ := ob2 hf
  refine c_S (As := [.int v8]) (st1 := [.int v29, rf E 212]) (rest := [rf E 212]) (p_X5_at l E x m g o e29) (kc_X5_25 hB ⟨Nat.le_of_ble_eq_true rfl, Nat.le_of_ble_eq_true rfl⟩) hx hb hml hown hB hK hW hS ⟨Nat.zero_le _, Nat.zero_le _⟩ rfl hl.1 rfl (Nat.le_of_ble_eq_true rfl) rfl dX5_judgeNow_29 (fun H locs hW hS => ?_)
  refine lv_iconst (v := 2) hx hb dX5_judgeNow_32 (by decide) ?_
  refine lv_iadd hx hb dX5_judgeNow_33 ?_
  obtain ⟨v34, e34, hf⟩ := ob2 hf
  refine r_iald hx hb hK hW (by decide) (cM_1) e34 dX5_judgeNow_34 ?_
  refine lv_istore (lv' := [(5, .int v34), (4, .int v21), (3, .int v8), (0, rf E 211), (1, .int a0), (2, .int a1)]) hx hb dX5_judgeNow_35 hl (by decide) rfl (fun ls hl => ?_)
  refine lv_aload_n hx hb dX5_judgeNow_37 rfl (lv_at hl 3 rfl) ?_
  refine lv_iconst (v := 0) hx hb dX5_judgeNow_38 (by decide) ?_
  obtain ⟨m39, e39, hf⟩ := ob hf
  refine pf_X5_112 hx hb hB hK hown hW hS e39 dX5_judgeNow_39 (fun H locs hW hS => ?_)
  refine lv_aload_n hx hb dX5_judgeNow_42 rfl (lv_at hl 3 rfl) ?_
  refine lv_iload_n hx hb dX5_judgeNow_43 rfl (lv_at hl 4 rfl) ?_
  refine lv_iload_n hx hb dX5_judgeNow_44 rfl (lv_at hl 5 rfl) ?_
  obtain ⟨m45, e45, hf⟩ := ob2 hf
  refine c_V (As := [.int a0, .int a1]) (st1 := []) (rest := []) (p_X5_give l E x m39 g o e45) (kc_X5_102 hB ⟨Nat.le_of_ble_eq_true rfl, Nat.le_of_ble_eq_true rfl⟩) (Wd.rec hK hW (by decide) cM_0 (ci := 5) rfl) hx hb hml hown hB hK hW hS ⟨Nat.zero_le _, Nat.zero_le _⟩ rfl hl.1 rfl (Nat.le_of_ble_eq_true rfl) rfl dX5_judgeNow_45 (fun H locs hW hS => ?_)
  refine lv_aload_n hx hb dX5_judgeNow_48 rfl (lv_at hl 3 rfl) ?_
  refine gf_X5_7 hx hb hB hK hown hW dX5_judgeNow_49 ?_
  refine lv_iload_n hx hb dX5_judgeNow_52 rfl (lv_at hl 4 rfl) ?_
  obtain ⟨v53, e53, hf⟩ := ob2 hf
  refine c_S (As := [.int a0]) (st1 := [.int v53, rf E 212]) (rest := [rf E 212]) (p_X5_of l E x m45 g o e53) (kc_X5_54 hB ⟨Nat.le_of_ble_eq_true rfl, Nat.le_of_ble_eq_true rfl⟩) hx hb hml hown hB hK hW hS ⟨Nat.zero_le _, Nat.zero_le _⟩ rfl hl.1 rfl (Nat.le_of_ble_eq_true rfl) rfl dX5_judgeNow_53 (fun H locs hW hS => ?_)
  refine lv_iconst (v := 3) hx hb dX5_judgeNow_56 (by decide) ?_
  refine lv_iadd hx hb dX5_judgeNow_57 ?_
  refine lv_iconst (v := 3) hx hb dX5_judgeNow_58 (by decide) ?_
  obtain ⟨m59, e59, hf⟩ := ob2 hf
  refine r_iastM (k := 1) hx hb hK hW hS (by decide) (fun _ => cM_1) e59 dX5_judgeNow_59 (fun H locs hW hS => ?_)
  refine lv_iload hx hb dX5_judgeNow_60 (lv_at hl 1 rfl) ?_
  refine lv_iconst (v := (-1)) hx hb dX5_judgeNow_62 (by decide) ?_
  refine lv_icmp_eq (tgt := 114) hx hb dX5_judgeNow_63 (by decide) (fun c63 => ?_) (fun c63 => ?_)
  · rw [if_pos c63] at hf
    exact J114 m59 v8 v34 _ _ _ hf hW hS (lv_sub hl [3, 2, 0] rfl)
  · rw [if_neg c63] at hf
    refine lv_aload_n hx hb dX5_judgeNow_66 rfl (lv_at hl 3 rfl) ?_
    refine lv_iload_n hx hb dX5_judgeNow_67 rfl (lv_at hl 2 rfl) ?_
    refine lv_iload_n hx hb dX5_judgeNow_68 rfl (lv_at hl 5 rfl) ?_
    obtain ⟨v69, e69, hf⟩ := ob2 hf
    refine c_V (As := [.int v8, .int a1]) (st1 := [.int v69]) (rest := []) (p_X5_cost l E x m59 g o e69) (kc_X5_57 hB ⟨Nat.le_of_ble_eq_true rfl, Nat.le_of_ble_eq_true rfl⟩) (Wd.rec hK hW (by decide) cM_0 (ci := 5) rfl) hx hb hml hown hB hK hW hS ⟨Nat.zero_le _, Nat.zero_le _⟩ rfl hl.1 rfl (Nat.le_of_ble_eq_true rfl) rfl dX5_judgeNow_69 (fun H locs hW hS => ?_)
    refine lv_aload_n hx hb dX5_judgeNow_72 rfl (lv_at hl 3 rfl) ?_
    refine lv_iload_n hx hb dX5_judgeNow_73 rfl (lv_at hl 2 rfl) ?_
    refine lv_aload_n hx hb dX5_judgeNow_74 rfl (lv_at hl 3 rfl) ?_
    refine gf_X5_7 hx hb hB hK hown hW dX5_judgeNow_75 ?_
    refine lv_sipush (v := 130) hx hb dX5_judgeNow_78 (by decide) ?_
    refine lv_iconst (v := 3) hx hb dX5_judgeNow_81 (by decide) ?_
    refine lv_iload hx hb dX5_judgeNow_82 (lv_at hl 1 rfl) ?_
    refine lv_imul hx hb dX5_judgeNow_84 ?_
    refine lv_iadd hx hb dX5_judgeNow_85 ?_
    obtain ⟨v86, e86, hf⟩ := ob2 hf
    refine r_iald hx hb hK hW (by decide) (cM_1) e86 dX5_judgeNow_86 ?_
    obtain ⟨v87, e87, hf⟩ := ob2 hf
    refine c_V (As := [.int v8, .int v86]) (st1 := [.int v87, .int v69]) (rest := [.int v69]) (p_X5_cost l E x m59 g o e87) (kc_X5_57 hB ⟨Nat.le_of_ble_eq_true rfl, Nat.le_of_ble_eq_true rfl⟩) (Wd.rec hK hW (by decide) cM_0 (ci := 5) rfl) hx hb hml hown hB hK hW hS ⟨Nat.zero_le _, Nat.zero_le _⟩ rfl hl.1 rfl (Nat.le_of_ble_eq_true rfl) rfl dX5_judgeNow_87 (fun H locs hW hS => ?_)
    refine lv_icmp_le (tgt := 114) hx hb dX5_judgeNow_90 (by decide) (fun c90 => ?_) (fun c90 => ?_)
    · rw [if_pos c90] at hf
      exact J114 m59 v8 v34 _ _ _ hf hW hS (lv_sub hl [3, 2, 0] rfl)
    · rw [if_neg c90] at hf
      refine lv_aload_n hx hb dX5_judgeNow_93 rfl (lv_at hl 3 rfl) ?_
      refine gf_X5_7 hx hb hB hK hown hW dX5_judgeNow_94 ?_
      refine lv_sipush (v := 130) hx hb dX5_judgeNow_97 (by decide) ?_
      refine lv_iconst (v := 3) hx hb dX5_judgeNow_100 (by decide) ?_
      refine lv_iload hx hb dX5_judgeNow_101 (lv_at hl 1 rfl) ?_
      refine lv_imul hx hb dX5_judgeNow_103 ?_
      refine lv_iadd hx hb dX5_judgeNow_104 ?_
      refine lv_iload_n hx hb dX5_judgeNow_105 rfl (lv_at hl 5 rfl) ?_
      obtain ⟨m106, e106, hf⟩ := ob2 hf
      refine r_iastM (k := 1) hx hb hK hW hS (by decide) (fun _ => cM_1) e106 dX5_judgeNow_106 (fun H locs hW hS => ?_)
      refine lv_aload_n hx hb dX5_judgeNow_107 rfl (lv_at hl 3 rfl) ?_
      refine lv_iload hx hb dX5_judgeNow_108 (lv_at hl 1 rfl) ?_
      obtain ⟨⟨v110, m110⟩, e110, hf⟩ := ob2 hf
      dsimp only at hf
      refine c_V (As := [.int v21]) (st1 := [.int v110]) (rest := []) (p_X5_topUps l E x m106 g o e110) (kc_X5_118 hB ⟨Nat.le_of_ble_eq_true rfl, Nat.le_of_ble_eq_true rfl⟩) (Wd.rec hK hW (by decide) cM_0 (ci := 5) rfl) hx hb hml hown hB hK hW hS ⟨Nat.zero_le _, Nat.zero_le _⟩ rfl hl.1 rfl (Nat.le_of_ble_eq_true rfl) rfl dX5_judgeNow_110 (fun H locs hW hS => ?_)
      refine lv_pop hx hb dX5_judgeNow_113 rfl ?_
      exact J114 m110 v8 v34 _ _ _ hf hW hS (lv_sub hl [3, 2, 0] rfl)
def f_X5_judge (m : XS) (a0 : Int32) (a1 : Int32) : Option (Int32 × XS) :=
    (some (ux m 0 6 0)).bind fun m2 =>
    (f_X5_isComplaint m2 a0).bind fun v7 =>
    if (v7 = 0 : Prop) then
      ((f_X5_fails m2 1).bind fun q15 => (fun v15 m15 =>
      some (v15, m15)) q15.1 q15.2)
    else
      ((f_X5_whyJudged m2 a0 a1).bind fun v22 =>
      if (v22 = 0 : Prop) then
        ((f_X5_save m2).bind fun m35 =>
        (f_X5_judgeNow m35 a0 a1).bind fun q41 => (fun v41 m41 =>
        some ((m41 0 7), m41)) q41.1 q41.2)
      else
        ((f_X5_fails m2 2).bind fun q30 => (fun v30 m30 =>
        some (v30, m30)) q30.1 q30.2))
set_option maxRecDepth 100000 in
set_option maxHeartbeats 4000000 in
theorem p_X5_judge (l : Launch) (E : TE) (x m : XS) (g o : Int64) {a0 : Int32} {a1 : Int32} {r : Int32} {mr : XS} (hf : f_X5_judge m a0 a1 = some (r, mr)) : MG l E yX5_judge cX5_judge 3 (some .int) 6 [rf E 211, .int a0, .int a1] (Wd E x m g o) (Wd E x mr g o) (some (.int r)) := by
  unfold f_X5_judge at hf
  refine m_in (by decide) (Nat.le_of_ble_eq_true rfl) ?_
  intro p e s mi args below meth c H ls hx hb hr hlk hml hown hB hK hW hS hl
  have hl : lv_has ls 3 [(0, rf E 211), (1, .int a0), (2, .int a1)] := hl
  refine lv_aload_n hx hb dX5_judge_0 rfl (lv_at hl 0 rfl) ?_
  refine lv_iconst (v := 0) hx hb dX5_judge_1 (by decide) ?_
  obtain ⟨m2, e2, hf⟩ := ob hf
  refine pf_X5_29 hx hb hB hK hown hW hS e2 dX5_judge_2 (fun H locs hW hS => ?_)
  refine lv_aload_n hx hb dX5_judge_5 rfl (lv_at hl 0 rfl) ?_
  refine lv_iload_n hx hb dX5_judge_6 rfl (lv_at hl 1 rfl) ?_
  obtain ⟨v7, e7, hf⟩ := ob2 hf
  refine c_V (As := [.int a0]) (st1 := [.int v7]) (rest := []) (p_X5_isComplaint l E x m2 g o e7) (kc_X5_99 hB ⟨Nat.le_of_ble_eq_true rfl, Nat.le_of_ble_eq_true rfl⟩) (Wd.rec hK hW (by decide) cM_0 (ci := 5) rfl) hx hb hml hown hB hK hW hS ⟨Nat.zero_le _, Nat.zero_le _⟩ rfl hl.1 rfl (Nat.le_of_ble_eq_true rfl) rfl dX5_judge_7 (fun H locs hW hS => ?_)
  refine lv_if_ne (tgt := 19) hx hb dX5_judge_10 (by decide) (fun c10 => ?_) (fun c10 => ?_)
  · rw [if_neg c10] at hf
    refine lv_aload_n hx hb dX5_judge_19 rfl (lv_at hl 0 rfl) ?_
    refine lv_iload_n hx hb dX5_judge_20 rfl (lv_at hl 1 rfl) ?_
    refine lv_iload_n hx hb dX5_judge_21 rfl (lv_at hl 2 rfl) ?_
    obtain ⟨v22, e22, hf⟩ := ob2 hf
    refine c_V (As := [.int a0, .int a1]) (st1 := [.int v22]) (rest := []) (p_X5_whyJudged l E x m2 g o e22) (kc_X5_92 hB ⟨Nat.le_of_ble_eq_true rfl, Nat.le_of_ble_eq_true rfl⟩) (Wd.rec hK hW (by decide) cM_0 (ci := 5) rfl) hx hb hml hown hB hK hW hS ⟨Nat.zero_le _, Nat.zero_le _⟩ rfl hl.1 rfl (Nat.le_of_ble_eq_true rfl) rfl dX5_judge_22 (fun H locs hW hS => ?_)
    refine lv_if_eq (tgt := 34) hx hb dX5_judge_25 (by decide) (fun c25 => ?_) (fun c25 => ?_)
    · rw [if_pos c25] at hf
      refine lv_aload_n hx hb dX5_judge_34 rfl (lv_at hl 0 rfl) ?_
      obtain ⟨m35, e35, hf⟩ := ob2 hf
      refine c_V (As := []) (st1 := []) (rest := []) (p_X5_save l E x m2 g o e35) (kc_X5_67 hB ⟨Nat.le_of_ble_eq_true rfl, Nat.le_of_ble_eq_true rfl⟩) (Wd.rec hK hW (by decide) cM_0 (ci := 5) rfl) hx hb hml hown hB hK hW hS ⟨Nat.zero_le _, Nat.zero_le _⟩ rfl hl.1 rfl (Nat.le_of_ble_eq_true rfl) rfl dX5_judge_35 (fun H locs hW hS => ?_)
      refine lv_aload_n hx hb dX5_judge_38 rfl (lv_at hl 0 rfl) ?_
      refine lv_iload_n hx hb dX5_judge_39 rfl (lv_at hl 1 rfl) ?_
      refine lv_iload_n hx hb dX5_judge_40 rfl (lv_at hl 2 rfl) ?_
      obtain ⟨⟨v41, m41⟩, e41, hf⟩ := ob2 hf
      dsimp only at hf
      refine c_V (As := [.int a0, .int a1]) (st1 := [.int v41]) (rest := []) (p_X5_judgeNow l E x m35 g o e41) (kc_X5_121 hB ⟨Nat.le_of_ble_eq_true rfl, Nat.le_of_ble_eq_true rfl⟩) (Wd.rec hK hW (by decide) cM_0 (ci := 5) rfl) hx hb hml hown hB hK hW hS ⟨Nat.zero_le _, Nat.zero_le _⟩ rfl hl.1 rfl (Nat.le_of_ble_eq_true rfl) rfl dX5_judge_41 (fun H locs hW hS => ?_)
      refine lv_pop hx hb dX5_judge_44 rfl ?_
      refine lv_aload_n hx hb dX5_judge_45 rfl (lv_at hl 0 rfl) ?_
      refine gf_X5_112 hx hb hB hK hown hW dX5_judge_46 ?_
      cases hf
      exact e_i hx hb hr hlk hW hS dX5_judge_49
    · rw [if_neg c25] at hf
      refine lv_aload_n hx hb dX5_judge_28 rfl (lv_at hl 0 rfl) ?_
      refine lv_iconst (v := 2) hx hb dX5_judge_29 (by decide) ?_
      obtain ⟨⟨v30, m30⟩, e30, hf⟩ := ob2 hf
      dsimp only at hf
      refine c_V (As := [.int 2]) (st1 := [.int v30]) (rest := []) (p_X5_fails l E x m2 g o e30) (kc_X5_64 hB ⟨Nat.le_of_ble_eq_true rfl, Nat.le_of_ble_eq_true rfl⟩) (Wd.rec hK hW (by decide) cM_0 (ci := 5) rfl) hx hb hml hown hB hK hW hS ⟨Nat.zero_le _, Nat.zero_le _⟩ rfl hl.1 rfl (Nat.le_of_ble_eq_true rfl) rfl dX5_judge_30 (fun H locs hW hS => ?_)
      cases hf
      exact e_i hx hb hr hlk hW hS dX5_judge_33
  · rw [if_pos c10] at hf
    refine lv_aload_n hx hb dX5_judge_13 rfl (lv_at hl 0 rfl) ?_
    refine lv_iconst (v := 1) hx hb dX5_judge_14 (by decide) ?_
    obtain ⟨⟨v15, m15⟩, e15, hf⟩ := ob2 hf
    dsimp only at hf
    refine c_V (As := [.int 1]) (st1 := [.int v15]) (rest := []) (p_X5_fails l E x m2 g o e15) (kc_X5_64 hB ⟨Nat.le_of_ble_eq_true rfl, Nat.le_of_ble_eq_true rfl⟩) (Wd.rec hK hW (by decide) cM_0 (ci := 5) rfl) hx hb hml hown hB hK hW hS ⟨Nat.zero_le _, Nat.zero_le _⟩ rfl hl.1 rfl (Nat.le_of_ble_eq_true rfl) rfl dX5_judge_15 (fun H locs hW hS => ?_)
    cases hf
    exact e_i hx hb hr hlk hW hS dX5_judge_18
def f_X5_closeNow_12 : Nat → XS → Int32 → Option (Int32 × XS)
  | 0, _, _ => none
  | n12 + 1, m12, l1_12 =>
    if (4 ≤ l1_12 : Prop) then
      ((f_X5_topUps m12 (-1)).bind fun q73 => (fun v73 m73 =>
      some (v73, m73)) q73.1 q73.2)
    else
      ((f_X5_at l1_12).bind fun v22 =>
      (f_X5_at l1_12).bind fun v32 =>
      (aget 442 (m12 1) v32).bind fun v35 =>
      (f_X5_left m12 l1_12).bind fun v38 =>
      (aget 442 (m12 1) 4).bind fun v46 =>
      (aset m12 1 442 (v22 + 1) (v35 + ((v38 * v46) / 100))).bind fun m52 =>
      (f_X5_at l1_12).bind fun v58 =>
      (aset m52 1 442 (v58 + 2) 0).bind fun m64 =>
      (some (l1_12 + 1)).bind fun v65 =>
      f_X5_closeNow_12 n12 m64 v65)
def f_X5_closeNow (m : XS) : Option (Int32 × XS) :=
    (aget 442 (m 1) 1).bind fun v6 =>
    (aset m 1 442 1 (v6 + 1)).bind fun m9 =>
    f_X5_closeNow_12 4096 m9 0
set_option maxRecDepth 100000 in
set_option maxHeartbeats 4000000 in
theorem p_X5_closeNow (l : Launch) (E : TE) (x m : XS) (g o : Int64) {r : Int32} {mr : XS} (hf : f_X5_closeNow m = some (r, mr)) : MG l E yX5_closeNow cX5_closeNow 2 (some .int) 5 [rf E 211] (Wd E x m g o) (Wd E x mr g o) (some (.int r)) := by
  unfold f_X5_closeNow at hf
  refine m_in (by decide) (Nat.le_of_ble_eq_true rfl) ?_
  intro p e s mi args below meth c H ls hx hb hr hlk hml hown hB hK hW hS hl
  have hl : lv_has ls 2 [(0, rf E 211)] := hl
  have J12 : ∀ (n12 : Nat), ∀ (m12 : XS) (l1_12 : Int32) (H : Heap) (locs : List Loc) (ls : Array Slot), f_X5_closeNow_12 n12 m12 l1_12 = some (r, mr) → Wd E x m12 g o H → va_S (Ah E) s.heap H locs → lv_has ls 2 [(0, rf E 211), (1, .int l1_12)] → W p l e (rmH 5) s mi args below meth c H locs 0 0 (EQ E below args s (Wd E x mr g o) (some (.int r))) (F0 mi 12 ls []) := by
    intro n12
    induction n12 with
    | zero => intro m12 l1_12 H locs ls hf; exact absurd hf (fun z => nomatch (show (none : Option (Int32 × XS)) = some _ from z))
    | succ n12 ih12 =>
      intro m12 l1_12 H locs ls hf hW hS hl
      rw [f_X5_closeNow_12.eq_2] at hf
      refine lv_iload_n hx hb dX5_closeNow_12 rfl (lv_at hl 1 rfl) ?_
      refine lv_iconst (v := 4) hx hb dX5_closeNow_13 (by decide) ?_
      refine lv_icmp_ge (tgt := 71) hx hb dX5_closeNow_14 (by decide) (fun c14 => ?_) (fun c14 => ?_)
      · rw [if_pos c14] at hf
        refine lv_aload_n hx hb dX5_closeNow_71 rfl (lv_at hl 0 rfl) ?_
        refine lv_iconst (v := (-1)) hx hb dX5_closeNow_72 (by decide) ?_
        obtain ⟨⟨v73, m73⟩, e73, hf⟩ := ob2 hf
        dsimp only at hf
        refine c_V (As := [.int (-1)]) (st1 := [.int v73]) (rest := []) (p_X5_topUps l E x m12 g o e73) (kc_X5_118 hB ⟨Nat.le_of_ble_eq_true rfl, Nat.le_of_ble_eq_true rfl⟩) (Wd.rec hK hW (by decide) cM_0 (ci := 5) rfl) hx hb hml hown hB hK hW hS ⟨Nat.zero_le _, Nat.zero_le _⟩ rfl hl.1 rfl (Nat.le_of_ble_eq_true rfl) rfl dX5_closeNow_73 (fun H locs hW hS => ?_)
        cases hf
        exact e_i hx hb hr hlk hW hS dX5_closeNow_76
      · rw [if_neg c14] at hf
        refine lv_aload_n hx hb dX5_closeNow_17 rfl (lv_at hl 0 rfl) ?_
        refine gf_X5_7 hx hb hB hK hown hW dX5_closeNow_18 ?_
        refine lv_iload_n hx hb dX5_closeNow_21 rfl (lv_at hl 1 rfl) ?_
        obtain ⟨v22, e22, hf⟩ := ob2 hf
        refine c_S (As := [.int l1_12]) (st1 := [.int v22, rf E 212]) (rest := [rf E 212]) (p_X5_at l E x m12 g o e22) (kc_X5_25 hB ⟨Nat.le_of_ble_eq_true rfl, Nat.le_of_ble_eq_true rfl⟩) hx hb hml hown hB hK hW hS ⟨Nat.zero_le _, Nat.zero_le _⟩ rfl hl.1 rfl (Nat.le_of_ble_eq_true rfl) rfl dX5_closeNow_22 (fun H locs hW hS => ?_)
        refine lv_iconst (v := 1) hx hb dX5_closeNow_25 (by decide) ?_
        refine lv_iadd hx hb dX5_closeNow_26 ?_
        refine lv_aload_n hx hb dX5_closeNow_27 rfl (lv_at hl 0 rfl) ?_
        refine gf_X5_7 hx hb hB hK hown hW dX5_closeNow_28 ?_
        refine lv_iload_n hx hb dX5_closeNow_31 rfl (lv_at hl 1 rfl) ?_
        obtain ⟨v32, e32, hf⟩ := ob2 hf
        refine c_S (As := [.int l1_12]) (st1 := [.int v32, rf E 212, .int (v22 + 1), rf E 212]) (rest := [rf E 212, .int (v22 + 1), rf E 212]) (p_X5_at l E x m12 g o e32) (kc_X5_25 hB ⟨Nat.le_of_ble_eq_true rfl, Nat.le_of_ble_eq_true rfl⟩) hx hb hml hown hB hK hW hS ⟨Nat.zero_le _, Nat.zero_le _⟩ rfl hl.1 rfl (Nat.le_of_ble_eq_true rfl) rfl dX5_closeNow_32 (fun H locs hW hS => ?_)
        obtain ⟨v35, e35, hf⟩ := ob2 hf
        refine r_iald hx hb hK hW (by decide) (cM_1) e35 dX5_closeNow_35 ?_
        refine lv_aload_n hx hb dX5_closeNow_36 rfl (lv_at hl 0 rfl) ?_
        refine lv_iload_n hx hb dX5_closeNow_37 rfl (lv_at hl 1 rfl) ?_
        obtain ⟨v38, e38, hf⟩ := ob2 hf
        refine c_V (As := [.int l1_12]) (st1 := [.int v38, .int v35, .int (v22 + 1), rf E 212]) (rest := [.int v35, .int (v22 + 1), rf E 212]) (p_X5_left l E x m12 g o e38) (kc_X5_89 hB ⟨Nat.le_of_ble_eq_true rfl, Nat.le_of_ble_eq_true rfl⟩) (Wd.rec hK hW (by decide) cM_0 (ci := 5) rfl) hx hb hml hown hB hK hW hS ⟨Nat.zero_le _, Nat.zero_le _⟩ rfl hl.1 rfl (Nat.le_of_ble_eq_true rfl) rfl dX5_closeNow_38 (fun H locs hW hS => ?_)
        refine lv_aload_n hx hb dX5_closeNow_41 rfl (lv_at hl 0 rfl) ?_
        refine gf_X5_7 hx hb hB hK hown hW dX5_closeNow_42 ?_
        refine lv_iconst (v := 4) hx hb dX5_closeNow_45 (by decide) ?_
        obtain ⟨v46, e46, hf⟩ := ob2 hf
        refine r_iald hx hb hK hW (by decide) (cM_1) e46 dX5_closeNow_46 ?_
        refine lv_imul hx hb dX5_closeNow_47 ?_
        refine lv_bipush (v := 100) hx hb dX5_closeNow_48 (by decide) ?_
        refine lv_idiv hx hb dX5_closeNow_50 (by decide) ?_
        refine lv_iadd hx hb dX5_closeNow_51 ?_
        obtain ⟨m52, e52, hf⟩ := ob2 hf
        refine r_iastM (k := 1) hx hb hK hW hS (by decide) (fun _ => cM_1) e52 dX5_closeNow_52 (fun H locs hW hS => ?_)
        refine lv_aload_n hx hb dX5_closeNow_53 rfl (lv_at hl 0 rfl) ?_
        refine gf_X5_7 hx hb hB hK hown hW dX5_closeNow_54 ?_
        refine lv_iload_n hx hb dX5_closeNow_57 rfl (lv_at hl 1 rfl) ?_
        obtain ⟨v58, e58, hf⟩ := ob2 hf
        refine c_S (As := [.int l1_12]) (st1 := [.int v58, rf E 212]) (rest := [rf E 212]) (p_X5_at l E x m52 g o e58) (kc_X5_25 hB ⟨Nat.le_of_ble_eq_true rfl, Nat.le_of_ble_eq_true rfl⟩) hx hb hml hown hB hK hW hS ⟨Nat.zero_le _, Nat.zero_le _⟩ rfl hl.1 rfl (Nat.le_of_ble_eq_true rfl) rfl dX5_closeNow_58 (fun H locs hW hS => ?_)
        refine lv_iconst (v := 2) hx hb dX5_closeNow_61 (by decide) ?_
        refine lv_iadd hx hb dX5_closeNow_62 ?_
        refine lv_iconst (v := 0) hx hb dX5_closeNow_63 (by decide) ?_
        obtain ⟨m64, e64, hf⟩ := ob2 hf
        refine r_iastM (k := 1) hx hb hK hW hS (by decide) (fun _ => cM_1) e64 dX5_closeNow_64 (fun H locs hW hS => ?_)
        obtain ⟨v65, e65, hf⟩ := ob hf
        refine lv_iinc (v := v65) (lv' := [(1, .int v65), (0, rf E 211)]) hx hb dX5_closeNow_65 hl (k := 1) rfl (by rw [e65]; rfl) (by decide) rfl (fun ls hl => ?_)
        refine lv_goto (tgt := 12) hx hb dX5_closeNow_68 (by decide) ?_
        exact ih12 m64 v65 _ _ _ hf hW hS (lv_sub hl [1, 0] rfl)
  refine lv_aload_n hx hb dX5_closeNow_0 rfl (lv_at hl 0 rfl) ?_
  refine gf_X5_7 hx hb hB hK hown hW dX5_closeNow_1 ?_
  refine lv_iconst (v := 1) hx hb dX5_closeNow_4 (by decide) ?_
  refine lv_dup2_11 hx hb dX5_closeNow_5 rfl rfl ?_
  obtain ⟨v6, e6, hf⟩ := ob2 hf
  refine r_iald hx hb hK hW (by decide) (cM_1) e6 dX5_closeNow_6 ?_
  refine lv_iconst (v := 1) hx hb dX5_closeNow_7 (by decide) ?_
  refine lv_iadd hx hb dX5_closeNow_8 ?_
  obtain ⟨m9, e9, hf⟩ := ob2 hf
  refine r_iastM (k := 1) hx hb hK hW hS (by decide) (fun _ => cM_1) e9 dX5_closeNow_9 (fun H locs hW hS => ?_)
  refine lv_iconst (v := 0) hx hb dX5_closeNow_10 (by decide) ?_
  refine lv_istore_n (lv' := [(1, .int 0), (0, rf E 211)]) hx hb dX5_closeNow_11 rfl hl (by decide) rfl (fun ls hl => ?_)
  exact J12 4096 m9 0 _ _ _ hf hW hS (lv_sub hl [1, 0] rfl)
def f_X5_closeMonth (m : XS) : Option (Int32 × XS) :=
    (some (ux m 0 6 0)).bind fun m2 =>
    (aget 442 (m2 1) 1).bind fun v10 =>
    if (v10 = 500 : Prop) then
      ((f_X5_fails m2 1).bind fun q19 => (fun v19 m19 =>
      some (v19, m19)) q19.1 q19.2)
    else
      ((f_X5_save m2).bind fun m24 =>
      (f_X5_closeNow m24).bind fun q28 => (fun v28 m28 =>
      some (v28, m28)) q28.1 q28.2)
set_option maxRecDepth 100000 in
set_option maxHeartbeats 4000000 in
theorem p_X5_closeMonth (l : Launch) (E : TE) (x m : XS) (g o : Int64) {r : Int32} {mr : XS} (hf : f_X5_closeMonth m = some (r, mr)) : MG l E yX5_closeMonth cX5_closeMonth 1 (some .int) 6 [rf E 211] (Wd E x m g o) (Wd E x mr g o) (some (.int r)) := by
  unfold f_X5_closeMonth at hf
  refine m_in (by decide) (Nat.le_of_ble_eq_true rfl) ?_
  intro p e s mi args below meth c H ls hx hb hr hlk hml hown hB hK hW hS hl
  have hl : lv_has ls 1 [(0, rf E 211)] := hl
  refine lv_aload_n hx hb dX5_closeMonth_0 rfl (lv_at hl 0 rfl) ?_
  refine lv_iconst (v := 0) hx hb dX5_closeMonth_1 (by decide) ?_
  obtain ⟨m2, e2, hf⟩ := ob hf
  refine pf_X5_29 hx hb hB hK hown hW hS e2 dX5_closeMonth_2 (fun H locs hW hS => ?_)
  refine lv_aload_n hx hb dX5_closeMonth_5 rfl (lv_at hl 0 rfl) ?_
  refine gf_X5_7 hx hb hB hK hown hW dX5_closeMonth_6 ?_
  refine lv_iconst (v := 1) hx hb dX5_closeMonth_9 (by decide) ?_
  obtain ⟨v10, e10, hf⟩ := ob2 hf
  refine r_iald hx hb hK hW (by decide) (cM_1) e10 dX5_closeMonth_10 ?_
  refine lv_sipush (v := 500) hx hb dX5_closeMonth_11 (by decide) ?_
  refine lv_icmp_ne (tgt := 23) hx hb dX5_closeMonth_14 (by decide) (fun c14 => ?_) (fun c14 => ?_)
  · rw [if_neg c14] at hf
    refine lv_aload_n hx hb dX5_closeMonth_23 rfl (lv_at hl 0 rfl) ?_
    obtain ⟨m24, e24, hf⟩ := ob2 hf
    refine c_V (As := []) (st1 := []) (rest := []) (p_X5_save l E x m2 g o e24) (kc_X5_67 hB ⟨Nat.le_of_ble_eq_true rfl, Nat.le_of_ble_eq_true rfl⟩) (Wd.rec hK hW (by decide) cM_0 (ci := 5) rfl) hx hb hml hown hB hK hW hS ⟨Nat.zero_le _, Nat.zero_le _⟩ rfl hl.1 rfl (Nat.le_of_ble_eq_true rfl) rfl dX5_closeMonth_24 (fun H locs hW hS => ?_)
    refine lv_aload_n hx hb dX5_closeMonth_27 rfl (lv_at hl 0 rfl) ?_
    obtain ⟨⟨v28, m28⟩, e28, hf⟩ := ob2 hf
    dsimp only at hf
    refine c_V (As := []) (st1 := [.int v28]) (rest := []) (p_X5_closeNow l E x m24 g o e28) (kc_X5_124 hB ⟨Nat.le_of_ble_eq_true rfl, Nat.le_of_ble_eq_true rfl⟩) (Wd.rec hK hW (by decide) cM_0 (ci := 5) rfl) hx hb hml hown hB hK hW hS ⟨Nat.zero_le _, Nat.zero_le _⟩ rfl hl.1 rfl (Nat.le_of_ble_eq_true rfl) rfl dX5_closeMonth_28 (fun H locs hW hS => ?_)
    cases hf
    exact e_i hx hb hr hlk hW hS dX5_closeMonth_31
  · rw [if_pos c14] at hf
    refine lv_aload_n hx hb dX5_closeMonth_17 rfl (lv_at hl 0 rfl) ?_
    refine lv_iconst (v := 1) hx hb dX5_closeMonth_18 (by decide) ?_
    obtain ⟨⟨v19, m19⟩, e19, hf⟩ := ob2 hf
    dsimp only at hf
    refine c_V (As := [.int 1]) (st1 := [.int v19]) (rest := []) (p_X5_fails l E x m2 g o e19) (kc_X5_64 hB ⟨Nat.le_of_ble_eq_true rfl, Nat.le_of_ble_eq_true rfl⟩) (Wd.rec hK hW (by decide) cM_0 (ci := 5) rfl) hx hb hml hown hB hK hW hS ⟨Nat.zero_le _, Nat.zero_le _⟩ rfl hl.1 rfl (Nat.le_of_ble_eq_true rfl) rfl dX5_closeMonth_19 (fun H locs hW hS => ?_)
    cases hf
    exact e_i hx hb hr hlk hW hS dX5_closeMonth_22
def f_X5_append (m : XS) (a0 : Int32) : Option (Int32 × XS) :=
    (some (ux m 0 6 0)).bind fun m2 =>
    (f_X5_in a0 33 126).bind fun v10 =>
    if (v10 = 0 : Prop) then
      ((f_X5_fails m2 1).bind fun q18 => (fun v18 m18 =>
      some (v18, m18)) q18.1 q18.2)
    else
      (if ((m2 0 5) = 60 : Prop) then
        ((f_X5_fails m2 2).bind fun q33 => (fun v33 m33 =>
        some (v33, m33)) q33.1 q33.2)
      else
        ((aset m2 4 60 (m2 0 5) a0).bind fun m46 =>
        (some (ux m46 0 5 ((m46 0 5) + 1))).bind fun m54 =>
        some ((m54 0 5), m54)))
set_option maxRecDepth 100000 in
set_option maxHeartbeats 4000000 in
theorem p_X5_append (l : Launch) (E : TE) (x m : XS) (g o : Int64) {a0 : Int32} {r : Int32} {mr : XS} (hf : f_X5_append m a0 = some (r, mr)) : MG l E yX5_append cX5_append 2 (some .int) 1 [rf E 211, .int a0] (Wd E x m g o) (Wd E x mr g o) (some (.int r)) := by
  unfold f_X5_append at hf
  refine m_in (by decide) (Nat.le_of_ble_eq_true rfl) ?_
  intro p e s mi args below meth c H ls hx hb hr hlk hml hown hB hK hW hS hl
  have hl : lv_has ls 2 [(0, rf E 211), (1, .int a0)] := hl
  refine lv_aload_n hx hb dX5_append_0 rfl (lv_at hl 0 rfl) ?_
  refine lv_iconst (v := 0) hx hb dX5_append_1 (by decide) ?_
  obtain ⟨m2, e2, hf⟩ := ob hf
  refine pf_X5_29 hx hb hB hK hown hW hS e2 dX5_append_2 (fun H locs hW hS => ?_)
  refine lv_iload_n hx hb dX5_append_5 rfl (lv_at hl 1 rfl) ?_
  refine lv_bipush (v := 33) hx hb dX5_append_6 (by decide) ?_
  refine lv_bipush (v := 126) hx hb dX5_append_8 (by decide) ?_
  obtain ⟨v10, e10, hf⟩ := ob2 hf
  refine c_S (As := [.int a0, .int 33, .int 126]) (st1 := [.int v10]) (rest := []) (p_X5_in l E x m2 g o e10) (kc_X5_36 hB ⟨Nat.le_of_ble_eq_true rfl, Nat.le_of_ble_eq_true rfl⟩) hx hb hml hown hB hK hW hS ⟨Nat.zero_le _, Nat.zero_le _⟩ rfl hl.1 rfl (Nat.le_of_ble_eq_true rfl) rfl dX5_append_10 (fun H locs hW hS => ?_)
  refine lv_if_ne (tgt := 22) hx hb dX5_append_13 (by decide) (fun c13 => ?_) (fun c13 => ?_)
  · rw [if_neg c13] at hf
    refine lv_aload_n hx hb dX5_append_22 rfl (lv_at hl 0 rfl) ?_
    refine gf_X5_128 hx hb hB hK hown hW dX5_append_23 ?_
    refine lv_bipush (v := 60) hx hb dX5_append_26 (by decide) ?_
    refine lv_icmp_ne (tgt := 37) hx hb dX5_append_28 (by decide) (fun c28 => ?_) (fun c28 => ?_)
    · rw [if_neg c28] at hf
      refine lv_aload_n hx hb dX5_append_37 rfl (lv_at hl 0 rfl) ?_
      refine gf_X5_19 hx hb hB hK hown hW dX5_append_38 ?_
      refine lv_aload_n hx hb dX5_append_41 rfl (lv_at hl 0 rfl) ?_
      refine gf_X5_128 hx hb hB hK hown hW dX5_append_42 ?_
      refine lv_iload_n hx hb dX5_append_45 rfl (lv_at hl 1 rfl) ?_
      obtain ⟨m46, e46, hf⟩ := ob2 hf
      refine r_iastM (k := 4) hx hb hK hW hS (by decide) (fun _ => cM_4) e46 dX5_append_46 (fun H locs hW hS => ?_)
      refine lv_aload_n hx hb dX5_append_47 rfl (lv_at hl 0 rfl) ?_
      refine lv_dup hx hb dX5_append_48 rfl ?_
      refine gf_X5_128 hx hb hB hK hown hW dX5_append_49 ?_
      refine lv_iconst (v := 1) hx hb dX5_append_52 (by decide) ?_
      refine lv_iadd hx hb dX5_append_53 ?_
      obtain ⟨m54, e54, hf⟩ := ob hf
      refine pf_X5_128 hx hb hB hK hown hW hS e54 dX5_append_54 (fun H locs hW hS => ?_)
      refine lv_aload_n hx hb dX5_append_57 rfl (lv_at hl 0 rfl) ?_
      refine gf_X5_128 hx hb hB hK hown hW dX5_append_58 ?_
      cases hf
      exact e_i hx hb hr hlk hW hS dX5_append_61
    · rw [if_pos c28] at hf
      refine lv_aload_n hx hb dX5_append_31 rfl (lv_at hl 0 rfl) ?_
      refine lv_iconst (v := 2) hx hb dX5_append_32 (by decide) ?_
      obtain ⟨⟨v33, m33⟩, e33, hf⟩ := ob2 hf
      dsimp only at hf
      refine c_V (As := [.int 2]) (st1 := [.int v33]) (rest := []) (p_X5_fails l E x m2 g o e33) (kc_X5_64 hB ⟨Nat.le_of_ble_eq_true rfl, Nat.le_of_ble_eq_true rfl⟩) (Wd.rec hK hW (by decide) cM_0 (ci := 5) rfl) hx hb hml hown hB hK hW hS ⟨Nat.zero_le _, Nat.zero_le _⟩ rfl hl.1 rfl (Nat.le_of_ble_eq_true rfl) rfl dX5_append_33 (fun H locs hW hS => ?_)
      cases hf
      exact e_i hx hb hr hlk hW hS dX5_append_36
  · rw [if_pos c13] at hf
    refine lv_aload_n hx hb dX5_append_16 rfl (lv_at hl 0 rfl) ?_
    refine lv_iconst (v := 1) hx hb dX5_append_17 (by decide) ?_
    obtain ⟨⟨v18, m18⟩, e18, hf⟩ := ob2 hf
    dsimp only at hf
    refine c_V (As := [.int 1]) (st1 := [.int v18]) (rest := []) (p_X5_fails l E x m2 g o e18) (kc_X5_64 hB ⟨Nat.le_of_ble_eq_true rfl, Nat.le_of_ble_eq_true rfl⟩) (Wd.rec hK hW (by decide) cM_0 (ci := 5) rfl) hx hb hml hown hB hK hW hS ⟨Nat.zero_le _, Nat.zero_le _⟩ rfl hl.1 rfl (Nat.le_of_ble_eq_true rfl) rfl dX5_append_18 (fun H locs hW hS => ?_)
    cases hf
    exact e_i hx hb hr hlk hW hS dX5_append_21
def f_X5_clearBuffer (m : XS) : Option (Int32 × XS) :=
    (some (ux m 0 6 0)).bind fun m2 =>
    (some ((m2 0 5))).bind fun v9 =>
    (some (ux m2 0 5 0)).bind fun m12 =>
    some (v9, m12)
set_option maxRecDepth 100000 in
set_option maxHeartbeats 4000000 in
theorem p_X5_clearBuffer (l : Launch) (E : TE) (x m : XS) (g o : Int64) {r : Int32} {mr : XS} (hf : f_X5_clearBuffer m = some (r, mr)) : MG l E yX5_clearBuffer cX5_clearBuffer 2 (some .int) 0 [rf E 211] (Wd E x m g o) (Wd E x mr g o) (some (.int r)) := by
  unfold f_X5_clearBuffer at hf
  refine m_in (by decide) (Nat.le_of_ble_eq_true rfl) ?_
  intro p e s mi args below meth c H ls hx hb hr hlk hml hown hB hK hW hS hl
  have hl : lv_has ls 2 [(0, rf E 211)] := hl
  refine lv_aload_n hx hb dX5_clearBuffer_0 rfl (lv_at hl 0 rfl) ?_
  refine lv_iconst (v := 0) hx hb dX5_clearBuffer_1 (by decide) ?_
  obtain ⟨m2, e2, hf⟩ := ob hf
  refine pf_X5_29 hx hb hB hK hown hW hS e2 dX5_clearBuffer_2 (fun H locs hW hS => ?_)
  refine lv_aload_n hx hb dX5_clearBuffer_5 rfl (lv_at hl 0 rfl) ?_
  refine gf_X5_128 hx hb hB hK hown hW dX5_clearBuffer_6 ?_
  obtain ⟨v9, e9, hf⟩ := ob hf
  refine lv_nm e9 ?_
  refine lv_istore_n (lv' := [(1, .int v9), (0, rf E 211)]) hx hb dX5_clearBuffer_9 rfl hl (by decide) rfl (fun ls hl => ?_)
  refine lv_aload_n hx hb dX5_clearBuffer_10 rfl (lv_at hl 1 rfl) ?_
  refine lv_iconst (v := 0) hx hb dX5_clearBuffer_11 (by decide) ?_
  obtain ⟨m12, e12, hf⟩ := ob hf
  refine pf_X5_128 hx hb hB hK hown hW hS e12 dX5_clearBuffer_12 (fun H locs hW hS => ?_)
  refine lv_iload_n hx hb dX5_clearBuffer_15 rfl (lv_at hl 0 rfl) ?_
  cases hf
  exact e_i hx hb hr hlk hW hS dX5_clearBuffer_16
def f_X5_takes_44 (m44 : XS) (l2_44 : Int32) (t0_44 : Int32) (t1_44 : Int32) : Option (Int32 × XS) :=
    (some (ux m44 0 8 (t1_44 + t0_44))).bind fun m45 =>
    if (l2_44 = 0 ∨ l2_44 = 1 : Prop) then some (l2_44, m45) else none
def f_X5_takes_29 (m29 : XS) (t0_29 : Int32) : Option (Int32 × XS) :=
    if (t0_29 = 0 : Prop) then
      f_X5_takes_44 m29 t0_29 0 (m29 0 8)
    else
      f_X5_takes_44 m29 t0_29 1 (m29 0 8)
def f_X5_takes_28 (m28 : XS) : Option (Int32 × XS) :=
    f_X5_takes_29 m28 0
def f_X5_takes (m : XS) (a0 : Int32) : Option (Int32 × XS) :=
    if ((m 0 5) ≤ (m 0 8) : Prop) then
      f_X5_takes_28 m
    else
      ((aget 60 (m 4) (m 0 8)).bind fun v19 =>
      if (v19 = a0 : Prop) then
        f_X5_takes_29 m 1
      else
        f_X5_takes_28 m)
set_option maxRecDepth 100000 in
set_option maxHeartbeats 4000000 in
theorem p_X5_takes (l : Launch) (E : TE) (x m : XS) (g o : Int64) {a0 : Int32} {r : Int32} {mr : XS} (hf : f_X5_takes m a0 = some (r, mr)) : MG l E yX5_takes cX5_takes 3 (some .boolean) 0 [rf E 211, .int a0] (Wd E x m g o) (Wd E x mr g o) (some (.int r)) := by
  unfold f_X5_takes at hf
  refine m_in (by decide) (Nat.le_of_ble_eq_true rfl) ?_
  intro p e s mi args below meth c H ls hx hb hr hlk hml hown hB hK hW hS hl
  have hl : lv_has ls 3 [(0, rf E 211), (1, .int a0)] := hl
  have J44 : ∀ (m44 : XS) (l2_44 : Int32) (t0_44 : Int32) (t1_44 : Int32) (H : Heap) (locs : List Loc) (ls : Array Slot), f_X5_takes_44 m44 l2_44 t0_44 t1_44 = some (r, mr) → Wd E x m44 g o H → va_S (Ah E) s.heap H locs → lv_has ls 3 [(2, .int l2_44)] → W p l e (rmH 0) s mi args below meth c H locs 0 0 (EQ E below args s (Wd E x mr g o) (some (.int r))) (F0 mi 44 ls [.int t0_44, .int t1_44, rf E 211]) := by
    intro m44 l2_44 t0_44 t1_44 H locs ls hf hW hS hl
    unfold f_X5_takes_44 at hf
    refine lv_iadd hx hb dX5_takes_44 ?_
    obtain ⟨m45, e45, hf⟩ := ob hf
    refine pf_X5_131 hx hb hB hK hown hW hS e45 dX5_takes_45 (fun H locs hW hS => ?_)
    refine lv_iload_n hx hb dX5_takes_48 rfl (lv_at hl 0 rfl) ?_
    obtain ⟨zb, hf⟩ := oif hf
    cases hf
    exact e_z hx hb hr hlk zb hW hS dX5_takes_49
  have J29 : ∀ (m29 : XS) (t0_29 : Int32) (H : Heap) (locs : List Loc) (ls : Array Slot), f_X5_takes_29 m29 t0_29 = some (r, mr) → Wd E x m29 g o H → va_S (Ah E) s.heap H locs → lv_has ls 3 [(0, rf E 211)] → W p l e (rmH 0) s mi args below meth c H locs 0 0 (EQ E below args s (Wd E x mr g o) (some (.int r))) (F0 mi 29 ls [.int t0_29]) := by
    intro m29 t0_29 H locs ls hf hW hS hl
    unfold f_X5_takes_29 at hf
    refine lv_istore_n (lv' := [(2, .int t0_29), (0, rf E 211)]) hx hb dX5_takes_29 rfl hl (by decide) rfl (fun ls hl => ?_)
    refine lv_aload_n hx hb dX5_takes_30 rfl (lv_at hl 1 rfl) ?_
    refine lv_dup hx hb dX5_takes_31 rfl ?_
    refine gf_X5_131 hx hb hB hK hown hW dX5_takes_32 ?_
    refine lv_iload_n hx hb dX5_takes_35 rfl (lv_at hl 0 rfl) ?_
    refine lv_if_eq (tgt := 43) hx hb dX5_takes_36 (by decide) (fun c36 => ?_) (fun c36 => ?_)
    · rw [if_pos c36] at hf
      refine lv_iconst (v := 0) hx hb dX5_takes_43 (by decide) ?_
      exact J44 m29 t0_29 0 (m29 0 8) _ _ _ hf hW hS (lv_sub hl [0] rfl)
    · rw [if_neg c36] at hf
      refine lv_iconst (v := 1) hx hb dX5_takes_39 (by decide) ?_
      refine lv_goto (tgt := 44) hx hb dX5_takes_40 (by decide) ?_
      exact J44 m29 t0_29 1 (m29 0 8) _ _ _ hf hW hS (lv_sub hl [0] rfl)
  have J28 : ∀ (m28 : XS) (H : Heap) (locs : List Loc) (ls : Array Slot), f_X5_takes_28 m28 = some (r, mr) → Wd E x m28 g o H → va_S (Ah E) s.heap H locs → lv_has ls 3 [(0, rf E 211)] → W p l e (rmH 0) s mi args below meth c H locs 0 0 (EQ E below args s (Wd E x mr g o) (some (.int r))) (F0 mi 28 ls []) := by
    intro m28 H locs ls hf hW hS hl
    unfold f_X5_takes_28 at hf
    refine lv_iconst (v := 0) hx hb dX5_takes_28 (by decide) ?_
    exact J29 m28 0 _ _ _ hf hW hS (lv_sub hl [0] rfl)
  refine lv_aload_n hx hb dX5_takes_0 rfl (lv_at hl 0 rfl) ?_
  refine gf_X5_131 hx hb hB hK hown hW dX5_takes_1 ?_
  refine lv_aload_n hx hb dX5_takes_4 rfl (lv_at hl 0 rfl) ?_
  refine gf_X5_128 hx hb hB hK hown hW dX5_takes_5 ?_
  refine lv_icmp_ge (tgt := 28) hx hb dX5_takes_8 (by decide) (fun c8 => ?_) (fun c8 => ?_)
  · rw [if_pos c8] at hf
    exact J28 m _ _ _ hf hW hS (lv_sub hl [0] rfl)
  · rw [if_neg c8] at hf
    refine lv_aload_n hx hb dX5_takes_11 rfl (lv_at hl 0 rfl) ?_
    refine gf_X5_19 hx hb hB hK hown hW dX5_takes_12 ?_
    refine lv_aload_n hx hb dX5_takes_15 rfl (lv_at hl 0 rfl) ?_
    refine gf_X5_131 hx hb hB hK hown hW dX5_takes_16 ?_
    obtain ⟨v19, e19, hf⟩ := ob2 hf
    refine r_iald hx hb hK hW (by decide) (cM_4) e19 dX5_takes_19 ?_
    refine lv_iload_n hx hb dX5_takes_20 rfl (lv_at hl 1 rfl) ?_
    refine lv_icmp_ne (tgt := 28) hx hb dX5_takes_21 (by decide) (fun c21 => ?_) (fun c21 => ?_)
    · rw [if_neg c21] at hf
      exact J28 m _ _ _ hf hW hS (lv_sub hl [0] rfl)
    · rw [if_pos c21] at hf
      refine lv_iconst (v := 1) hx hb dX5_takes_24 (by decide) ?_
      refine lv_goto (tgt := 29) hx hb dX5_takes_25 (by decide) ?_
      exact J29 m 1 _ _ _ hf hW hS (lv_sub hl [0] rfl)
def f_X5_digit_61 (m61 : XS) (l5_61 : Int32) (t0_61 : Int32) (t1_61 : Int32) : Option (Int32 × XS) :=
    (some (ux m61 0 8 (t1_61 + t0_61))).bind fun m62 =>
    if (l5_61 = 0 ∨ l5_61 = 1 : Prop) then some (l5_61, m62) else none
def f_X5_digit_27 (m27 : XS) (l1_27 : Int32) (l2_27 : Int32) (l3_27 : Int32) (t0_27 : Int32) : Option (Int32 × XS) :=
    (f_X5_in t0_27 l2_27 l3_27).bind fun v33 =>
    (aset m27 5 45 l1_27 t0_27).bind fun m45 =>
    if (v33 = 0 : Prop) then
      f_X5_digit_61 m45 v33 0 (m45 0 8)
    else
      f_X5_digit_61 m45 v33 1 (m45 0 8)
def f_X5_digit (m : XS) (a0 : Int32) (a1 : Int32) (a2 : Int32) : Option (Int32 × XS) :=
    if ((m 0 5) ≤ (m 0 8) : Prop) then
      f_X5_digit_27 m a0 a1 a2 (-1)
    else
      ((aget 60 (m 4) (m 0 8)).bind fun v19 =>
      f_X5_digit_27 m a0 a1 a2 (v19 - 48))
set_option maxRecDepth 100000 in
set_option maxHeartbeats 4000000 in
theorem p_X5_digit (l : Launch) (E : TE) (x m : XS) (g o : Int64) {a0 : Int32} {a1 : Int32} {a2 : Int32} {r : Int32} {mr : XS} (hf : f_X5_digit m a0 a1 a2 = some (r, mr)) : MG l E yX5_digit cX5_digit 6 (some .boolean) 1 [rf E 211, .int a0, .int a1, .int a2] (Wd E x m g o) (Wd E x mr g o) (some (.int r)) := by
  unfold f_X5_digit at hf
  refine m_in (by decide) (Nat.le_of_ble_eq_true rfl) ?_
  intro p e s mi args below meth c H ls hx hb hr hlk hml hown hB hK hW hS hl
  have hl : lv_has ls 6 [(0, rf E 211), (1, .int a0), (2, .int a1), (3, .int a2)] := hl
  have J61 : ∀ (m61 : XS) (l5_61 : Int32) (t0_61 : Int32) (t1_61 : Int32) (H : Heap) (locs : List Loc) (ls : Array Slot), f_X5_digit_61 m61 l5_61 t0_61 t1_61 = some (r, mr) → Wd E x m61 g o H → va_S (Ah E) s.heap H locs → lv_has ls 6 [(5, .int l5_61)] → W p l e (rmH 1) s mi args below meth c H locs 0 0 (EQ E below args s (Wd E x mr g o) (some (.int r))) (F0 mi 61 ls [.int t0_61, .int t1_61, rf E 211]) := by
    intro m61 l5_61 t0_61 t1_61 H locs ls hf hW hS hl
    unfold f_X5_digit_61 at hf
    refine lv_iadd hx hb dX5_digit_61 ?_
    obtain ⟨m62, e62, hf⟩ := ob hf
    refine pf_X5_131 hx hb hB hK hown hW hS e62 dX5_digit_62 (fun H locs hW hS => ?_)
    refine lv_iload hx hb dX5_digit_65 (lv_at hl 0 rfl) ?_
    obtain ⟨zb, hf⟩ := oif hf
    cases hf
    exact e_z hx hb hr hlk zb hW hS dX5_digit_67
  have J27 : ∀ (m27 : XS) (l1_27 : Int32) (l2_27 : Int32) (l3_27 : Int32) (t0_27 : Int32) (H : Heap) (locs : List Loc) (ls : Array Slot), f_X5_digit_27 m27 l1_27 l2_27 l3_27 t0_27 = some (r, mr) → Wd E x m27 g o H → va_S (Ah E) s.heap H locs → lv_has ls 6 [(0, rf E 211), (1, .int l1_27), (2, .int l2_27), (3, .int l3_27)] → W p l e (rmH 1) s mi args below meth c H locs 0 0 (EQ E below args s (Wd E x mr g o) (some (.int r))) (F0 mi 27 ls [.int t0_27]) := by
    intro m27 l1_27 l2_27 l3_27 t0_27 H locs ls hf hW hS hl
    unfold f_X5_digit_27 at hf
    refine lv_istore (lv' := [(4, .int t0_27), (0, rf E 211), (1, .int l1_27), (2, .int l2_27), (3, .int l3_27)]) hx hb dX5_digit_27 hl (by decide) rfl (fun ls hl => ?_)
    refine lv_iload hx hb dX5_digit_29 (lv_at hl 0 rfl) ?_
    refine lv_iload_n hx hb dX5_digit_31 rfl (lv_at hl 3 rfl) ?_
    refine lv_iload_n hx hb dX5_digit_32 rfl (lv_at hl 4 rfl) ?_
    obtain ⟨v33, e33, hf⟩ := ob2 hf
    refine c_S (As := [.int t0_27, .int l2_27, .int l3_27]) (st1 := [.int v33]) (rest := []) (p_X5_in l E x m27 g o e33) (kc_X5_36 hB ⟨Nat.le_of_ble_eq_true rfl, Nat.le_of_ble_eq_true rfl⟩) hx hb hml hown hB hK hW hS ⟨Nat.zero_le _, Nat.zero_le _⟩ rfl hl.1 rfl (Nat.le_of_ble_eq_true rfl) rfl dX5_digit_33 (fun H locs hW hS => ?_)
    refine lv_istore (lv' := [(5, .int v33), (4, .int t0_27), (0, rf E 211), (1, .int l1_27), (2, .int l2_27), (3, .int l3_27)]) hx hb dX5_digit_36 hl (by decide) rfl (fun ls hl => ?_)
    refine lv_aload_n hx hb dX5_digit_38 rfl (lv_at hl 2 rfl) ?_
    refine gf_X5_22 hx hb hB hK hown hW dX5_digit_39 ?_
    refine lv_iload_n hx hb dX5_digit_42 rfl (lv_at hl 3 rfl) ?_
    refine lv_iload hx hb dX5_digit_43 (lv_at hl 1 rfl) ?_
    obtain ⟨m45, e45, hf⟩ := ob2 hf
    refine r_iastM (k := 5) hx hb hK hW hS (by decide) (fun _ => cM_5) e45 dX5_digit_45 (fun H locs hW hS => ?_)
    refine lv_aload_n hx hb dX5_digit_46 rfl (lv_at hl 2 rfl) ?_
    refine lv_dup hx hb dX5_digit_47 rfl ?_
    refine gf_X5_131 hx hb hB hK hown hW dX5_digit_48 ?_
    refine lv_iload hx hb dX5_digit_51 (lv_at hl 0 rfl) ?_
    refine lv_if_eq (tgt := 60) hx hb dX5_digit_53 (by decide) (fun c53 => ?_) (fun c53 => ?_)
    · rw [if_pos c53] at hf
      refine lv_iconst (v := 0) hx hb dX5_digit_60 (by decide) ?_
      exact J61 m45 v33 0 (m45 0 8) _ _ _ hf hW hS (lv_sub hl [0] rfl)
    · rw [if_neg c53] at hf
      refine lv_iconst (v := 1) hx hb dX5_digit_56 (by decide) ?_
      refine lv_goto (tgt := 61) hx hb dX5_digit_57 (by decide) ?_
      exact J61 m45 v33 1 (m45 0 8) _ _ _ hf hW hS (lv_sub hl [0] rfl)
  refine lv_aload_n hx hb dX5_digit_0 rfl (lv_at hl 0 rfl) ?_
  refine gf_X5_131 hx hb hB hK hown hW dX5_digit_1 ?_
  refine lv_aload_n hx hb dX5_digit_4 rfl (lv_at hl 0 rfl) ?_
  refine gf_X5_128 hx hb hB hK hown hW dX5_digit_5 ?_
  refine lv_icmp_ge (tgt := 26) hx hb dX5_digit_8 (by decide) (fun c8 => ?_) (fun c8 => ?_)
  · rw [if_pos c8] at hf
    refine lv_iconst (v := (-1)) hx hb dX5_digit_26 (by decide) ?_
    exact J27 m a0 a1 a2 (-1) _ _ _ hf hW hS (lv_sub hl [0, 1, 2, 3] rfl)
  · rw [if_neg c8] at hf
    refine lv_aload_n hx hb dX5_digit_11 rfl (lv_at hl 0 rfl) ?_
    refine gf_X5_19 hx hb hB hK hown hW dX5_digit_12 ?_
    refine lv_aload_n hx hb dX5_digit_15 rfl (lv_at hl 0 rfl) ?_
    refine gf_X5_131 hx hb hB hK hown hW dX5_digit_16 ?_
    obtain ⟨v19, e19, hf⟩ := ob2 hf
    refine r_iald hx hb hK hW (by decide) (cM_4) e19 dX5_digit_19 ?_
    refine lv_bipush (v := 48) hx hb dX5_digit_20 (by decide) ?_
    refine lv_isub hx hb dX5_digit_22 ?_
    refine lv_goto (tgt := 27) hx hb dX5_digit_23 (by decide) ?_
    exact J27 m a0 a1 a2 (v19 - 48) _ _ _ hf hW hS (lv_sub hl [0, 1, 2, 3] rfl)
def f_X5_isOne_75 (m75 : XS) (t0_75 : Int32) : Option (Int32 × XS) :=
    (some (ux m75 0 9 ((m75 0 9) + 1))).bind fun m83 =>
    if (t0_75 = 0 ∨ t0_75 = 1 : Prop) then some (t0_75, m83) else none
def f_X5_isOne_74 (m74 : XS) : Option (Int32 × XS) :=
    f_X5_isOne_75 m74 0
def f_X5_isOne (m : XS) : Option (Int32 × XS) :=
    (some ((3 * (m 0 9)))).bind fun v6 =>
    (f_X5_takes m 107).bind fun q10 => (fun v10 m10 =>
    if (v10 = 0 : Prop) then
      f_X5_isOne_74 m10
    else
      ((f_X5_digit m10 v6 0 3).bind fun q20 => (fun v20 m20 =>
      if (v20 = 0 : Prop) then
        f_X5_isOne_74 m20
      else
        ((f_X5_takes m20 115).bind fun q29 => (fun v29 m29 =>
        if (v29 = 0 : Prop) then
          f_X5_isOne_74 m29
        else
          ((f_X5_digit m29 (v6 + 1) 1 9).bind fun q42 => (fun v42 m42 =>
          if (v42 = 0 : Prop) then
            f_X5_isOne_74 m42
          else
            ((f_X5_takes m42 99).bind fun q51 => (fun v51 m51 =>
            if (v51 = 0 : Prop) then
              f_X5_isOne_74 m51
            else
              ((f_X5_digit m51 (v6 + 2) 0 9).bind fun q64 => (fun v64 m64 =>
              if (v64 = 0 : Prop) then
                f_X5_isOne_74 m64
              else
                f_X5_isOne_75 m64 1) q64.1 q64.2)) q51.1 q51.2)) q42.1 q42.2)) q29.1 q29.2)) q20.1 q20.2)) q10.1 q10.2
set_option maxRecDepth 100000 in
set_option maxHeartbeats 4000000 in
theorem p_X5_isOne (l : Launch) (E : TE) (x m : XS) (g o : Int64) {r : Int32} {mr : XS} (hf : f_X5_isOne m = some (r, mr)) : MG l E yX5_isOne cX5_isOne 3 (some .boolean) 2 [rf E 211] (Wd E x m g o) (Wd E x mr g o) (some (.int r)) := by
  unfold f_X5_isOne at hf
  refine m_in (by decide) (Nat.le_of_ble_eq_true rfl) ?_
  intro p e s mi args below meth c H ls hx hb hr hlk hml hown hB hK hW hS hl
  have hl : lv_has ls 3 [(0, rf E 211)] := hl
  have J75 : ∀ (m75 : XS) (t0_75 : Int32) (H : Heap) (locs : List Loc) (ls : Array Slot), f_X5_isOne_75 m75 t0_75 = some (r, mr) → Wd E x m75 g o H → va_S (Ah E) s.heap H locs → lv_has ls 3 [(0, rf E 211)] → W p l e (rmH 2) s mi args below meth c H locs 0 0 (EQ E below args s (Wd E x mr g o) (some (.int r))) (F0 mi 75 ls [.int t0_75]) := by
    intro m75 t0_75 H locs ls hf hW hS hl
    unfold f_X5_isOne_75 at hf
    refine lv_istore_n (lv' := [(2, .int t0_75), (0, rf E 211)]) hx hb dX5_isOne_75 rfl hl (by decide) rfl (fun ls hl => ?_)
    refine lv_aload_n hx hb dX5_isOne_76 rfl (lv_at hl 1 rfl) ?_
    refine lv_dup hx hb dX5_isOne_77 rfl ?_
    refine gf_X5_134 hx hb hB hK hown hW dX5_isOne_78 ?_
    refine lv_iconst (v := 1) hx hb dX5_isOne_81 (by decide) ?_
    refine lv_iadd hx hb dX5_isOne_82 ?_
    obtain ⟨m83, e83, hf⟩ := ob hf
    refine pf_X5_134 hx hb hB hK hown hW hS e83 dX5_isOne_83 (fun H locs hW hS => ?_)
    refine lv_iload_n hx hb dX5_isOne_86 rfl (lv_at hl 0 rfl) ?_
    obtain ⟨zb, hf⟩ := oif hf
    cases hf
    exact e_z hx hb hr hlk zb hW hS dX5_isOne_87
  have J74 : ∀ (m74 : XS) (H : Heap) (locs : List Loc) (ls : Array Slot), f_X5_isOne_74 m74 = some (r, mr) → Wd E x m74 g o H → va_S (Ah E) s.heap H locs → lv_has ls 3 [(0, rf E 211)] → W p l e (rmH 2) s mi args below meth c H locs 0 0 (EQ E below args s (Wd E x mr g o) (some (.int r))) (F0 mi 74 ls []) := by
    intro m74 H locs ls hf hW hS hl
    unfold f_X5_isOne_74 at hf
    refine lv_iconst (v := 0) hx hb dX5_isOne_74 (by decide) ?_
    exact J75 m74 0 _ _ _ hf hW hS (lv_sub hl [0] rfl)
  refine lv_iconst (v := 3) hx hb dX5_isOne_0 (by decide) ?_
  refine lv_aload_n hx hb dX5_isOne_1 rfl (lv_at hl 0 rfl) ?_
  refine gf_X5_134 hx hb hB hK hown hW dX5_isOne_2 ?_
  refine lv_imul hx hb dX5_isOne_5 ?_
  obtain ⟨v6, e6, hf⟩ := ob hf
  refine lv_nm e6 ?_
  refine lv_istore_n (lv' := [(1, .int v6), (0, rf E 211)]) hx hb dX5_isOne_6 rfl hl (by decide) rfl (fun ls hl => ?_)
  refine lv_aload_n hx hb dX5_isOne_7 rfl (lv_at hl 1 rfl) ?_
  refine lv_bipush (v := 107) hx hb dX5_isOne_8 (by decide) ?_
  obtain ⟨⟨v10, m10⟩, e10, hf⟩ := ob2 hf
  dsimp only at hf
  refine c_V (As := [.int 107]) (st1 := [.int v10]) (rest := []) (p_X5_takes l E x m g o e10) (kc_X5_137 hB ⟨Nat.le_of_ble_eq_true rfl, Nat.le_of_ble_eq_true rfl⟩) (Wd.rec hK hW (by decide) cM_0 (ci := 5) rfl) hx hb hml hown hB hK hW hS ⟨Nat.zero_le _, Nat.zero_le _⟩ rfl hl.1 rfl (Nat.le_of_ble_eq_true rfl) rfl dX5_isOne_10 (fun H locs hW hS => ?_)
  refine lv_if_eq (tgt := 74) hx hb dX5_isOne_13 (by decide) (fun c13 => ?_) (fun c13 => ?_)
  · rw [if_pos c13] at hf
    exact J74 m10 _ _ _ hf hW hS (lv_sub hl [1] rfl)
  · rw [if_neg c13] at hf
    refine lv_aload_n hx hb dX5_isOne_16 rfl (lv_at hl 1 rfl) ?_
    refine lv_iload_n hx hb dX5_isOne_17 rfl (lv_at hl 0 rfl) ?_
    refine lv_iconst (v := 0) hx hb dX5_isOne_18 (by decide) ?_
    refine lv_iconst (v := 3) hx hb dX5_isOne_19 (by decide) ?_
    obtain ⟨⟨v20, m20⟩, e20, hf⟩ := ob2 hf
    dsimp only at hf
    refine c_V (As := [.int v6, .int 0, .int 3]) (st1 := [.int v20]) (rest := []) (p_X5_digit l E x m10 g o e20) (kc_X5_140 hB ⟨Nat.le_of_ble_eq_true rfl, Nat.le_of_ble_eq_true rfl⟩) (Wd.rec hK hW (by decide) cM_0 (ci := 5) rfl) hx hb hml hown hB hK hW hS ⟨Nat.zero_le _, Nat.zero_le _⟩ rfl hl.1 rfl (Nat.le_of_ble_eq_true rfl) rfl dX5_isOne_20 (fun H locs hW hS => ?_)
    refine lv_if_eq (tgt := 74) hx hb dX5_isOne_23 (by decide) (fun c23 => ?_) (fun c23 => ?_)
    · rw [if_pos c23] at hf
      exact J74 m20 _ _ _ hf hW hS (lv_sub hl [1] rfl)
    · rw [if_neg c23] at hf
      refine lv_aload_n hx hb dX5_isOne_26 rfl (lv_at hl 1 rfl) ?_
      refine lv_bipush (v := 115) hx hb dX5_isOne_27 (by decide) ?_
      obtain ⟨⟨v29, m29⟩, e29, hf⟩ := ob2 hf
      dsimp only at hf
      refine c_V (As := [.int 115]) (st1 := [.int v29]) (rest := []) (p_X5_takes l E x m20 g o e29) (kc_X5_137 hB ⟨Nat.le_of_ble_eq_true rfl, Nat.le_of_ble_eq_true rfl⟩) (Wd.rec hK hW (by decide) cM_0 (ci := 5) rfl) hx hb hml hown hB hK hW hS ⟨Nat.zero_le _, Nat.zero_le _⟩ rfl hl.1 rfl (Nat.le_of_ble_eq_true rfl) rfl dX5_isOne_29 (fun H locs hW hS => ?_)
      refine lv_if_eq (tgt := 74) hx hb dX5_isOne_32 (by decide) (fun c32 => ?_) (fun c32 => ?_)
      · rw [if_pos c32] at hf
        exact J74 m29 _ _ _ hf hW hS (lv_sub hl [1] rfl)
      · rw [if_neg c32] at hf
        refine lv_aload_n hx hb dX5_isOne_35 rfl (lv_at hl 1 rfl) ?_
        refine lv_iload_n hx hb dX5_isOne_36 rfl (lv_at hl 0 rfl) ?_
        refine lv_iconst (v := 1) hx hb dX5_isOne_37 (by decide) ?_
        refine lv_iadd hx hb dX5_isOne_38 ?_
        refine lv_iconst (v := 1) hx hb dX5_isOne_39 (by decide) ?_
        refine lv_bipush (v := 9) hx hb dX5_isOne_40 (by decide) ?_
        obtain ⟨⟨v42, m42⟩, e42, hf⟩ := ob2 hf
        dsimp only at hf
        refine c_V (As := [.int (v6 + 1), .int 1, .int 9]) (st1 := [.int v42]) (rest := []) (p_X5_digit l E x m29 g o e42) (kc_X5_140 hB ⟨Nat.le_of_ble_eq_true rfl, Nat.le_of_ble_eq_true rfl⟩) (Wd.rec hK hW (by decide) cM_0 (ci := 5) rfl) hx hb hml hown hB hK hW hS ⟨Nat.zero_le _, Nat.zero_le _⟩ rfl hl.1 rfl (Nat.le_of_ble_eq_true rfl) rfl dX5_isOne_42 (fun H locs hW hS => ?_)
        refine lv_if_eq (tgt := 74) hx hb dX5_isOne_45 (by decide) (fun c45 => ?_) (fun c45 => ?_)
        · rw [if_pos c45] at hf
          exact J74 m42 _ _ _ hf hW hS (lv_sub hl [1] rfl)
        · rw [if_neg c45] at hf
          refine lv_aload_n hx hb dX5_isOne_48 rfl (lv_at hl 1 rfl) ?_
          refine lv_bipush (v := 99) hx hb dX5_isOne_49 (by decide) ?_
          obtain ⟨⟨v51, m51⟩, e51, hf⟩ := ob2 hf
          dsimp only at hf
          refine c_V (As := [.int 99]) (st1 := [.int v51]) (rest := []) (p_X5_takes l E x m42 g o e51) (kc_X5_137 hB ⟨Nat.le_of_ble_eq_true rfl, Nat.le_of_ble_eq_true rfl⟩) (Wd.rec hK hW (by decide) cM_0 (ci := 5) rfl) hx hb hml hown hB hK hW hS ⟨Nat.zero_le _, Nat.zero_le _⟩ rfl hl.1 rfl (Nat.le_of_ble_eq_true rfl) rfl dX5_isOne_51 (fun H locs hW hS => ?_)
          refine lv_if_eq (tgt := 74) hx hb dX5_isOne_54 (by decide) (fun c54 => ?_) (fun c54 => ?_)
          · rw [if_pos c54] at hf
            exact J74 m51 _ _ _ hf hW hS (lv_sub hl [1] rfl)
          · rw [if_neg c54] at hf
            refine lv_aload_n hx hb dX5_isOne_57 rfl (lv_at hl 1 rfl) ?_
            refine lv_iload_n hx hb dX5_isOne_58 rfl (lv_at hl 0 rfl) ?_
            refine lv_iconst (v := 2) hx hb dX5_isOne_59 (by decide) ?_
            refine lv_iadd hx hb dX5_isOne_60 ?_
            refine lv_iconst (v := 0) hx hb dX5_isOne_61 (by decide) ?_
            refine lv_bipush (v := 9) hx hb dX5_isOne_62 (by decide) ?_
            obtain ⟨⟨v64, m64⟩, e64, hf⟩ := ob2 hf
            dsimp only at hf
            refine c_V (As := [.int (v6 + 2), .int 0, .int 9]) (st1 := [.int v64]) (rest := []) (p_X5_digit l E x m51 g o e64) (kc_X5_140 hB ⟨Nat.le_of_ble_eq_true rfl, Nat.le_of_ble_eq_true rfl⟩) (Wd.rec hK hW (by decide) cM_0 (ci := 5) rfl) hx hb hml hown hB hK hW hS ⟨Nat.zero_le _, Nat.zero_le _⟩ rfl hl.1 rfl (Nat.le_of_ble_eq_true rfl) rfl dX5_isOne_64 (fun H locs hW hS => ?_)
            refine lv_if_eq (tgt := 74) hx hb dX5_isOne_67 (by decide) (fun c67 => ?_) (fun c67 => ?_)
            · rw [if_pos c67] at hf
              exact J74 m64 _ _ _ hf hW hS (lv_sub hl [1] rfl)
            · rw [if_neg c67] at hf
              refine lv_iconst (v := 1) hx hb dX5_isOne_70 (by decide) ?_
              refine lv_goto (tgt := 75) hx hb dX5_isOne_71 (by decide) ?_
              exact J75 m64 1 _ _ _ hf hW hS (lv_sub hl [1] rfl)
def f_X5_isText_36 (m36 : XS) (l1_36 : Int32) : Option (Int32 × XS) :=
    if (l1_36 = 0 : Prop) then
      some (0, m36)
    else
      (if ((m36 0 8) = (m36 0 5) : Prop) then
        some (1, m36)
      else
        some (0, m36))
def f_X5_isText_15 : Nat → XS → Int32 → Option (Int32 × XS)
  | 0, _, _ => none
  | n15 + 1, m15, l1_15 =>
    if (l1_15 = 0 : Prop) then
      f_X5_isText_36 m15 l1_15
    else
      ((f_X5_takes m15 59).bind fun q22 => (fun v22 m22 =>
      if (v22 = 0 : Prop) then
        f_X5_isText_36 m22 l1_15
      else
        ((f_X5_isOne m22).bind fun q29 => (fun v29 m29 =>
        f_X5_isText_15 n15 m29 v29) q29.1 q29.2)) q22.1 q22.2)
def f_X5_isText (m : XS) : Option (Int32 × XS) :=
    (some (ux m 0 8 0)).bind fun m2 =>
    (some (ux m2 0 9 0)).bind fun m7 =>
    (f_X5_isOne m7).bind fun q11 => (fun v11 m11 =>
    f_X5_isText_15 4096 m11 v11) q11.1 q11.2
set_option maxRecDepth 100000 in
set_option maxHeartbeats 4000000 in
theorem p_X5_isText (l : Launch) (E : TE) (x m : XS) (g o : Int64) {r : Int32} {mr : XS} (hf : f_X5_isText m = some (r, mr)) : MG l E yX5_isText cX5_isText 2 (some .boolean) 3 [rf E 211] (Wd E x m g o) (Wd E x mr g o) (some (.int r)) := by
  unfold f_X5_isText at hf
  refine m_in (by decide) (Nat.le_of_ble_eq_true rfl) ?_
  intro p e s mi args below meth c H ls hx hb hr hlk hml hown hB hK hW hS hl
  have hl : lv_has ls 2 [(0, rf E 211)] := hl
  have J36 : ∀ (m36 : XS) (l1_36 : Int32) (H : Heap) (locs : List Loc) (ls : Array Slot), f_X5_isText_36 m36 l1_36 = some (r, mr) → Wd E x m36 g o H → va_S (Ah E) s.heap H locs → lv_has ls 2 [(0, rf E 211), (1, .int l1_36)] → W p l e (rmH 3) s mi args below meth c H locs 0 0 (EQ E below args s (Wd E x mr g o) (some (.int r))) (F0 mi 36 ls []) := by
    intro m36 l1_36 H locs ls hf hW hS hl
    unfold f_X5_isText_36 at hf
    refine lv_iload_n hx hb dX5_isText_36 rfl (lv_at hl 1 rfl) ?_
    refine lv_if_eq (tgt := 55) hx hb dX5_isText_37 (by decide) (fun c37 => ?_) (fun c37 => ?_)
    · rw [if_pos c37] at hf
      refine lv_iconst (v := 0) hx hb dX5_isText_55 (by decide) ?_
      cases hf
      exact e_z hx hb hr hlk (Or.inl rfl) hW hS dX5_isText_56
    · rw [if_neg c37] at hf
      refine lv_aload_n hx hb dX5_isText_40 rfl (lv_at hl 0 rfl) ?_
      refine gf_X5_131 hx hb hB hK hown hW dX5_isText_41 ?_
      refine lv_aload_n hx hb dX5_isText_44 rfl (lv_at hl 0 rfl) ?_
      refine gf_X5_128 hx hb hB hK hown hW dX5_isText_45 ?_
      refine lv_icmp_ne (tgt := 55) hx hb dX5_isText_48 (by decide) (fun c48 => ?_) (fun c48 => ?_)
      · rw [if_neg c48] at hf
        refine lv_iconst (v := 0) hx hb dX5_isText_55 (by decide) ?_
        cases hf
        exact e_z hx hb hr hlk (Or.inl rfl) hW hS dX5_isText_56
      · rw [if_pos c48] at hf
        refine lv_iconst (v := 1) hx hb dX5_isText_51 (by decide) ?_
        refine lv_goto (tgt := 56) hx hb dX5_isText_52 (by decide) ?_
        cases hf
        exact e_z hx hb hr hlk (Or.inr rfl) hW hS dX5_isText_56
  have J15 : ∀ (n15 : Nat), ∀ (m15 : XS) (l1_15 : Int32) (H : Heap) (locs : List Loc) (ls : Array Slot), f_X5_isText_15 n15 m15 l1_15 = some (r, mr) → Wd E x m15 g o H → va_S (Ah E) s.heap H locs → lv_has ls 2 [(0, rf E 211), (1, .int l1_15)] → W p l e (rmH 3) s mi args below meth c H locs 0 0 (EQ E below args s (Wd E x mr g o) (some (.int r))) (F0 mi 15 ls []) := by
    intro n15
    induction n15 with
    | zero => intro m15 l1_15 H locs ls hf; exact absurd hf (fun z => nomatch (show (none : Option (Int32 × XS)) = some _ from z))
    | succ n15 ih15 =>
      intro m15 l1_15 H locs ls hf hW hS hl
      rw [f_X5_isText_15.eq_2] at hf
      refine lv_iload_n hx hb dX5_isText_15 rfl (lv_at hl 1 rfl) ?_
      refine lv_if_eq (tgt := 36) hx hb dX5_isText_16 (by decide) (fun c16 => ?_) (fun c16 => ?_)
      · rw [if_pos c16] at hf
        exact J36 m15 l1_15 _ _ _ hf hW hS (lv_sub hl [0, 1] rfl)
      · rw [if_neg c16] at hf
        refine lv_aload_n hx hb dX5_isText_19 rfl (lv_at hl 0 rfl) ?_
        refine lv_bipush (v := 59) hx hb dX5_isText_20 (by decide) ?_
        obtain ⟨⟨v22, m22⟩, e22, hf⟩ := ob2 hf
        dsimp only at hf
        refine c_V (As := [.int 59]) (st1 := [.int v22]) (rest := []) (p_X5_takes l E x m15 g o e22) (kc_X5_137 hB ⟨Nat.le_of_ble_eq_true rfl, Nat.le_of_ble_eq_true rfl⟩) (Wd.rec hK hW (by decide) cM_0 (ci := 5) rfl) hx hb hml hown hB hK hW hS ⟨Nat.zero_le _, Nat.zero_le _⟩ rfl hl.1 rfl (Nat.le_of_ble_eq_true rfl) rfl dX5_isText_22 (fun H locs hW hS => ?_)
        refine lv_if_eq (tgt := 36) hx hb dX5_isText_25 (by decide) (fun c25 => ?_) (fun c25 => ?_)
        · rw [if_pos c25] at hf
          exact J36 m22 l1_15 _ _ _ hf hW hS (lv_sub hl [0, 1] rfl)
        · rw [if_neg c25] at hf
          refine lv_aload_n hx hb dX5_isText_28 rfl (lv_at hl 0 rfl) ?_
          obtain ⟨⟨v29, m29⟩, e29, hf⟩ := ob2 hf
          dsimp only at hf
          refine c_V (As := []) (st1 := [.int v29]) (rest := []) (p_X5_isOne l E x m22 g o e29) (kc_X5_143 hB ⟨Nat.le_of_ble_eq_true rfl, Nat.le_of_ble_eq_true rfl⟩) (Wd.rec hK hW (by decide) cM_0 (ci := 5) rfl) hx hb hml hown hB hK hW hS ⟨Nat.zero_le _, Nat.zero_le _⟩ rfl hl.1 rfl (Nat.le_of_ble_eq_true rfl) rfl dX5_isText_29 (fun H locs hW hS => ?_)
          refine lv_istore_n (lv' := [(1, .int v29), (0, rf E 211)]) hx hb dX5_isText_32 rfl hl (by decide) rfl (fun ls hl => ?_)
          refine lv_goto (tgt := 15) hx hb dX5_isText_33 (by decide) ?_
          exact ih15 m29 v29 _ _ _ hf hW hS (lv_sub hl [1, 0] rfl)
  refine lv_aload_n hx hb dX5_isText_0 rfl (lv_at hl 0 rfl) ?_
  refine lv_iconst (v := 0) hx hb dX5_isText_1 (by decide) ?_
  obtain ⟨m2, e2, hf⟩ := ob hf
  refine pf_X5_131 hx hb hB hK hown hW hS e2 dX5_isText_2 (fun H locs hW hS => ?_)
  refine lv_aload_n hx hb dX5_isText_5 rfl (lv_at hl 0 rfl) ?_
  refine lv_iconst (v := 0) hx hb dX5_isText_6 (by decide) ?_
  obtain ⟨m7, e7, hf⟩ := ob hf
  refine pf_X5_134 hx hb hB hK hown hW hS e7 dX5_isText_7 (fun H locs hW hS => ?_)
  refine lv_aload_n hx hb dX5_isText_10 rfl (lv_at hl 0 rfl) ?_
  obtain ⟨⟨v11, m11⟩, e11, hf⟩ := ob2 hf
  dsimp only at hf
  refine c_V (As := []) (st1 := [.int v11]) (rest := []) (p_X5_isOne l E x m7 g o e11) (kc_X5_143 hB ⟨Nat.le_of_ble_eq_true rfl, Nat.le_of_ble_eq_true rfl⟩) (Wd.rec hK hW (by decide) cM_0 (ci := 5) rfl) hx hb hml hown hB hK hW hS ⟨Nat.zero_le _, Nat.zero_le _⟩ rfl hl.1 rfl (Nat.le_of_ble_eq_true rfl) rfl dX5_isText_11 (fun H locs hW hS => ?_)
  refine lv_istore_n (lv' := [(1, .int v11), (0, rf E 211)]) hx hb dX5_isText_14 rfl hl (by decide) rfl (fun ls hl => ?_)
  exact J15 4096 m11 v11 _ _ _ hf hW hS (lv_sub hl [1, 0] rfl)
def f_X5_firstError (m : XS) : Option (Int32 × XS) :=
    (some (ux m 0 6 0)).bind fun m2 =>
    (f_X5_isText m2).bind fun q6 => (fun v6 m6 =>
    if (v6 = 0 : Prop) then
      some ((m6 0 8), m6)
    else
      some ((m6 0 5), m6)) q6.1 q6.2
set_option maxRecDepth 100000 in
set_option maxHeartbeats 4000000 in
theorem p_X5_firstError (l : Launch) (E : TE) (x m : XS) (g o : Int64) {r : Int32} {mr : XS} (hf : f_X5_firstError m = some (r, mr)) : MG l E yX5_firstError cX5_firstError 1 (some .int) 4 [rf E 211] (Wd E x m g o) (Wd E x mr g o) (some (.int r)) := by
  unfold f_X5_firstError at hf
  refine m_in (by decide) (Nat.le_of_ble_eq_true rfl) ?_
  intro p e s mi args below meth c H ls hx hb hr hlk hml hown hB hK hW hS hl
  have hl : lv_has ls 1 [(0, rf E 211)] := hl
  refine lv_aload_n hx hb dX5_firstError_0 rfl (lv_at hl 0 rfl) ?_
  refine lv_iconst (v := 0) hx hb dX5_firstError_1 (by decide) ?_
  obtain ⟨m2, e2, hf⟩ := ob hf
  refine pf_X5_29 hx hb hB hK hown hW hS e2 dX5_firstError_2 (fun H locs hW hS => ?_)
  refine lv_aload_n hx hb dX5_firstError_5 rfl (lv_at hl 0 rfl) ?_
  obtain ⟨⟨v6, m6⟩, e6, hf⟩ := ob2 hf
  dsimp only at hf
  refine c_V (As := []) (st1 := [.int v6]) (rest := []) (p_X5_isText l E x m2 g o e6) (kc_X5_147 hB ⟨Nat.le_of_ble_eq_true rfl, Nat.le_of_ble_eq_true rfl⟩) (Wd.rec hK hW (by decide) cM_0 (ci := 5) rfl) hx hb hml hown hB hK hW hS ⟨Nat.zero_le _, Nat.zero_le _⟩ rfl hl.1 rfl (Nat.le_of_ble_eq_true rfl) rfl dX5_firstError_6 (fun H locs hW hS => ?_)
  refine lv_if_eq (tgt := 19) hx hb dX5_firstError_9 (by decide) (fun c9 => ?_) (fun c9 => ?_)
  · rw [if_pos c9] at hf
    refine lv_aload_n hx hb dX5_firstError_19 rfl (lv_at hl 0 rfl) ?_
    refine gf_X5_131 hx hb hB hK hown hW dX5_firstError_20 ?_
    cases hf
    exact e_i hx hb hr hlk hW hS dX5_firstError_23
  · rw [if_neg c9] at hf
    refine lv_aload_n hx hb dX5_firstError_12 rfl (lv_at hl 0 rfl) ?_
    refine gf_X5_128 hx hb hB hK hown hW dX5_firstError_13 ?_
    refine lv_goto (tgt := 23) hx hb dX5_firstError_16 (by decide) ?_
    cases hf
    exact e_i hx hb hr hlk hW hS dX5_firstError_23
def f_X5_complainAll_46 : Nat → XS → Int32 → Option (Int32 × XS)
  | 0, _, _ => none
  | n46 + 1, m46, l1_46 =>
    if ((m46 0 9) ≤ l1_46 : Prop) then
      ((some (ux m46 0 5 0)).bind fun m94 =>
      (aget 442 (m94 1) 0).bind fun v102 =>
      some (v102, m94))
    else
      ((aget 45 (m46 5) (3 * l1_46)).bind fun v62 =>
      (aget 45 (m46 5) ((3 * l1_46) + 1)).bind fun v72 =>
      (aget 45 (m46 5) ((3 * l1_46) + 2)).bind fun v82 =>
      (f_X5_complainNow m46 v62 v72 v82).bind fun m83 =>
      (some (l1_46 + 1)).bind fun v86 =>
      f_X5_complainAll_46 n46 m83 v86)
def f_X5_complainAll (m : XS) : Option (Int32 × XS) :=
    (some (ux m 0 6 0)).bind fun m2 =>
    (f_X5_isText m2).bind fun q6 => (fun v6 m6 =>
    if (v6 = 0 : Prop) then
      ((f_X5_fails m6 1).bind fun q14 => (fun v14 m14 =>
      some (v14, m14)) q14.1 q14.2)
    else
      ((aget 442 (m6 1) 0).bind fun v23 =>
      if ((v23 + (m6 0 9)) ≤ 24 : Prop) then
        ((f_X5_save m6).bind fun m41 =>
        f_X5_complainAll_46 4096 m41 0)
      else
        ((f_X5_fails m6 2).bind fun q36 => (fun v36 m36 =>
        some (v36, m36)) q36.1 q36.2))) q6.1 q6.2
set_option maxRecDepth 100000 in
set_option maxHeartbeats 4000000 in
theorem p_X5_complainAll (l : Launch) (E : TE) (x m : XS) (g o : Int64) {r : Int32} {mr : XS} (hf : f_X5_complainAll m = some (r, mr)) : MG l E yX5_complainAll cX5_complainAll 2 (some .int) 4 [rf E 211] (Wd E x m g o) (Wd E x mr g o) (some (.int r)) := by
  unfold f_X5_complainAll at hf
  refine m_in (by decide) (Nat.le_of_ble_eq_true rfl) ?_
  intro p e s mi args below meth c H ls hx hb hr hlk hml hown hB hK hW hS hl
  have hl : lv_has ls 2 [(0, rf E 211)] := hl
  have J46 : ∀ (n46 : Nat), ∀ (m46 : XS) (l1_46 : Int32) (H : Heap) (locs : List Loc) (ls : Array Slot), f_X5_complainAll_46 n46 m46 l1_46 = some (r, mr) → Wd E x m46 g o H → va_S (Ah E) s.heap H locs → lv_has ls 2 [(0, rf E 211), (1, .int l1_46)] → W p l e (rmH 4) s mi args below meth c H locs 0 0 (EQ E below args s (Wd E x mr g o) (some (.int r))) (F0 mi 46 ls []) := by
    intro n46
    induction n46 with
    | zero => intro m46 l1_46 H locs ls hf; exact absurd hf (fun z => nomatch (show (none : Option (Int32 × XS)) = some _ from z))
    | succ n46 ih46 =>
      intro m46 l1_46 H locs ls hf hW hS hl
      rw [f_X5_complainAll_46.eq_2] at hf
      refine lv_iload_n hx hb dX5_complainAll_46 rfl (lv_at hl 1 rfl) ?_
      refine lv_aload_n hx hb dX5_complainAll_47 rfl (lv_at hl 0 rfl) ?_
      refine gf_X5_134 hx hb hB hK hown hW dX5_complainAll_48 ?_
      refine lv_icmp_ge (tgt := 92) hx hb dX5_complainAll_51 (by decide) (fun c51 => ?_) (fun c51 => ?_)
      · rw [if_pos c51] at hf
        refine lv_aload_n hx hb dX5_complainAll_92 rfl (lv_at hl 0 rfl) ?_
        refine lv_iconst (v := 0) hx hb dX5_complainAll_93 (by decide) ?_
        obtain ⟨m94, e94, hf⟩ := ob hf
        refine pf_X5_128 hx hb hB hK hown hW hS e94 dX5_complainAll_94 (fun H locs hW hS => ?_)
        refine lv_aload_n hx hb dX5_complainAll_97 rfl (lv_at hl 0 rfl) ?_
        refine gf_X5_7 hx hb hB hK hown hW dX5_complainAll_98 ?_
        refine lv_iconst (v := 0) hx hb dX5_complainAll_101 (by decide) ?_
        obtain ⟨v102, e102, hf⟩ := ob2 hf
        refine r_iald hx hb hK hW (by decide) (cM_1) e102 dX5_complainAll_102 ?_
        cases hf
        exact e_i hx hb hr hlk hW hS dX5_complainAll_103
      · rw [if_neg c51] at hf
        refine lv_aload_n hx hb dX5_complainAll_54 rfl (lv_at hl 0 rfl) ?_
        refine lv_aload_n hx hb dX5_complainAll_55 rfl (lv_at hl 0 rfl) ?_
        refine gf_X5_22 hx hb hB hK hown hW dX5_complainAll_56 ?_
        refine lv_iconst (v := 3) hx hb dX5_complainAll_59 (by decide) ?_
        refine lv_iload_n hx hb dX5_complainAll_60 rfl (lv_at hl 1 rfl) ?_
        refine lv_imul hx hb dX5_complainAll_61 ?_
        obtain ⟨v62, e62, hf⟩ := ob2 hf
        refine r_iald hx hb hK hW (by decide) (cM_5) e62 dX5_complainAll_62 ?_
        refine lv_aload_n hx hb dX5_complainAll_63 rfl (lv_at hl 0 rfl) ?_
        refine gf_X5_22 hx hb hB hK hown hW dX5_complainAll_64 ?_
        refine lv_iconst (v := 3) hx hb dX5_complainAll_67 (by decide) ?_
        refine lv_iload_n hx hb dX5_complainAll_68 rfl (lv_at hl 1 rfl) ?_
        refine lv_imul hx hb dX5_complainAll_69 ?_
        refine lv_iconst (v := 1) hx hb dX5_complainAll_70 (by decide) ?_
        refine lv_iadd hx hb dX5_complainAll_71 ?_
        obtain ⟨v72, e72, hf⟩ := ob2 hf
        refine r_iald hx hb hK hW (by decide) (cM_5) e72 dX5_complainAll_72 ?_
        refine lv_aload_n hx hb dX5_complainAll_73 rfl (lv_at hl 0 rfl) ?_
        refine gf_X5_22 hx hb hB hK hown hW dX5_complainAll_74 ?_
        refine lv_iconst (v := 3) hx hb dX5_complainAll_77 (by decide) ?_
        refine lv_iload_n hx hb dX5_complainAll_78 rfl (lv_at hl 1 rfl) ?_
        refine lv_imul hx hb dX5_complainAll_79 ?_
        refine lv_iconst (v := 2) hx hb dX5_complainAll_80 (by decide) ?_
        refine lv_iadd hx hb dX5_complainAll_81 ?_
        obtain ⟨v82, e82, hf⟩ := ob2 hf
        refine r_iald hx hb hK hW (by decide) (cM_5) e82 dX5_complainAll_82 ?_
        obtain ⟨m83, e83, hf⟩ := ob2 hf
        refine c_V (As := [.int v62, .int v72, .int v82]) (st1 := []) (rest := []) (p_X5_complainNow l E x m46 g o e83) (kc_X5_76 hB ⟨Nat.le_of_ble_eq_true rfl, Nat.le_of_ble_eq_true rfl⟩) (Wd.rec hK hW (by decide) cM_0 (ci := 5) rfl) hx hb hml hown hB hK hW hS ⟨Nat.zero_le _, Nat.zero_le _⟩ rfl hl.1 rfl (Nat.le_of_ble_eq_true rfl) rfl dX5_complainAll_83 (fun H locs hW hS => ?_)
        obtain ⟨v86, e86, hf⟩ := ob hf
        refine lv_iinc (v := v86) (lv' := [(1, .int v86), (0, rf E 211)]) hx hb dX5_complainAll_86 hl (k := 1) rfl (by rw [e86]; rfl) (by decide) rfl (fun ls hl => ?_)
        refine lv_goto (tgt := 46) hx hb dX5_complainAll_89 (by decide) ?_
        exact ih46 m83 v86 _ _ _ hf hW hS (lv_sub hl [1, 0] rfl)
  refine lv_aload_n hx hb dX5_complainAll_0 rfl (lv_at hl 0 rfl) ?_
  refine lv_iconst (v := 0) hx hb dX5_complainAll_1 (by decide) ?_
  obtain ⟨m2, e2, hf⟩ := ob hf
  refine pf_X5_29 hx hb hB hK hown hW hS e2 dX5_complainAll_2 (fun H locs hW hS => ?_)
  refine lv_aload_n hx hb dX5_complainAll_5 rfl (lv_at hl 0 rfl) ?_
  obtain ⟨⟨v6, m6⟩, e6, hf⟩ := ob2 hf
  dsimp only at hf
  refine c_V (As := []) (st1 := [.int v6]) (rest := []) (p_X5_isText l E x m2 g o e6) (kc_X5_147 hB ⟨Nat.le_of_ble_eq_true rfl, Nat.le_of_ble_eq_true rfl⟩) (Wd.rec hK hW (by decide) cM_0 (ci := 5) rfl) hx hb hml hown hB hK hW hS ⟨Nat.zero_le _, Nat.zero_le _⟩ rfl hl.1 rfl (Nat.le_of_ble_eq_true rfl) rfl dX5_complainAll_6 (fun H locs hW hS => ?_)
  refine lv_if_ne (tgt := 18) hx hb dX5_complainAll_9 (by decide) (fun c9 => ?_) (fun c9 => ?_)
  · rw [if_neg c9] at hf
    refine lv_aload_n hx hb dX5_complainAll_18 rfl (lv_at hl 0 rfl) ?_
    refine gf_X5_7 hx hb hB hK hown hW dX5_complainAll_19 ?_
    refine lv_iconst (v := 0) hx hb dX5_complainAll_22 (by decide) ?_
    obtain ⟨v23, e23, hf⟩ := ob2 hf
    refine r_iald hx hb hK hW (by decide) (cM_1) e23 dX5_complainAll_23 ?_
    refine lv_aload_n hx hb dX5_complainAll_24 rfl (lv_at hl 0 rfl) ?_
    refine gf_X5_134 hx hb hB hK hown hW dX5_complainAll_25 ?_
    refine lv_iadd hx hb dX5_complainAll_28 ?_
    refine lv_bipush (v := 24) hx hb dX5_complainAll_29 (by decide) ?_
    refine lv_icmp_le (tgt := 40) hx hb dX5_complainAll_31 (by decide) (fun c31 => ?_) (fun c31 => ?_)
    · rw [if_pos c31] at hf
      refine lv_aload_n hx hb dX5_complainAll_40 rfl (lv_at hl 0 rfl) ?_
      obtain ⟨m41, e41, hf⟩ := ob2 hf
      refine c_V (As := []) (st1 := []) (rest := []) (p_X5_save l E x m6 g o e41) (kc_X5_67 hB ⟨Nat.le_of_ble_eq_true rfl, Nat.le_of_ble_eq_true rfl⟩) (Wd.rec hK hW (by decide) cM_0 (ci := 5) rfl) hx hb hml hown hB hK hW hS ⟨Nat.zero_le _, Nat.zero_le _⟩ rfl hl.1 rfl (Nat.le_of_ble_eq_true rfl) rfl dX5_complainAll_41 (fun H locs hW hS => ?_)
      refine lv_iconst (v := 0) hx hb dX5_complainAll_44 (by decide) ?_
      refine lv_istore_n (lv' := [(1, .int 0), (0, rf E 211)]) hx hb dX5_complainAll_45 rfl hl (by decide) rfl (fun ls hl => ?_)
      exact J46 4096 m41 0 _ _ _ hf hW hS (lv_sub hl [1, 0] rfl)
    · rw [if_neg c31] at hf
      refine lv_aload_n hx hb dX5_complainAll_34 rfl (lv_at hl 0 rfl) ?_
      refine lv_iconst (v := 2) hx hb dX5_complainAll_35 (by decide) ?_
      obtain ⟨⟨v36, m36⟩, e36, hf⟩ := ob2 hf
      dsimp only at hf
      refine c_V (As := [.int 2]) (st1 := [.int v36]) (rest := []) (p_X5_fails l E x m6 g o e36) (kc_X5_64 hB ⟨Nat.le_of_ble_eq_true rfl, Nat.le_of_ble_eq_true rfl⟩) (Wd.rec hK hW (by decide) cM_0 (ci := 5) rfl) hx hb hml hown hB hK hW hS ⟨Nat.zero_le _, Nat.zero_le _⟩ rfl hl.1 rfl (Nat.le_of_ble_eq_true rfl) rfl dX5_complainAll_36 (fun H locs hW hS => ?_)
      cases hf
      exact e_i hx hb hr hlk hW hS dX5_complainAll_39
  · rw [if_pos c9] at hf
    refine lv_aload_n hx hb dX5_complainAll_12 rfl (lv_at hl 0 rfl) ?_
    refine lv_iconst (v := 1) hx hb dX5_complainAll_13 (by decide) ?_
    obtain ⟨⟨v14, m14⟩, e14, hf⟩ := ob2 hf
    dsimp only at hf
    refine c_V (As := [.int 1]) (st1 := [.int v14]) (rest := []) (p_X5_fails l E x m6 g o e14) (kc_X5_64 hB ⟨Nat.le_of_ble_eq_true rfl, Nat.le_of_ble_eq_true rfl⟩) (Wd.rec hK hW (by decide) cM_0 (ci := 5) rfl) hx hb hml hown hB hK hW hS ⟨Nat.zero_le _, Nat.zero_le _⟩ rfl hl.1 rfl (Nat.le_of_ble_eq_true rfl) rfl dX5_complainAll_14 (fun H locs hW hS => ?_)
    cases hf
    exact e_i hx hb hr hlk hW hS dX5_complainAll_17
def f_X5_undo_30 : Nat → XS → Int32 → Option (Int32 × XS)
  | 0, _, _ => none
  | n30 + 1, m30, l1_30 =>
    if (442 ≤ l1_30 : Prop) then
      some ((m30 0 3), m30)
    else
      ((aget 2652 (m30 2) ((442 * (m30 0 3)) + l1_30)).bind fun v56 =>
      (aset m30 1 442 l1_30 v56).bind fun m57 =>
      (some (l1_30 + 1)).bind fun v58 =>
      f_X5_undo_30 n30 m57 v58)
def f_X5_undo (m : XS) : Option (Int32 × XS) :=
    (some (ux m 0 6 0)).bind fun m2 =>
    if ((m2 0 3) = 0 : Prop) then
      ((f_X5_fails m2 1).bind fun q14 => (fun v14 m14 =>
      some (v14, m14)) q14.1 q14.2)
    else
      ((some (ux m2 0 3 ((m2 0 3) - 1))).bind fun m25 =>
      f_X5_undo_30 4096 m25 0)
set_option maxRecDepth 100000 in
set_option maxHeartbeats 4000000 in
theorem p_X5_undo (l : Launch) (E : TE) (x m : XS) (g o : Int64) {r : Int32} {mr : XS} (hf : f_X5_undo m = some (r, mr)) : MG l E yX5_undo cX5_undo 2 (some .int) 1 [rf E 211] (Wd E x m g o) (Wd E x mr g o) (some (.int r)) := by
  unfold f_X5_undo at hf
  refine m_in (by decide) (Nat.le_of_ble_eq_true rfl) ?_
  intro p e s mi args below meth c H ls hx hb hr hlk hml hown hB hK hW hS hl
  have hl : lv_has ls 2 [(0, rf E 211)] := hl
  have J30 : ∀ (n30 : Nat), ∀ (m30 : XS) (l1_30 : Int32) (H : Heap) (locs : List Loc) (ls : Array Slot), f_X5_undo_30 n30 m30 l1_30 = some (r, mr) → Wd E x m30 g o H → va_S (Ah E) s.heap H locs → lv_has ls 2 [(0, rf E 211), (1, .int l1_30)] → W p l e (rmH 1) s mi args below meth c H locs 0 0 (EQ E below args s (Wd E x mr g o) (some (.int r))) (F0 mi 30 ls []) := by
    intro n30
    induction n30 with
    | zero => intro m30 l1_30 H locs ls hf; exact absurd hf (fun z => nomatch (show (none : Option (Int32 × XS)) = some _ from z))
    | succ n30 ih30 =>
      intro m30 l1_30 H locs ls hf hW hS hl
      rw [f_X5_undo_30.eq_2] at hf
      refine lv_iload_n hx hb dX5_undo_30 rfl (lv_at hl 1 rfl) ?_
      refine lv_sipush (v := 442) hx hb dX5_undo_31 (by decide) ?_
      refine lv_icmp_ge (tgt := 64) hx hb dX5_undo_34 (by decide) (fun c34 => ?_) (fun c34 => ?_)
      · rw [if_pos c34] at hf
        refine lv_aload_n hx hb dX5_undo_64 rfl (lv_at hl 0 rfl) ?_
        refine gf_X5_33 hx hb hB hK hown hW dX5_undo_65 ?_
        cases hf
        exact e_i hx hb hr hlk hW hS dX5_undo_68
      · rw [if_neg c34] at hf
        refine lv_aload_n hx hb dX5_undo_37 rfl (lv_at hl 0 rfl) ?_
        refine gf_X5_7 hx hb hB hK hown hW dX5_undo_38 ?_
        refine lv_iload_n hx hb dX5_undo_41 rfl (lv_at hl 1 rfl) ?_
        refine lv_aload_n hx hb dX5_undo_42 rfl (lv_at hl 0 rfl) ?_
        refine gf_X5_13 hx hb hB hK hown hW dX5_undo_43 ?_
        refine lv_sipush (v := 442) hx hb dX5_undo_46 (by decide) ?_
        refine lv_aload_n hx hb dX5_undo_49 rfl (lv_at hl 0 rfl) ?_
        refine gf_X5_33 hx hb hB hK hown hW dX5_undo_50 ?_
        refine lv_imul hx hb dX5_undo_53 ?_
        refine lv_iload_n hx hb dX5_undo_54 rfl (lv_at hl 1 rfl) ?_
        refine lv_iadd hx hb dX5_undo_55 ?_
        obtain ⟨v56, e56, hf⟩ := ob2 hf
        refine r_iald hx hb hK hW (by decide) (cM_2) e56 dX5_undo_56 ?_
        obtain ⟨m57, e57, hf⟩ := ob2 hf
        refine r_iastM (k := 1) hx hb hK hW hS (by decide) (fun _ => cM_1) e57 dX5_undo_57 (fun H locs hW hS => ?_)
        obtain ⟨v58, e58, hf⟩ := ob hf
        refine lv_iinc (v := v58) (lv' := [(1, .int v58), (0, rf E 211)]) hx hb dX5_undo_58 hl (k := 1) rfl (by rw [e58]; rfl) (by decide) rfl (fun ls hl => ?_)
        refine lv_goto (tgt := 30) hx hb dX5_undo_61 (by decide) ?_
        exact ih30 m57 v58 _ _ _ hf hW hS (lv_sub hl [1, 0] rfl)
  refine lv_aload_n hx hb dX5_undo_0 rfl (lv_at hl 0 rfl) ?_
  refine lv_iconst (v := 0) hx hb dX5_undo_1 (by decide) ?_
  obtain ⟨m2, e2, hf⟩ := ob hf
  refine pf_X5_29 hx hb hB hK hown hW hS e2 dX5_undo_2 (fun H locs hW hS => ?_)
  refine lv_aload_n hx hb dX5_undo_5 rfl (lv_at hl 0 rfl) ?_
  refine gf_X5_33 hx hb hB hK hown hW dX5_undo_6 ?_
  refine lv_if_ne (tgt := 18) hx hb dX5_undo_9 (by decide) (fun c9 => ?_) (fun c9 => ?_)
  · rw [if_neg c9] at hf
    refine lv_aload_n hx hb dX5_undo_18 rfl (lv_at hl 0 rfl) ?_
    refine lv_dup hx hb dX5_undo_19 rfl ?_
    refine gf_X5_33 hx hb hB hK hown hW dX5_undo_20 ?_
    refine lv_iconst (v := 1) hx hb dX5_undo_23 (by decide) ?_
    refine lv_isub hx hb dX5_undo_24 ?_
    obtain ⟨m25, e25, hf⟩ := ob hf
    refine pf_X5_33 hx hb hB hK hown hW hS e25 dX5_undo_25 (fun H locs hW hS => ?_)
    refine lv_iconst (v := 0) hx hb dX5_undo_28 (by decide) ?_
    refine lv_istore_n (lv' := [(1, .int 0), (0, rf E 211)]) hx hb dX5_undo_29 rfl hl (by decide) rfl (fun ls hl => ?_)
    exact J30 4096 m25 0 _ _ _ hf hW hS (lv_sub hl [1, 0] rfl)
  · rw [if_pos c9] at hf
    refine lv_aload_n hx hb dX5_undo_12 rfl (lv_at hl 0 rfl) ?_
    refine lv_iconst (v := 1) hx hb dX5_undo_13 (by decide) ?_
    obtain ⟨⟨v14, m14⟩, e14, hf⟩ := ob2 hf
    dsimp only at hf
    refine c_V (As := [.int 1]) (st1 := [.int v14]) (rest := []) (p_X5_fails l E x m2 g o e14) (kc_X5_64 hB ⟨Nat.le_of_ble_eq_true rfl, Nat.le_of_ble_eq_true rfl⟩) (Wd.rec hK hW (by decide) cM_0 (ci := 5) rfl) hx hb hml hown hB hK hW hS ⟨Nat.zero_le _, Nat.zero_le _⟩ rfl hl.1 rfl (Nat.le_of_ble_eq_true rfl) rfl dX5_undo_14 (fun H locs hW hS => ?_)
    cases hf
    exact e_i hx hb hr hlk hW hS dX5_undo_17
def f_X5_complaintOf_64 (m : XS) (l2_64 : Int32) (l3_64 : Int32) : Option (Int32) :=
    (aget 442 (m 1) (l3_64 + l2_64)).bind fun v71 =>
    some v71
def f_X5_complaintOf_91 (m : XS) (l2_91 : Int32) (l3_91 : Int32) : Option (Int32) :=
    if (l2_91 = 9 : Prop) then
      ((aget 442 (m 1) (l3_91 + 9)).bind fun v105 =>
      some v105)
    else
      ((aget 442 (m 1) ((l3_91 + l2_91) - 1)).bind fun v118 =>
      some v118)
def f_X5_complaintOf (m : XS) (a0 : Int32) (a1 : Int32) : Option (Int32) :=
    (f_X5_of a0).bind fun v1 =>
    if (a1 = 0 : Prop) then
      f_X5_complaintOf_64 m a1 v1
    else if (a1 = 1 : Prop) then
      f_X5_complaintOf_64 m a1 v1
    else if (a1 = 2 : Prop) then
      f_X5_complaintOf_64 m a1 v1
    else if (a1 = 3 : Prop) then
      ((aget 442 (m 1) (v1 + 1)).bind fun v80 =>
      (f_X5_group v80).bind fun v81 =>
      some v81)
    else if (a1 = 4 : Prop) then
      f_X5_complaintOf_91 m a1 v1
    else if (a1 = 5 : Prop) then
      f_X5_complaintOf_91 m a1 v1
    else if (a1 = 6 : Prop) then
      f_X5_complaintOf_91 m a1 v1
    else if (a1 = 7 : Prop) then
      f_X5_complaintOf_91 m a1 v1
    else if (a1 = 8 : Prop) then
      f_X5_complaintOf_91 m a1 v1
    else if (a1 = 9 : Prop) then
      f_X5_complaintOf_91 m a1 v1
    else if (a1 = 10 : Prop) then
      ((f_X5_waitsFor m a0).bind fun v87 =>
      some v87)
    else   f_X5_complaintOf_91 m a1 v1
set_option maxRecDepth 100000 in
set_option maxHeartbeats 4000000 in
theorem p_X5_complaintOf (l : Launch) (E : TE) (x m : XS) (g o : Int64) {a0 : Int32} {a1 : Int32} {r : Int32} (hf : f_X5_complaintOf m a0 a1 = some r) : MG l E yX5_complaintOf cX5_complaintOf 4 (some .int) 4 [rf E 211, .int a0, .int a1] (Wd E x m g o) (Wd E x m g o) (some (.int r)) := by
  unfold f_X5_complaintOf at hf
  refine m_in (by decide) (Nat.le_of_ble_eq_true rfl) ?_
  intro p e s mi args below meth c H ls hx hb hr hlk hml hown hB hK hW hS hl
  have hl : lv_has ls 4 [(0, rf E 211), (1, .int a0), (2, .int a1)] := hl
  have J64 : ∀ (l2_64 : Int32) (l3_64 : Int32) (H : Heap) (locs : List Loc) (ls : Array Slot), f_X5_complaintOf_64 m l2_64 l3_64 = some r → Wd E x m g o H → va_S (Ah E) s.heap H locs → lv_has ls 4 [(0, rf E 211), (2, .int l2_64), (3, .int l3_64)] → W p l e (rmH 4) s mi args below meth c H locs 0 0 (EQ E below args s (Wd E x m g o) (some (.int r))) (F0 mi 64 ls []) := by
    intro l2_64 l3_64 H locs ls hf hW hS hl
    unfold f_X5_complaintOf_64 at hf
    refine lv_aload_n hx hb dX5_complaintOf_64 rfl (lv_at hl 0 rfl) ?_
    refine gf_X5_7 hx hb hB hK hown hW dX5_complaintOf_65 ?_
    refine lv_iload_n hx hb dX5_complaintOf_68 rfl (lv_at hl 2 rfl) ?_
    refine lv_iload_n hx hb dX5_complaintOf_69 rfl (lv_at hl 1 rfl) ?_
    refine lv_iadd hx hb dX5_complaintOf_70 ?_
    obtain ⟨v71, e71, hf⟩ := ob2 hf
    refine r_iald hx hb hK hW (by decide) (cM_1) e71 dX5_complaintOf_71 ?_
    cases hf
    exact e_i hx hb hr hlk hW hS dX5_complaintOf_72
  have J91 : ∀ (l2_91 : Int32) (l3_91 : Int32) (H : Heap) (locs : List Loc) (ls : Array Slot), f_X5_complaintOf_91 m l2_91 l3_91 = some r → Wd E x m g o H → va_S (Ah E) s.heap H locs → lv_has ls 4 [(0, rf E 211), (2, .int l2_91), (3, .int l3_91)] → W p l e (rmH 4) s mi args below meth c H locs 0 0 (EQ E below args s (Wd E x m g o) (some (.int r))) (F0 mi 91 ls []) := by
    intro l2_91 l3_91 H locs ls hf hW hS hl
    unfold f_X5_complaintOf_91 at hf
    refine lv_iload_n hx hb dX5_complaintOf_91 rfl (lv_at hl 1 rfl) ?_
    refine lv_bipush (v := 9) hx hb dX5_complaintOf_92 (by decide) ?_
    refine lv_icmp_ne (tgt := 109) hx hb dX5_complaintOf_94 (by decide) (fun c94 => ?_) (fun c94 => ?_)
    · rw [if_neg c94] at hf
      refine lv_aload_n hx hb dX5_complaintOf_109 rfl (lv_at hl 0 rfl) ?_
      refine gf_X5_7 hx hb hB hK hown hW dX5_complaintOf_110 ?_
      refine lv_iload_n hx hb dX5_complaintOf_113 rfl (lv_at hl 2 rfl) ?_
      refine lv_iload_n hx hb dX5_complaintOf_114 rfl (lv_at hl 1 rfl) ?_
      refine lv_iadd hx hb dX5_complaintOf_115 ?_
      refine lv_iconst (v := 1) hx hb dX5_complaintOf_116 (by decide) ?_
      refine lv_isub hx hb dX5_complaintOf_117 ?_
      obtain ⟨v118, e118, hf⟩ := ob2 hf
      refine r_iald hx hb hK hW (by decide) (cM_1) e118 dX5_complaintOf_118 ?_
      cases hf
      exact e_i hx hb hr hlk hW hS dX5_complaintOf_119
    · rw [if_pos c94] at hf
      refine lv_aload_n hx hb dX5_complaintOf_97 rfl (lv_at hl 0 rfl) ?_
      refine gf_X5_7 hx hb hB hK hown hW dX5_complaintOf_98 ?_
      refine lv_iload_n hx hb dX5_complaintOf_101 rfl (lv_at hl 2 rfl) ?_
      refine lv_bipush (v := 9) hx hb dX5_complaintOf_102 (by decide) ?_
      refine lv_iadd hx hb dX5_complaintOf_104 ?_
      obtain ⟨v105, e105, hf⟩ := ob2 hf
      refine r_iald hx hb hK hW (by decide) (cM_1) e105 dX5_complaintOf_105 ?_
      refine lv_goto (tgt := 119) hx hb dX5_complaintOf_106 (by decide) ?_
      cases hf
      exact e_i hx hb hr hlk hW hS dX5_complaintOf_119
  refine lv_iload_n hx hb dX5_complaintOf_0 rfl (lv_at hl 1 rfl) ?_
  obtain ⟨v1, e1, hf⟩ := ob2 hf
  refine c_S (As := [.int a0]) (st1 := [.int v1]) (rest := []) (p_X5_of l E x m g o e1) (kc_X5_54 hB ⟨Nat.le_of_ble_eq_true rfl, Nat.le_of_ble_eq_true rfl⟩) hx hb hml hown hB hK hW hS ⟨Nat.zero_le _, Nat.zero_le _⟩ rfl hl.1 rfl (Nat.le_of_ble_eq_true rfl) rfl dX5_complaintOf_1 (fun H locs hW hS => ?_)
  refine lv_istore_n (lv' := [(3, .int v1), (0, rf E 211), (1, .int a0), (2, .int a1)]) hx hb dX5_complaintOf_4 rfl hl (by decide) rfl (fun ls hl => ?_)
  refine lv_iload_n hx hb dX5_complaintOf_5 rfl (lv_at hl 3 rfl) ?_
  by_cases c6_0 : a1 = 0
  · rw [if_pos c6_0] at hf
    refine lv_tableIn (tgt := 64) (off := 58) hx hb dX5_complaintOf_6 (by rw [c6_0]; decide) (by rw [c6_0]; decide) (by rw [c6_0]; rfl) (by decide) ?_
    exact J64 a1 v1 _ _ _ hf hW hS (lv_sub hl [1, 3, 0] rfl)
  rw [if_neg c6_0] at hf
  by_cases c6_1 : a1 = 1
  · rw [if_pos c6_1] at hf
    refine lv_tableIn (tgt := 64) (off := 58) hx hb dX5_complaintOf_6 (by rw [c6_1]; decide) (by rw [c6_1]; decide) (by rw [c6_1]; rfl) (by decide) ?_
    exact J64 a1 v1 _ _ _ hf hW hS (lv_sub hl [1, 3, 0] rfl)
  rw [if_neg c6_1] at hf
  by_cases c6_2 : a1 = 2
  · rw [if_pos c6_2] at hf
    refine lv_tableIn (tgt := 64) (off := 58) hx hb dX5_complaintOf_6 (by rw [c6_2]; decide) (by rw [c6_2]; decide) (by rw [c6_2]; rfl) (by decide) ?_
    exact J64 a1 v1 _ _ _ hf hW hS (lv_sub hl [1, 3, 0] rfl)
  rw [if_neg c6_2] at hf
  by_cases c6_3 : a1 = 3
  · rw [if_pos c6_3] at hf
    refine lv_tableIn (tgt := 73) (off := 67) hx hb dX5_complaintOf_6 (by rw [c6_3]; decide) (by rw [c6_3]; decide) (by rw [c6_3]; rfl) (by decide) ?_
    refine lv_aload_n hx hb dX5_complaintOf_73 rfl (lv_at hl 1 rfl) ?_
    refine gf_X5_7 hx hb hB hK hown hW dX5_complaintOf_74 ?_
    refine lv_iload_n hx hb dX5_complaintOf_77 rfl (lv_at hl 0 rfl) ?_
    refine lv_iconst (v := 1) hx hb dX5_complaintOf_78 (by decide) ?_
    refine lv_iadd hx hb dX5_complaintOf_79 ?_
    obtain ⟨v80, e80, hf⟩ := ob2 hf
    refine r_iald hx hb hK hW (by decide) (cM_1) e80 dX5_complaintOf_80 ?_
    obtain ⟨v81, e81, hf⟩ := ob2 hf
    refine c_S (As := [.int v80]) (st1 := [.int v81]) (rest := []) (p_X5_group l E x m g o e81) (kc_X5_80 hB ⟨Nat.le_of_ble_eq_true rfl, Nat.le_of_ble_eq_true rfl⟩) hx hb hml hown hB hK hW hS ⟨Nat.zero_le _, Nat.zero_le _⟩ rfl hl.1 rfl (Nat.le_of_ble_eq_true rfl) rfl dX5_complaintOf_81 (fun H locs hW hS => ?_)
    cases hf
    exact e_i hx hb hr hlk hW hS dX5_complaintOf_84
  rw [if_neg c6_3] at hf
  by_cases c6_4 : a1 = 4
  · rw [if_pos c6_4] at hf
    refine lv_tableIn (tgt := 91) (off := 85) hx hb dX5_complaintOf_6 (by rw [c6_4]; decide) (by rw [c6_4]; decide) (by rw [c6_4]; rfl) (by decide) ?_
    exact J91 a1 v1 _ _ _ hf hW hS (lv_sub hl [1, 3, 0] rfl)
  rw [if_neg c6_4] at hf
  by_cases c6_5 : a1 = 5
  · rw [if_pos c6_5] at hf
    refine lv_tableIn (tgt := 91) (off := 85) hx hb dX5_complaintOf_6 (by rw [c6_5]; decide) (by rw [c6_5]; decide) (by rw [c6_5]; rfl) (by decide) ?_
    exact J91 a1 v1 _ _ _ hf hW hS (lv_sub hl [1, 3, 0] rfl)
  rw [if_neg c6_5] at hf
  by_cases c6_6 : a1 = 6
  · rw [if_pos c6_6] at hf
    refine lv_tableIn (tgt := 91) (off := 85) hx hb dX5_complaintOf_6 (by rw [c6_6]; decide) (by rw [c6_6]; decide) (by rw [c6_6]; rfl) (by decide) ?_
    exact J91 a1 v1 _ _ _ hf hW hS (lv_sub hl [1, 3, 0] rfl)
  rw [if_neg c6_6] at hf
  by_cases c6_7 : a1 = 7
  · rw [if_pos c6_7] at hf
    refine lv_tableIn (tgt := 91) (off := 85) hx hb dX5_complaintOf_6 (by rw [c6_7]; decide) (by rw [c6_7]; decide) (by rw [c6_7]; rfl) (by decide) ?_
    exact J91 a1 v1 _ _ _ hf hW hS (lv_sub hl [1, 3, 0] rfl)
  rw [if_neg c6_7] at hf
  by_cases c6_8 : a1 = 8
  · rw [if_pos c6_8] at hf
    refine lv_tableIn (tgt := 91) (off := 85) hx hb dX5_complaintOf_6 (by rw [c6_8]; decide) (by rw [c6_8]; decide) (by rw [c6_8]; rfl) (by decide) ?_
    exact J91 a1 v1 _ _ _ hf hW hS (lv_sub hl [1, 3, 0] rfl)
  rw [if_neg c6_8] at hf
  by_cases c6_9 : a1 = 9
  · rw [if_pos c6_9] at hf
    refine lv_tableIn (tgt := 91) (off := 85) hx hb dX5_complaintOf_6 (by rw [c6_9]; decide) (by rw [c6_9]; decide) (by rw [c6_9]; rfl) (by decide) ?_
    exact J91 a1 v1 _ _ _ hf hW hS (lv_sub hl [1, 3, 0] rfl)
  rw [if_neg c6_9] at hf
  by_cases c6_10 : a1 = 10
  · rw [if_pos c6_10] at hf
    refine lv_tableIn (tgt := 85) (off := 79) hx hb dX5_complaintOf_6 (by rw [c6_10]; decide) (by rw [c6_10]; decide) (by rw [c6_10]; rfl) (by decide) ?_
    refine lv_aload_n hx hb dX5_complaintOf_85 rfl (lv_at hl 1 rfl) ?_
    refine lv_iload_n hx hb dX5_complaintOf_86 rfl (lv_at hl 2 rfl) ?_
    obtain ⟨v87, e87, hf⟩ := ob2 hf
    refine c_V (As := [.int a0]) (st1 := [.int v87]) (rest := []) (p_X5_waitsFor l E x m g o e87) (kc_X5_115 hB ⟨Nat.le_of_ble_eq_true rfl, Nat.le_of_ble_eq_true rfl⟩) (Wd.rec hK hW (by decide) cM_0 (ci := 5) rfl) hx hb hml hown hB hK hW hS ⟨Nat.zero_le _, Nat.zero_le _⟩ rfl hl.1 rfl (Nat.le_of_ble_eq_true rfl) rfl dX5_complaintOf_87 (fun H locs hW hS => ?_)
    cases hf
    exact e_i hx hb hr hlk hW hS dX5_complaintOf_90
  rw [if_neg c6_10] at hf
  refine lv_tableOut (tgt := 91) hx hb dX5_complaintOf_6 (by have h0 := lv_neT c6_0 (show (0 : Int32).toInt = 0 by decide); have h1 := lv_neT c6_1 (show (1 : Int32).toInt = 1 by decide); have h2 := lv_neT c6_2 (show (2 : Int32).toInt = 2 by decide); have h3 := lv_neT c6_3 (show (3 : Int32).toInt = 3 by decide); have h4 := lv_neT c6_4 (show (4 : Int32).toInt = 4 by decide); have h5 := lv_neT c6_5 (show (5 : Int32).toInt = 5 by decide); have h6 := lv_neT c6_6 (show (6 : Int32).toInt = 6 by decide); have h7 := lv_neT c6_7 (show (7 : Int32).toInt = 7 by decide); have h8 := lv_neT c6_8 (show (8 : Int32).toInt = 8 by decide); have h9 := lv_neT c6_9 (show (9 : Int32).toInt = 9 by decide); have h10 := lv_neT c6_10 (show (10 : Int32).toInt = 10 by decide); omega) (by decide) ?_
  exact J91 a1 v1 _ _ _ hf hW hS (lv_sub hl [1, 3, 0] rfl)
def f_X5_complaint (m : XS) (a0 : Int32) (a1 : Int32) : Option (Int32 × XS) :=
    (some (ux m 0 6 0)).bind fun m2 =>
    (f_X5_isComplaint m2 a0).bind fun v7 =>
    if (v7 = 0 : Prop) then
      ((f_X5_fails m2 1).bind fun q15 => (fun v15 m15 =>
      some (v15, m15)) q15.1 q15.2)
    else
      ((f_X5_in a1 0 10).bind fun v23 =>
      if (v23 = 0 : Prop) then
        ((f_X5_fails m2 2).bind fun q40 => (fun v40 m40 =>
        some (v40, m40)) q40.1 q40.2)
      else
        ((f_X5_complaintOf m2 a0 a1).bind fun v32 =>
        some (v32, m2)))
set_option maxRecDepth 100000 in
set_option maxHeartbeats 4000000 in
theorem p_X5_complaint (l : Launch) (E : TE) (x m : XS) (g o : Int64) {a0 : Int32} {a1 : Int32} {r : Int32} {mr : XS} (hf : f_X5_complaint m a0 a1 = some (r, mr)) : MG l E yX5_complaint cX5_complaint 3 (some .int) 5 [rf E 211, .int a0, .int a1] (Wd E x m g o) (Wd E x mr g o) (some (.int r)) := by
  unfold f_X5_complaint at hf
  refine m_in (by decide) (Nat.le_of_ble_eq_true rfl) ?_
  intro p e s mi args below meth c H ls hx hb hr hlk hml hown hB hK hW hS hl
  have hl : lv_has ls 3 [(0, rf E 211), (1, .int a0), (2, .int a1)] := hl
  refine lv_aload_n hx hb dX5_complaint_0 rfl (lv_at hl 0 rfl) ?_
  refine lv_iconst (v := 0) hx hb dX5_complaint_1 (by decide) ?_
  obtain ⟨m2, e2, hf⟩ := ob hf
  refine pf_X5_29 hx hb hB hK hown hW hS e2 dX5_complaint_2 (fun H locs hW hS => ?_)
  refine lv_aload_n hx hb dX5_complaint_5 rfl (lv_at hl 0 rfl) ?_
  refine lv_iload_n hx hb dX5_complaint_6 rfl (lv_at hl 1 rfl) ?_
  obtain ⟨v7, e7, hf⟩ := ob2 hf
  refine c_V (As := [.int a0]) (st1 := [.int v7]) (rest := []) (p_X5_isComplaint l E x m2 g o e7) (kc_X5_99 hB ⟨Nat.le_of_ble_eq_true rfl, Nat.le_of_ble_eq_true rfl⟩) (Wd.rec hK hW (by decide) cM_0 (ci := 5) rfl) hx hb hml hown hB hK hW hS ⟨Nat.zero_le _, Nat.zero_le _⟩ rfl hl.1 rfl (Nat.le_of_ble_eq_true rfl) rfl dX5_complaint_7 (fun H locs hW hS => ?_)
  refine lv_if_ne (tgt := 19) hx hb dX5_complaint_10 (by decide) (fun c10 => ?_) (fun c10 => ?_)
  · rw [if_neg c10] at hf
    refine lv_iload_n hx hb dX5_complaint_19 rfl (lv_at hl 2 rfl) ?_
    refine lv_iconst (v := 0) hx hb dX5_complaint_20 (by decide) ?_
    refine lv_bipush (v := 10) hx hb dX5_complaint_21 (by decide) ?_
    obtain ⟨v23, e23, hf⟩ := ob2 hf
    refine c_S (As := [.int a1, .int 0, .int 10]) (st1 := [.int v23]) (rest := []) (p_X5_in l E x m2 g o e23) (kc_X5_36 hB ⟨Nat.le_of_ble_eq_true rfl, Nat.le_of_ble_eq_true rfl⟩) hx hb hml hown hB hK hW hS ⟨Nat.zero_le _, Nat.zero_le _⟩ rfl hl.1 rfl (Nat.le_of_ble_eq_true rfl) rfl dX5_complaint_23 (fun H locs hW hS => ?_)
    refine lv_if_eq (tgt := 38) hx hb dX5_complaint_26 (by decide) (fun c26 => ?_) (fun c26 => ?_)
    · rw [if_pos c26] at hf
      refine lv_aload_n hx hb dX5_complaint_38 rfl (lv_at hl 0 rfl) ?_
      refine lv_iconst (v := 2) hx hb dX5_complaint_39 (by decide) ?_
      obtain ⟨⟨v40, m40⟩, e40, hf⟩ := ob2 hf
      dsimp only at hf
      refine c_V (As := [.int 2]) (st1 := [.int v40]) (rest := []) (p_X5_fails l E x m2 g o e40) (kc_X5_64 hB ⟨Nat.le_of_ble_eq_true rfl, Nat.le_of_ble_eq_true rfl⟩) (Wd.rec hK hW (by decide) cM_0 (ci := 5) rfl) hx hb hml hown hB hK hW hS ⟨Nat.zero_le _, Nat.zero_le _⟩ rfl hl.1 rfl (Nat.le_of_ble_eq_true rfl) rfl dX5_complaint_40 (fun H locs hW hS => ?_)
      cases hf
      exact e_i hx hb hr hlk hW hS dX5_complaint_43
    · rw [if_neg c26] at hf
      refine lv_aload_n hx hb dX5_complaint_29 rfl (lv_at hl 0 rfl) ?_
      refine lv_iload_n hx hb dX5_complaint_30 rfl (lv_at hl 1 rfl) ?_
      refine lv_iload_n hx hb dX5_complaint_31 rfl (lv_at hl 2 rfl) ?_
      obtain ⟨v32, e32, hf⟩ := ob2 hf
      refine c_V (As := [.int a0, .int a1]) (st1 := [.int v32]) (rest := []) (p_X5_complaintOf l E x m2 g o e32) (kc_X5_150 hB ⟨Nat.le_of_ble_eq_true rfl, Nat.le_of_ble_eq_true rfl⟩) (Wd.rec hK hW (by decide) cM_0 (ci := 5) rfl) hx hb hml hown hB hK hW hS ⟨Nat.zero_le _, Nat.zero_le _⟩ rfl hl.1 rfl (Nat.le_of_ble_eq_true rfl) rfl dX5_complaint_32 (fun H locs hW hS => ?_)
      refine lv_goto (tgt := 43) hx hb dX5_complaint_35 (by decide) ?_
      cases hf
      exact e_i hx hb hr hlk hW hS dX5_complaint_43
  · rw [if_pos c10] at hf
    refine lv_aload_n hx hb dX5_complaint_13 rfl (lv_at hl 0 rfl) ?_
    refine lv_iconst (v := 1) hx hb dX5_complaint_14 (by decide) ?_
    obtain ⟨⟨v15, m15⟩, e15, hf⟩ := ob2 hf
    dsimp only at hf
    refine c_V (As := [.int 1]) (st1 := [.int v15]) (rest := []) (p_X5_fails l E x m2 g o e15) (kc_X5_64 hB ⟨Nat.le_of_ble_eq_true rfl, Nat.le_of_ble_eq_true rfl⟩) (Wd.rec hK hW (by decide) cM_0 (ci := 5) rfl) hx hb hml hown hB hK hW hS ⟨Nat.zero_le _, Nat.zero_le _⟩ rfl hl.1 rfl (Nat.le_of_ble_eq_true rfl) rfl dX5_complaint_15 (fun H locs hW hS => ?_)
    cases hf
    exact e_i hx hb hr hlk hW hS dX5_complaint_18
def f_X5_having_52 (m : XS) (k5 : Int32 → Int32 → Int32 → Int32 → Option (Int32)) (l1_52 : Int32) (l2_52 : Int32) (l4_52 : Int32) (t0_52 : Int32) (t1_52 : Int32) : Option (Int32) :=
    (some ((t1_52 + t0_52))).bind fun v53 =>
    (some (l4_52 + 1)).bind fun v54 =>
    k5 l1_52 l2_52 v53 v54
def f_X5_having_51 (m : XS) (k5 : Int32 → Int32 → Int32 → Int32 → Option (Int32)) (l1_51 : Int32) (l2_51 : Int32) (l4_51 : Int32) (t0_51 : Int32) : Option (Int32) :=
    f_X5_having_52 m k5 l1_51 l2_51 l4_51 0 t0_51
def f_X5_having_5 (m : XS) : Nat → Int32 → Int32 → Int32 → Int32 → Option (Int32)
  | 0, _, _, _, _ => none
  | n5 + 1, l1_5, l2_5, l3_5, l4_5 =>
    (aget 442 (m 1) 0).bind fun v12 =>
    if (v12 ≤ l4_5 : Prop) then
      some l3_5
    else
      ((f_X5_of l4_5).bind fun v23 =>
      (aget 442 (m 1) v23).bind fun v26 =>
      if (v26 = l1_5 : Prop) then
        ((f_X5_of l4_5).bind fun v37 =>
        (aget 442 (m 1) (v37 + 4)).bind fun v42 =>
        if (v42 = l2_5 : Prop) then
          f_X5_having_52 m (f_X5_having_5 m n5) l1_5 l2_5 l4_5 1 l3_5
        else
          f_X5_having_51 m (f_X5_having_5 m n5) l1_5 l2_5 l4_5 l3_5)
      else
        f_X5_having_51 m (f_X5_having_5 m n5) l1_5 l2_5 l4_5 l3_5)
def f_X5_having (m : XS) (a0 : Int32) (a1 : Int32) : Option (Int32) :=
    f_X5_having_5 m 4096 a0 a1 0 0
set_option maxRecDepth 100000 in
set_option maxHeartbeats 4000000 in
theorem p_X5_having (l : Launch) (E : TE) (x m : XS) (g o : Int64) {a0 : Int32} {a1 : Int32} {r : Int32} (hf : f_X5_having m a0 a1 = some r) : MG l E yX5_having cX5_having 5 (some .int) 1 [rf E 211, .int a0, .int a1] (Wd E x m g o) (Wd E x m g o) (some (.int r)) := by
  unfold f_X5_having at hf
  refine m_in (by decide) (Nat.le_of_ble_eq_true rfl) ?_
  intro p e s mi args below meth c H ls hx hb hr hlk hml hown hB hK hW hS hl
  have hl : lv_has ls 5 [(0, rf E 211), (1, .int a0), (2, .int a1)] := hl
  have J5 : ∀ (n5 : Nat), ∀ (l1_5 : Int32) (l2_5 : Int32) (l3_5 : Int32) (l4_5 : Int32) (H : Heap) (locs : List Loc) (ls : Array Slot), f_X5_having_5 m n5 l1_5 l2_5 l3_5 l4_5 = some r → Wd E x m g o H → va_S (Ah E) s.heap H locs → lv_has ls 5 [(0, rf E 211), (1, .int l1_5), (2, .int l2_5), (3, .int l3_5), (4, .int l4_5)] → W p l e (rmH 1) s mi args below meth c H locs 0 0 (EQ E below args s (Wd E x m g o) (some (.int r))) (F0 mi 5 ls []) := by
    intro n5
    induction n5 with
    | zero => intro l1_5 l2_5 l3_5 l4_5 H locs ls hf; exact absurd hf (fun z => nomatch (show (none : Option (Int32)) = some _ from z))
    | succ n5 ih5 =>
      intro l1_5 l2_5 l3_5 l4_5 H locs ls hf hW hS hl
      rw [f_X5_having_5.eq_2] at hf
      have J52 : ∀ (l1_52 : Int32) (l2_52 : Int32) (l4_52 : Int32) (t0_52 : Int32) (t1_52 : Int32) (H : Heap) (locs : List Loc) (ls : Array Slot), f_X5_having_52 m (f_X5_having_5 m n5) l1_52 l2_52 l4_52 t0_52 t1_52 = some r → Wd E x m g o H → va_S (Ah E) s.heap H locs → lv_has ls 5 [(0, rf E 211), (1, .int l1_52), (2, .int l2_52), (4, .int l4_52)] → W p l e (rmH 1) s mi args below meth c H locs 0 0 (EQ E below args s (Wd E x m g o) (some (.int r))) (F0 mi 52 ls [.int t0_52, .int t1_52]) := by
        intro l1_52 l2_52 l4_52 t0_52 t1_52 H locs ls hf hW hS hl
        unfold f_X5_having_52 at hf
        refine lv_iadd hx hb dX5_having_52 ?_
        obtain ⟨v53, e53, hf⟩ := ob hf
        refine lv_nm e53 ?_
        refine lv_istore_n (lv' := [(3, .int v53), (0, rf E 211), (1, .int l1_52), (2, .int l2_52), (4, .int l4_52)]) hx hb dX5_having_53 rfl hl (by decide) rfl (fun ls hl => ?_)
        obtain ⟨v54, e54, hf⟩ := ob hf
        refine lv_iinc (v := v54) (lv' := [(4, .int v54), (3, .int v53), (0, rf E 211), (1, .int l1_52), (2, .int l2_52)]) hx hb dX5_having_54 hl (k := 4) rfl (by rw [e54]; rfl) (by decide) rfl (fun ls hl => ?_)
        refine lv_goto (tgt := 5) hx hb dX5_having_57 (by decide) ?_
        exact ih5 l1_52 l2_52 v53 v54 _ _ _ hf hW hS (lv_sub hl [2, 3, 4, 1, 0] rfl)
      have J51 : ∀ (l1_51 : Int32) (l2_51 : Int32) (l4_51 : Int32) (t0_51 : Int32) (H : Heap) (locs : List Loc) (ls : Array Slot), f_X5_having_51 m (f_X5_having_5 m n5) l1_51 l2_51 l4_51 t0_51 = some r → Wd E x m g o H → va_S (Ah E) s.heap H locs → lv_has ls 5 [(0, rf E 211), (1, .int l1_51), (2, .int l2_51), (4, .int l4_51)] → W p l e (rmH 1) s mi args below meth c H locs 0 0 (EQ E below args s (Wd E x m g o) (some (.int r))) (F0 mi 51 ls [.int t0_51]) := by
        intro l1_51 l2_51 l4_51 t0_51 H locs ls hf hW hS hl
        unfold f_X5_having_51 at hf
        refine lv_iconst (v := 0) hx hb dX5_having_51 (by decide) ?_
        exact J52 l1_51 l2_51 l4_51 0 t0_51 _ _ _ hf hW hS (lv_sub hl [0, 1, 2, 3] rfl)
      refine lv_iload hx hb dX5_having_5 (lv_at hl 4 rfl) ?_
      refine lv_aload_n hx hb dX5_having_7 rfl (lv_at hl 0 rfl) ?_
      refine gf_X5_7 hx hb hB hK hown hW dX5_having_8 ?_
      refine lv_iconst (v := 0) hx hb dX5_having_11 (by decide) ?_
      obtain ⟨v12, e12, hf⟩ := ob2 hf
      refine r_iald hx hb hK hW (by decide) (cM_1) e12 dX5_having_12 ?_
      refine lv_icmp_ge (tgt := 60) hx hb dX5_having_13 (by decide) (fun c13 => ?_) (fun c13 => ?_)
      · rw [if_pos c13] at hf
        refine lv_iload_n hx hb dX5_having_60 rfl (lv_at hl 3 rfl) ?_
        cases hf
        exact e_i hx hb hr hlk hW hS dX5_having_61
      · rw [if_neg c13] at hf
        refine lv_iload_n hx hb dX5_having_16 rfl (lv_at hl 3 rfl) ?_
        refine lv_aload_n hx hb dX5_having_17 rfl (lv_at hl 0 rfl) ?_
        refine gf_X5_7 hx hb hB hK hown hW dX5_having_18 ?_
        refine lv_iload hx hb dX5_having_21 (lv_at hl 4 rfl) ?_
        obtain ⟨v23, e23, hf⟩ := ob2 hf
        refine c_S (As := [.int l4_5]) (st1 := [.int v23, rf E 212, .int l3_5]) (rest := [rf E 212, .int l3_5]) (p_X5_of l E x m g o e23) (kc_X5_54 hB ⟨Nat.le_of_ble_eq_true rfl, Nat.le_of_ble_eq_true rfl⟩) hx hb hml hown hB hK hW hS ⟨Nat.zero_le _, Nat.zero_le _⟩ rfl hl.1 rfl (Nat.le_of_ble_eq_true rfl) rfl dX5_having_23 (fun H locs hW hS => ?_)
        obtain ⟨v26, e26, hf⟩ := ob2 hf
        refine r_iald hx hb hK hW (by decide) (cM_1) e26 dX5_having_26 ?_
        refine lv_iload_n hx hb dX5_having_27 rfl (lv_at hl 1 rfl) ?_
        refine lv_icmp_ne (tgt := 51) hx hb dX5_having_28 (by decide) (fun c28 => ?_) (fun c28 => ?_)
        · rw [if_neg c28] at hf
          exact J51 l1_5 l2_5 l4_5 l3_5 _ _ _ hf hW hS (lv_sub hl [0, 1, 2, 4] rfl)
        · rw [if_pos c28] at hf
          refine lv_aload_n hx hb dX5_having_31 rfl (lv_at hl 0 rfl) ?_
          refine gf_X5_7 hx hb hB hK hown hW dX5_having_32 ?_
          refine lv_iload hx hb dX5_having_35 (lv_at hl 4 rfl) ?_
          obtain ⟨v37, e37, hf⟩ := ob2 hf
          refine c_S (As := [.int l4_5]) (st1 := [.int v37, rf E 212, .int l3_5]) (rest := [rf E 212, .int l3_5]) (p_X5_of l E x m g o e37) (kc_X5_54 hB ⟨Nat.le_of_ble_eq_true rfl, Nat.le_of_ble_eq_true rfl⟩) hx hb hml hown hB hK hW hS ⟨Nat.zero_le _, Nat.zero_le _⟩ rfl hl.1 rfl (Nat.le_of_ble_eq_true rfl) rfl dX5_having_37 (fun H locs hW hS => ?_)
          refine lv_iconst (v := 4) hx hb dX5_having_40 (by decide) ?_
          refine lv_iadd hx hb dX5_having_41 ?_
          obtain ⟨v42, e42, hf⟩ := ob2 hf
          refine r_iald hx hb hK hW (by decide) (cM_1) e42 dX5_having_42 ?_
          refine lv_iload_n hx hb dX5_having_43 rfl (lv_at hl 2 rfl) ?_
          refine lv_icmp_ne (tgt := 51) hx hb dX5_having_44 (by decide) (fun c44 => ?_) (fun c44 => ?_)
          · rw [if_neg c44] at hf
            exact J51 l1_5 l2_5 l4_5 l3_5 _ _ _ hf hW hS (lv_sub hl [0, 1, 2, 4] rfl)
          · rw [if_pos c44] at hf
            refine lv_iconst (v := 1) hx hb dX5_having_47 (by decide) ?_
            refine lv_goto (tgt := 52) hx hb dX5_having_48 (by decide) ?_
            exact J52 l1_5 l2_5 l4_5 1 l3_5 _ _ _ hf hW hS (lv_sub hl [0, 1, 2, 4] rfl)
  refine lv_iconst (v := 0) hx hb dX5_having_0 (by decide) ?_
  refine lv_istore_n (lv' := [(3, .int 0), (0, rf E 211), (1, .int a0), (2, .int a1)]) hx hb dX5_having_1 rfl hl (by decide) rfl (fun ls hl => ?_)
  refine lv_iconst (v := 0) hx hb dX5_having_2 (by decide) ?_
  refine lv_istore (lv' := [(4, .int 0), (3, .int 0), (0, rf E 211), (1, .int a0), (2, .int a1)]) hx hb dX5_having_3 hl (by decide) rfl (fun ls hl => ?_)
  exact J5 4096 a0 a1 0 0 _ _ _ hf hW hS (lv_sub hl [2, 3, 4, 1, 0] rfl)
def f_X5_amendsOf (m : XS) (a0 : Int32) (a1 : Int32) (a2 : Int32) : Option (Int32) :=
    if (a2 = 4 : Prop) then
      ((f_X5_having m a0 a1).bind fun v8 =>
      some v8)
    else
      ((f_X5_menuAt a0 a1).bind fun v20 =>
      (aget 442 (m 1) (v20 + a2)).bind fun v25 =>
      some v25)
set_option maxRecDepth 100000 in
set_option maxHeartbeats 4000000 in
theorem p_X5_amendsOf (l : Launch) (E : TE) (x m : XS) (g o : Int64) {a0 : Int32} {a1 : Int32} {a2 : Int32} {r : Int32} (hf : f_X5_amendsOf m a0 a1 a2 = some r) : MG l E yX5_amendsOf cX5_amendsOf 4 (some .int) 2 [rf E 211, .int a0, .int a1, .int a2] (Wd E x m g o) (Wd E x m g o) (some (.int r)) := by
  unfold f_X5_amendsOf at hf
  refine m_in (by decide) (Nat.le_of_ble_eq_true rfl) ?_
  intro p e s mi args below meth c H ls hx hb hr hlk hml hown hB hK hW hS hl
  have hl : lv_has ls 4 [(0, rf E 211), (1, .int a0), (2, .int a1), (3, .int a2)] := hl
  refine lv_iload_n hx hb dX5_amendsOf_0 rfl (lv_at hl 3 rfl) ?_
  refine lv_iconst (v := 4) hx hb dX5_amendsOf_1 (by decide) ?_
  refine lv_icmp_ne (tgt := 14) hx hb dX5_amendsOf_2 (by decide) (fun c2 => ?_) (fun c2 => ?_)
  · rw [if_neg c2] at hf
    refine lv_aload_n hx hb dX5_amendsOf_14 rfl (lv_at hl 0 rfl) ?_
    refine gf_X5_7 hx hb hB hK hown hW dX5_amendsOf_15 ?_
    refine lv_iload_n hx hb dX5_amendsOf_18 rfl (lv_at hl 1 rfl) ?_
    refine lv_iload_n hx hb dX5_amendsOf_19 rfl (lv_at hl 2 rfl) ?_
    obtain ⟨v20, e20, hf⟩ := ob2 hf
    refine c_S (As := [.int a0, .int a1]) (st1 := [.int v20, rf E 212]) (rest := [rf E 212]) (p_X5_menuAt l E x m g o e20) (kc_X5_44 hB ⟨Nat.le_of_ble_eq_true rfl, Nat.le_of_ble_eq_true rfl⟩) hx hb hml hown hB hK hW hS ⟨Nat.zero_le _, Nat.zero_le _⟩ rfl hl.1 rfl (Nat.le_of_ble_eq_true rfl) rfl dX5_amendsOf_20 (fun H locs hW hS => ?_)
    refine lv_iload_n hx hb dX5_amendsOf_23 rfl (lv_at hl 3 rfl) ?_
    refine lv_iadd hx hb dX5_amendsOf_24 ?_
    obtain ⟨v25, e25, hf⟩ := ob2 hf
    refine r_iald hx hb hK hW (by decide) (cM_1) e25 dX5_amendsOf_25 ?_
    cases hf
    exact e_i hx hb hr hlk hW hS dX5_amendsOf_26
  · rw [if_pos c2] at hf
    refine lv_aload_n hx hb dX5_amendsOf_5 rfl (lv_at hl 0 rfl) ?_
    refine lv_iload_n hx hb dX5_amendsOf_6 rfl (lv_at hl 1 rfl) ?_
    refine lv_iload_n hx hb dX5_amendsOf_7 rfl (lv_at hl 2 rfl) ?_
    obtain ⟨v8, e8, hf⟩ := ob2 hf
    refine c_V (As := [.int a0, .int a1]) (st1 := [.int v8]) (rest := []) (p_X5_having l E x m g o e8) (kc_X5_153 hB ⟨Nat.le_of_ble_eq_true rfl, Nat.le_of_ble_eq_true rfl⟩) (Wd.rec hK hW (by decide) cM_0 (ci := 5) rfl) hx hb hml hown hB hK hW hS ⟨Nat.zero_le _, Nat.zero_le _⟩ rfl hl.1 rfl (Nat.le_of_ble_eq_true rfl) rfl dX5_amendsOf_8 (fun H locs hW hS => ?_)
    refine lv_goto (tgt := 26) hx hb dX5_amendsOf_11 (by decide) ?_
    cases hf
    exact e_i hx hb hr hlk hW hS dX5_amendsOf_26
