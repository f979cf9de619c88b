theorem dX12_kindHere_19 : decode cX12_kindHere 19 = .ok (.iconst 2, 1) := by decide +kernel
theorem dX12_kindHere_20 : decode cX12_kindHere 20 = .ok (.bipush 9, 2) := by decide +kernel
theorem dX12_kindHere_22 : decode cX12_kindHere 22 = .ok (.iconst 4, 1) := by decide +kernel
theorem dX12_kindHere_23 : decode cX12_kindHere 23 = .ok (.iconst 0, 1) := by decide +kernel
theorem dX12_kindHere_24 : decode cX12_kindHere 24 = .ok (.iconst 0, 1) := by decide +kernel
theorem dX12_kindHere_25 : decode cX12_kindHere 25 = .ok (.iconst 0, 1) := by decide +kernel
theorem dX12_kindHere_26 : decode cX12_kindHere 26 = .ok (.invokevirtual 165, 3) := by decide +kernel
theorem dX12_kindHere_29 : decode cX12_kindHere 29 = .ok (.ifCond .eq 5, 3) := by decide +kernel
theorem dX12_kindHere_32 : decode cX12_kindHere 32 = .ok (.iconst 1, 1) := by decide +kernel
theorem dX12_kindHere_33 : decode cX12_kindHere 33 = .ok (.ireturn, 1) := by decide +kernel
theorem dX12_kindHere_34 : decode cX12_kindHere 34 = .ok (.aload_n 0, 1) := by decide +kernel
theorem dX12_kindHere_35 : decode cX12_kindHere 35 = .ok (.bipush 23, 2) := by decide +kernel
theorem dX12_kindHere_37 : decode cX12_kindHere 37 = .ok (.bipush 18, 2) := by decide +kernel
theorem dX12_kindHere_39 : decode cX12_kindHere 39 = .ok (.bipush 9, 2) := by decide +kernel
theorem dX12_kindHere_41 : decode cX12_kindHere 41 = .ok (.bipush 20, 2) := by decide +kernel
theorem dX12_kindHere_43 : decode cX12_kindHere 43 = .ok (.iconst 5, 1) := by decide +kernel
theorem dX12_kindHere_44 : decode cX12_kindHere 44 = .ok (.bipush 18, 2) := by decide +kernel
theorem dX12_kindHere_46 : decode cX12_kindHere 46 = .ok (.invokevirtual 165, 3) := by decide +kernel
theorem dX12_kindHere_49 : decode cX12_kindHere 49 = .ok (.ifCond .eq 5, 3) := by decide +kernel
theorem dX12_kindHere_52 : decode cX12_kindHere 52 = .ok (.iconst 2, 1) := by decide +kernel
theorem dX12_kindHere_53 : decode cX12_kindHere 53 = .ok (.ireturn, 1) := by decide +kernel
theorem dX12_kindHere_54 : decode cX12_kindHere 54 = .ok (.aload_n 0, 1) := by decide +kernel
theorem dX12_kindHere_55 : decode cX12_kindHere 55 = .ok (.bipush 11, 2) := by decide +kernel
theorem dX12_kindHere_57 : decode cX12_kindHere 57 = .ok (.bipush 9, 2) := by decide +kernel
theorem dX12_kindHere_59 : decode cX12_kindHere 59 = .ok (.bipush 14, 2) := by decide +kernel
theorem dX12_kindHere_61 : decode cX12_kindHere 61 = .ok (.iconst 0, 1) := by decide +kernel
theorem dX12_kindHere_62 : decode cX12_kindHere 62 = .ok (.iconst 0, 1) := by decide +kernel
theorem dX12_kindHere_63 : decode cX12_kindHere 63 = .ok (.iconst 0, 1) := by decide +kernel
theorem dX12_kindHere_64 : decode cX12_kindHere 64 = .ok (.invokevirtual 165, 3) := by decide +kernel
theorem dX12_kindHere_67 : decode cX12_kindHere 67 = .ok (.ifCond .eq 5, 3) := by decide +kernel
theorem dX12_kindHere_70 : decode cX12_kindHere 70 = .ok (.iconst 3, 1) := by decide +kernel
theorem dX12_kindHere_71 : decode cX12_kindHere 71 = .ok (.ireturn, 1) := by decide +kernel
theorem dX12_kindHere_72 : decode cX12_kindHere 72 = .ok (.aload_n 0, 1) := by decide +kernel
theorem dX12_kindHere_73 : decode cX12_kindHere 73 = .ok (.bipush 11, 2) := by decide +kernel
theorem dX12_kindHere_75 : decode cX12_kindHere 75 = .ok (.bipush 14, 2) := by decide +kernel
theorem dX12_kindHere_77 : decode cX12_kindHere 77 = .ok (.bipush 15, 2) := by decide +kernel
theorem dX12_kindHere_79 : decode cX12_kindHere 79 = .ok (.bipush 23, 2) := by decide +kernel
theorem dX12_kindHere_81 : decode cX12_kindHere 81 = .ok (.bipush 19, 2) := by decide +kernel
theorem dX12_kindHere_83 : decode cX12_kindHere 83 = .ok (.iconst 0, 1) := by decide +kernel
theorem dX12_kindHere_84 : decode cX12_kindHere 84 = .ok (.invokevirtual 165, 3) := by decide +kernel
theorem dX12_kindHere_87 : decode cX12_kindHere 87 = .ok (.ifCond .eq 7, 3) := by decide +kernel
theorem dX12_kindHere_90 : decode cX12_kindHere 90 = .ok (.iconst 4, 1) := by decide +kernel
theorem dX12_kindHere_91 : decode cX12_kindHere 91 = .ok (.goto 4, 3) := by decide +kernel
theorem dX12_kindHere_94 : decode cX12_kindHere 94 = .ok (.iconst (-1), 1) := by decide +kernel
theorem dX12_kindHere_95 : decode cX12_kindHere 95 = .ok (.ireturn, 1) := by decide +kernel
theorem dX12_mostOf_0 : decode cX12_mostOf 0 = .ok (.iload_n 0, 1) := by decide +kernel
theorem dX12_mostOf_1 : decode cX12_mostOf 1 = .ok (.ifCond .ne 7, 3) := by decide +kernel
theorem dX12_mostOf_4 : decode cX12_mostOf 4 = .ok (.iconst 4, 1) := by decide +kernel
theorem dX12_mostOf_5 : decode cX12_mostOf 5 = .ok (.goto 15, 3) := by decide +kernel
theorem dX12_mostOf_8 : decode cX12_mostOf 8 = .ok (.iload_n 0, 1) := by decide +kernel
theorem dX12_mostOf_9 : decode cX12_mostOf 9 = .ok (.iconst 1, 1) := by decide +kernel
theorem dX12_mostOf_10 : decode cX12_mostOf 10 = .ok (.if_icmp .ne 8, 3) := by decide +kernel
theorem dX12_mostOf_13 : decode cX12_mostOf 13 = .ok (.bipush 8, 2) := by decide +kernel
theorem dX12_mostOf_15 : decode cX12_mostOf 15 = .ok (.goto 5, 3) := by decide +kernel
theorem dX12_mostOf_18 : decode cX12_mostOf 18 = .ok (.bipush 6, 2) := by decide +kernel
theorem dX12_mostOf_20 : decode cX12_mostOf 20 = .ok (.ireturn, 1) := by decide +kernel
theorem dX12_clause_0 : decode cX12_clause 0 = .ok (.aload_n 0, 1) := by decide +kernel
theorem dX12_clause_1 : decode cX12_clause 1 = .ok (.invokevirtual 178, 3) := by decide +kernel
theorem dX12_clause_4 : decode cX12_clause 4 = .ok (.istore_n 1, 1) := by decide +kernel
theorem dX12_clause_5 : decode cX12_clause 5 = .ok (.iload_n 1, 1) := by decide +kernel
theorem dX12_clause_6 : decode cX12_clause 6 = .ok (.iconst (-1), 1) := by decide +kernel
theorem dX12_clause_7 : decode cX12_clause 7 = .ok (.if_icmp .ne 15, 3) := by decide +kernel
theorem dX12_clause_10 : decode cX12_clause 10 = .ok (.aload_n 0, 1) := by decide +kernel
theorem dX12_clause_11 : decode cX12_clause 11 = .ok (.iconst 1, 1) := by decide +kernel
theorem dX12_clause_12 : decode cX12_clause 12 = .ok (.aload_n 0, 1) := by decide +kernel
theorem dX12_clause_13 : decode cX12_clause 13 = .ok (.getfield 125, 3) := by decide +kernel
theorem dX12_clause_16 : decode cX12_clause 16 = .ok (.invokevirtual 145, 3) := by decide +kernel
theorem dX12_clause_19 : decode cX12_clause 19 = .ok (.goto 39, 3) := by decide +kernel
theorem dX12_clause_22 : decode cX12_clause 22 = .ok (.aload_n 0, 1) := by decide +kernel
theorem dX12_clause_23 : decode cX12_clause 23 = .ok (.getfield 172, 3) := by decide +kernel
theorem dX12_clause_26 : decode cX12_clause 26 = .ok (.bipush 60, 2) := by decide +kernel
theorem dX12_clause_28 : decode cX12_clause 28 = .ok (.if_icmp .eq 21, 3) := by decide +kernel
theorem dX12_clause_31 : decode cX12_clause 31 = .ok (.iload_n 1, 1) := by decide +kernel
theorem dX12_clause_32 : decode cX12_clause 32 = .ok (.iconst 3, 1) := by decide +kernel
theorem dX12_clause_33 : decode cX12_clause 33 = .ok (.if_icmp .ge 25, 3) := by decide +kernel
theorem dX12_clause_36 : decode cX12_clause 36 = .ok (.aload_n 0, 1) := by decide +kernel
theorem dX12_clause_37 : decode cX12_clause 37 = .ok (.getfield 20, 3) := by decide +kernel
theorem dX12_clause_40 : decode cX12_clause 40 = .ok (.iload_n 1, 1) := by decide +kernel
theorem dX12_clause_41 : decode cX12_clause 41 = .ok (.iaload, 1) := by decide +kernel
theorem dX12_clause_42 : decode cX12_clause 42 = .ok (.iload_n 1, 1) := by decide +kernel
theorem dX12_clause_43 : decode cX12_clause 43 = .ok (.invokestatic 181, 3) := by decide +kernel
theorem dX12_clause_46 : decode cX12_clause 46 = .ok (.if_icmp .ne 12, 3) := by decide +kernel
theorem dX12_clause_49 : decode cX12_clause 49 = .ok (.aload_n 0, 1) := by decide +kernel
theorem dX12_clause_50 : decode cX12_clause 50 = .ok (.iconst 3, 1) := by decide +kernel
theorem dX12_clause_51 : decode cX12_clause 51 = .ok (.aload_n 0, 1) := by decide +kernel
theorem dX12_clause_52 : decode cX12_clause 52 = .ok (.getfield 125, 3) := by decide +kernel
theorem dX12_clause_55 : decode cX12_clause 55 = .ok (.invokevirtual 145, 3) := by decide +kernel
theorem dX12_clause_58 : decode cX12_clause 58 = .ok (.aload_n 0, 1) := by decide +kernel
theorem dX12_clause_59 : decode cX12_clause 59 = .ok (.getfield 132, 3) := by decide +kernel
theorem dX12_clause_62 : decode cX12_clause 62 = .ok (.ifCond .eq 4, 3) := by decide +kernel
theorem dX12_clause_65 : decode cX12_clause 65 = .ok (.return_, 1) := by decide +kernel
theorem dX12_clause_66 : decode cX12_clause 66 = .ok (.aload_n 0, 1) := by decide +kernel
theorem dX12_clause_67 : decode cX12_clause 67 = .ok (.invokevirtual 169, 3) := by decide +kernel
theorem dX12_clause_70 : decode cX12_clause 70 = .ok (.aload_n 0, 1) := by decide +kernel
theorem dX12_clause_71 : decode cX12_clause 71 = .ok (.dup, 1) := by decide +kernel
theorem dX12_clause_72 : decode cX12_clause 72 = .ok (.getfield 172, 3) := by decide +kernel
theorem dX12_clause_75 : decode cX12_clause 75 = .ok (.iconst 1, 1) := by decide +kernel
theorem dX12_clause_76 : decode cX12_clause 76 = .ok (.iadd, 1) := by decide +kernel
theorem dX12_clause_77 : decode cX12_clause 77 = .ok (.putfield 172, 3) := by decide +kernel
theorem dX12_clause_80 : decode cX12_clause 80 = .ok (.iload_n 1, 1) := by decide +kernel
theorem dX12_clause_81 : decode cX12_clause 81 = .ok (.iconst 3, 1) := by decide +kernel
theorem dX12_clause_82 : decode cX12_clause 82 = .ok (.if_icmp .ge 12, 3) := by decide +kernel
theorem dX12_clause_85 : decode cX12_clause 85 = .ok (.aload_n 0, 1) := by decide +kernel
theorem dX12_clause_86 : decode cX12_clause 86 = .ok (.getfield 20, 3) := by decide +kernel
theorem dX12_clause_89 : decode cX12_clause 89 = .ok (.iload_n 1, 1) := by decide +kernel
theorem dX12_clause_90 : decode cX12_clause 90 = .ok (.iaload, 1) := by decide +kernel
theorem dX12_clause_91 : decode cX12_clause 91 = .ok (.goto 4, 3) := by decide +kernel
theorem dX12_clause_94 : decode cX12_clause 94 = .ok (.iconst 0, 1) := by decide +kernel
theorem dX12_clause_95 : decode cX12_clause 95 = .ok (.istore_n 2, 1) := by decide +kernel
theorem dX12_clause_96 : decode cX12_clause 96 = .ok (.iload_n 1, 1) := by decide +kernel
theorem dX12_clause_97 : decode cX12_clause 97 = .ok (.tableswitch 177 0 3 #[31, 47, 80, 112], 31) := by decide +kernel
theorem dX12_clause_128 : decode cX12_clause 128 = .ok (.aload_n 0, 1) := by decide +kernel
theorem dX12_clause_129 : decode cX12_clause 129 = .ok (.getfield 26, 3) := by decide +kernel
theorem dX12_clause_132 : decode cX12_clause 132 = .ok (.iload_n 2, 1) := by decide +kernel
theorem dX12_clause_133 : decode cX12_clause 133 = .ok (.aload_n 0, 1) := by decide +kernel
theorem dX12_clause_134 : decode cX12_clause 134 = .ok (.iconst 1, 1) := by decide +kernel
theorem dX12_clause_135 : decode cX12_clause 135 = .ok (.bipush 30, 2) := by decide +kernel
theorem dX12_clause_137 : decode cX12_clause 137 = .ok (.invokevirtual 184, 3) := by decide +kernel
theorem dX12_clause_140 : decode cX12_clause 140 = .ok (.iastore, 1) := by decide +kernel
theorem dX12_clause_141 : decode cX12_clause 141 = .ok (.goto 185, 3) := by decide +kernel
theorem dX12_clause_144 : decode cX12_clause 144 = .ok (.aload_n 0, 1) := by decide +kernel
theorem dX12_clause_145 : decode cX12_clause 145 = .ok (.getfield 46, 3) := by decide +kernel
theorem dX12_clause_148 : decode cX12_clause 148 = .ok (.iload_n 2, 1) := by decide +kernel
theorem dX12_clause_149 : decode cX12_clause 149 = .ok (.aaload, 1) := by decide +kernel
theorem dX12_clause_150 : decode cX12_clause 150 = .ok (.iconst 0, 1) := by decide +kernel
theorem dX12_clause_151 : decode cX12_clause 151 = .ok (.aload_n 0, 1) := by decide +kernel
theorem dX12_clause_152 : decode cX12_clause 152 = .ok (.iconst 0, 1) := by decide +kernel
theorem dX12_clause_153 : decode cX12_clause 153 = .ok (.bipush 9, 2) := by decide +kernel
theorem dX12_clause_155 : decode cX12_clause 155 = .ok (.invokevirtual 184, 3) := by decide +kernel
theorem dX12_clause_158 : decode cX12_clause 158 = .ok (.iastore, 1) := by decide +kernel
theorem dX12_clause_159 : decode cX12_clause 159 = .ok (.aload_n 0, 1) := by decide +kernel
theorem dX12_clause_160 : decode cX12_clause 160 = .ok (.getfield 46, 3) := by decide +kernel
theorem dX12_clause_163 : decode cX12_clause 163 = .ok (.iload_n 2, 1) := by decide +kernel
theorem dX12_clause_164 : decode cX12_clause 164 = .ok (.aaload, 1) := by decide +kernel
theorem dX12_clause_165 : decode cX12_clause 165 = .ok (.iconst 1, 1) := by decide +kernel
theorem dX12_clause_166 : decode cX12_clause 166 = .ok (.aload_n 0, 1) := by decide +kernel
theorem dX12_clause_167 : decode cX12_clause 167 = .ok (.iconst 1, 1) := by decide +kernel
theorem dX12_clause_168 : decode cX12_clause 168 = .ok (.bipush 15, 2) := by decide +kernel
theorem dX12_clause_170 : decode cX12_clause 170 = .ok (.invokevirtual 184, 3) := by decide +kernel
theorem dX12_clause_173 : decode cX12_clause 173 = .ok (.iastore, 1) := by decide +kernel
theorem dX12_clause_174 : decode cX12_clause 174 = .ok (.goto 152, 3) := by decide +kernel
theorem dX12_clause_177 : decode cX12_clause 177 = .ok (.aload_n 0, 1) := by decide +kernel
theorem dX12_clause_178 : decode cX12_clause 178 = .ok (.getfield 52, 3) := by decide +kernel
theorem dX12_clause_181 : decode cX12_clause 181 = .ok (.iload_n 2, 1) := by decide +kernel
theorem dX12_clause_182 : decode cX12_clause 182 = .ok (.aaload, 1) := by decide +kernel
theorem dX12_clause_183 : decode cX12_clause 183 = .ok (.iconst 0, 1) := by decide +kernel
theorem dX12_clause_184 : decode cX12_clause 184 = .ok (.aload_n 0, 1) := by decide +kernel
theorem dX12_clause_185 : decode cX12_clause 185 = .ok (.iconst 0, 1) := by decide +kernel
theorem dX12_clause_186 : decode cX12_clause 186 = .ok (.iconst 3, 1) := by decide +kernel
theorem dX12_clause_187 : decode cX12_clause 187 = .ok (.invokevirtual 184, 3) := by decide +kernel
theorem dX12_clause_190 : decode cX12_clause 190 = .ok (.iastore, 1) := by decide +kernel
theorem dX12_clause_191 : decode cX12_clause 191 = .ok (.aload_n 0, 1) := by decide +kernel
theorem dX12_clause_192 : decode cX12_clause 192 = .ok (.getfield 52, 3) := by decide +kernel
theorem dX12_clause_195 : decode cX12_clause 195 = .ok (.iload_n 2, 1) := by decide +kernel
theorem dX12_clause_196 : decode cX12_clause 196 = .ok (.aaload, 1) := by decide +kernel
theorem dX12_clause_197 : decode cX12_clause 197 = .ok (.iconst 1, 1) := by decide +kernel
theorem dX12_clause_198 : decode cX12_clause 198 = .ok (.aload_n 0, 1) := by decide +kernel
theorem dX12_clause_199 : decode cX12_clause 199 = .ok (.iconst 1, 1) := by decide +kernel
theorem dX12_clause_200 : decode cX12_clause 200 = .ok (.bipush 60, 2) := by decide +kernel
theorem dX12_clause_202 : decode cX12_clause 202 = .ok (.invokevirtual 184, 3) := by decide +kernel
theorem dX12_clause_205 : decode cX12_clause 205 = .ok (.iastore, 1) := by decide +kernel
theorem dX12_clause_206 : decode cX12_clause 206 = .ok (.goto 120, 3) := by decide +kernel
theorem dX12_clause_209 : decode cX12_clause 209 = .ok (.aload_n 0, 1) := by decide +kernel
theorem dX12_clause_210 : decode cX12_clause 210 = .ok (.iconst 0, 1) := by decide +kernel
theorem dX12_clause_211 : decode cX12_clause 211 = .ok (.bipush 9, 2) := by decide +kernel
theorem dX12_clause_213 : decode cX12_clause 213 = .ok (.invokevirtual 184, 3) := by decide +kernel
theorem dX12_clause_216 : decode cX12_clause 216 = .ok (.istore_n 3, 1) := by decide +kernel
theorem dX12_clause_217 : decode cX12_clause 217 = .ok (.aload_n 0, 1) := by decide +kernel
theorem dX12_clause_218 : decode cX12_clause 218 = .ok (.invokevirtual 138, 3) := by decide +kernel
theorem dX12_clause_221 : decode cX12_clause 221 = .ok (.aload_n 0, 1) := by decide +kernel
theorem dX12_clause_222 : decode cX12_clause 222 = .ok (.getfield 125, 3) := by decide +kernel
theorem dX12_clause_225 : decode cX12_clause 225 = .ok (.istore 4, 2) := by decide +kernel
theorem dX12_clause_227 : decode cX12_clause 227 = .ok (.aload_n 0, 1) := by decide +kernel
theorem dX12_clause_228 : decode cX12_clause 228 = .ok (.iconst 0, 1) := by decide +kernel
theorem dX12_clause_229 : decode cX12_clause 229 = .ok (.bipush 9, 2) := by decide +kernel
theorem dX12_clause_231 : decode cX12_clause 231 = .ok (.invokevirtual 184, 3) := by decide +kernel
theorem dX12_clause_234 : decode cX12_clause 234 = .ok (.istore 5, 2) := by decide +kernel
theorem dX12_clause_236 : decode cX12_clause 236 = .ok (.aload_n 0, 1) := by decide +kernel
theorem dX12_clause_237 : decode cX12_clause 237 = .ok (.getfield 132, 3) := by decide +kernel
theorem dX12_clause_240 : decode cX12_clause 240 = .ok (.ifCond .ne 16, 3) := by decide +kernel
theorem dX12_clause_243 : decode cX12_clause 243 = .ok (.iload_n 3, 1) := by decide +kernel
theorem dX12_clause_244 : decode cX12_clause 244 = .ok (.iload 5, 2) := by decide +kernel
theorem dX12_clause_246 : decode cX12_clause 246 = .ok (.if_icmp .ne 10, 3) := by decide +kernel
theorem dX12_clause_249 : decode cX12_clause 249 = .ok (.aload_n 0, 1) := by decide +kernel
theorem dX12_clause_250 : decode cX12_clause 250 = .ok (.iconst 2, 1) := by decide +kernel
theorem dX12_clause_251 : decode cX12_clause 251 = .ok (.iload 4, 2) := by decide +kernel
theorem dX12_clause_253 : decode cX12_clause 253 = .ok (.invokevirtual 145, 3) := by decide +kernel
theorem dX12_clause_256 : decode cX12_clause 256 = .ok (.aload_n 0, 1) := by decide +kernel
theorem dX12_clause_257 : decode cX12_clause 257 = .ok (.getfield 132, 3) := by decide +kernel
theorem dX12_clause_260 : decode cX12_clause 260 = .ok (.ifCond .ne 66, 3) := by decide +kernel
theorem dX12_clause_263 : decode cX12_clause 263 = .ok (.aload_n 0, 1) := by decide +kernel
theorem dX12_clause_264 : decode cX12_clause 264 = .ok (.getfield 32, 3) := by decide +kernel
theorem dX12_clause_267 : decode cX12_clause 267 = .ok (.iload_n 3, 1) := by decide +kernel
theorem dX12_clause_268 : decode cX12_clause 268 = .ok (.iload 5, 2) := by decide +kernel
theorem dX12_clause_270 : decode cX12_clause 270 = .ok (.iastore, 1) := by decide +kernel
theorem dX12_clause_271 : decode cX12_clause 271 = .ok (.goto 55, 3) := by decide +kernel
theorem dX12_clause_274 : decode cX12_clause 274 = .ok (.aload_n 0, 1) := by decide +kernel
theorem dX12_clause_275 : decode cX12_clause 275 = .ok (.iconst 0, 1) := by decide +kernel
theorem dX12_clause_276 : decode cX12_clause 276 = .ok (.aload_n 0, 1) := by decide +kernel
theorem dX12_clause_277 : decode cX12_clause 277 = .ok (.getfield 20, 3) := by decide +kernel
theorem dX12_clause_280 : decode cX12_clause 280 = .ok (.iconst 2, 1) := by decide +kernel
theorem dX12_clause_281 : decode cX12_clause 281 = .ok (.iaload, 1) := by decide +kernel
theorem dX12_clause_282 : decode cX12_clause 282 = .ok (.iconst 1, 1) := by decide +kernel
theorem dX12_clause_283 : decode cX12_clause 283 = .ok (.isub, 1) := by decide +kernel
theorem dX12_clause_284 : decode cX12_clause 284 = .ok (.invokevirtual 184, 3) := by decide +kernel
theorem dX12_clause_287 : decode cX12_clause 287 = .ok (.istore_n 3, 1) := by decide +kernel
theorem dX12_clause_288 : decode cX12_clause 288 = .ok (.aload_n 0, 1) := by decide +kernel
theorem dX12_clause_289 : decode cX12_clause 289 = .ok (.iconst 0, 1) := by decide +kernel
theorem dX12_clause_290 : decode cX12_clause 290 = .ok (.aload_n 0, 1) := by decide +kernel
theorem dX12_clause_291 : decode cX12_clause 291 = .ok (.getfield 20, 3) := by decide +kernel
theorem dX12_clause_294 : decode cX12_clause 294 = .ok (.iconst 1, 1) := by decide +kernel
theorem dX12_clause_295 : decode cX12_clause 295 = .ok (.iaload, 1) := by decide +kernel
theorem dX12_clause_296 : decode cX12_clause 296 = .ok (.iconst 1, 1) := by decide +kernel
theorem dX12_clause_297 : decode cX12_clause 297 = .ok (.isub, 1) := by decide +kernel
theorem dX12_clause_298 : decode cX12_clause 298 = .ok (.invokevirtual 184, 3) := by decide +kernel
theorem dX12_clause_301 : decode cX12_clause 301 = .ok (.istore 4, 2) := by decide +kernel
theorem dX12_clause_303 : decode cX12_clause 303 = .ok (.aload_n 0, 1) := by decide +kernel
theorem dX12_clause_304 : decode cX12_clause 304 = .ok (.getfield 132, 3) := by decide +kernel
theorem dX12_clause_307 : decode cX12_clause 307 = .ok (.ifCond .ne 19, 3) := by decide +kernel
theorem dX12_clause_310 : decode cX12_clause 310 = .ok (.aload_n 0, 1) := by decide +kernel
theorem dX12_clause_311 : decode cX12_clause 311 = .ok (.getfield 38, 3) := by decide +kernel
theorem dX12_clause_314 : decode cX12_clause 314 = .ok (.iload_n 3, 1) := by decide +kernel
theorem dX12_clause_315 : decode cX12_clause 315 = .ok (.dup2, 1) := by decide +kernel
theorem dX12_clause_316 : decode cX12_clause 316 = .ok (.iaload, 1) := by decide +kernel
theorem dX12_clause_317 : decode cX12_clause 317 = .ok (.iconst 1, 1) := by decide +kernel
theorem dX12_clause_318 : decode cX12_clause 318 = .ok (.iload 4, 2) := by decide +kernel
theorem dX12_clause_320 : decode cX12_clause 320 = .ok (.ishl, 1) := by decide +kernel
theorem dX12_clause_321 : decode cX12_clause 321 = .ok (.ior, 1) := by decide +kernel
theorem dX12_clause_322 : decode cX12_clause 322 = .ok (.iastore, 1) := by decide +kernel
theorem dX12_clause_323 : decode cX12_clause 323 = .ok (.goto 3, 3) := by decide +kernel
theorem dX12_clause_326 : decode cX12_clause 326 = .ok (.iload_n 1, 1) := by decide +kernel
theorem dX12_clause_327 : decode cX12_clause 327 = .ok (.iconst 3, 1) := by decide +kernel
theorem dX12_clause_328 : decode cX12_clause 328 = .ok (.if_icmp .ge 24, 3) := by decide +kernel
theorem dX12_clause_331 : decode cX12_clause 331 = .ok (.aload_n 0, 1) := by decide +kernel
theorem dX12_clause_332 : decode cX12_clause 332 = .ok (.getfield 20, 3) := by decide +kernel
theorem dX12_clause_335 : decode cX12_clause 335 = .ok (.iload_n 1, 1) := by decide +kernel
theorem dX12_clause_336 : decode cX12_clause 336 = .ok (.dup2, 1) := by decide +kernel
theorem dX12_clause_337 : decode cX12_clause 337 = .ok (.iaload, 1) := by decide +kernel
theorem dX12_clause_338 : decode cX12_clause 338 = .ok (.aload_n 0, 1) := by decide +kernel
theorem dX12_clause_339 : decode cX12_clause 339 = .ok (.getfield 132, 3) := by decide +kernel
theorem dX12_clause_342 : decode cX12_clause 342 = .ok (.ifCond .ne 7, 3) := by decide +kernel
theorem dX12_clause_345 : decode cX12_clause 345 = .ok (.iconst 1, 1) := by decide +kernel
theorem dX12_clause_346 : decode cX12_clause 346 = .ok (.goto 4, 3) := by decide +kernel
theorem dX12_clause_349 : decode cX12_clause 349 = .ok (.iconst 0, 1) := by decide +kernel
theorem dX12_clause_350 : decode cX12_clause 350 = .ok (.iadd, 1) := by decide +kernel
theorem dX12_clause_351 : decode cX12_clause 351 = .ok (.iastore, 1) := by decide +kernel
theorem dX12_clause_352 : decode cX12_clause 352 = .ok (.aload_n 0, 1) := by decide +kernel
theorem dX12_clause_353 : decode cX12_clause 353 = .ok (.bipush 59, 2) := by decide +kernel
theorem dX12_clause_355 : decode cX12_clause 355 = .ok (.invokevirtual 188, 3) := by decide +kernel
theorem dX12_clause_358 : decode cX12_clause 358 = .ok (.return_, 1) := by decide +kernel
theorem dX12_port_0 : decode cX12_port 0 = .ok (.aload_n 0, 1) := by decide +kernel
theorem dX12_port_1 : decode cX12_port 1 = .ok (.iconst 0, 1) := by decide +kernel
theorem dX12_port_2 : decode cX12_port 2 = .ok (.putfield 116, 3) := by decide +kernel
theorem dX12_port_5 : decode cX12_port 5 = .ok (.aload_n 0, 1) := by decide +kernel
theorem dX12_port_6 : decode cX12_port 6 = .ok (.iload_n 1, 1) := by decide +kernel
theorem dX12_port_7 : decode cX12_port 7 = .ok (.iconst 0, 1) := by decide +kernel
theorem dX12_port_8 : decode cX12_port 8 = .ok (.aload_n 0, 1) := by decide +kernel
theorem dX12_port_9 : decode cX12_port 9 = .ok (.getfield 119, 3) := by decide +kernel
theorem dX12_port_12 : decode cX12_port 12 = .ok (.invokestatic 150, 3) := by decide +kernel
theorem dX12_port_15 : decode cX12_port 15 = .ok (.ifCond .ne 7, 3) := by decide +kernel
theorem dX12_port_18 : decode cX12_port 18 = .ok (.iconst 1, 1) := by decide +kernel
theorem dX12_port_19 : decode cX12_port 19 = .ok (.goto 4, 3) := by decide +kernel
theorem dX12_port_22 : decode cX12_port 22 = .ok (.iconst 0, 1) := by decide +kernel
theorem dX12_port_23 : decode cX12_port 23 = .ok (.iconst 1, 1) := by decide +kernel
theorem dX12_port_24 : decode cX12_port 24 = .ok (.iconst 1, 1) := by decide +kernel
theorem dX12_port_25 : decode cX12_port 25 = .ok (.invokevirtual 192, 3) := by decide +kernel
theorem dX12_port_28 : decode cX12_port 28 = .ok (.ifCond .eq 5, 3) := by decide +kernel
theorem dX12_port_31 : decode cX12_port 31 = .ok (.iconst 0, 1) := by decide +kernel
theorem dX12_port_32 : decode cX12_port 32 = .ok (.ireturn, 1) := by decide +kernel
theorem dX12_port_33 : decode cX12_port 33 = .ok (.aload_n 0, 1) := by decide +kernel
theorem dX12_port_34 : decode cX12_port 34 = .ok (.iload_n 1, 1) := by decide +kernel
theorem dX12_port_35 : decode cX12_port 35 = .ok (.invokevirtual 196, 3) := by decide +kernel
theorem dX12_port_38 : decode cX12_port 38 = .ok (.aload_n 0, 1) := by decide +kernel
theorem dX12_port_39 : decode cX12_port 39 = .ok (.invokevirtual 110, 3) := by decide +kernel
theorem dX12_port_42 : decode cX12_port 42 = .ok (.aload_n 0, 1) := by decide +kernel
theorem dX12_port_43 : decode cX12_port 43 = .ok (.getfield 132, 3) := by decide +kernel
theorem dX12_port_46 : decode cX12_port 46 = .ok (.ifCond .ne 25, 3) := by decide +kernel
theorem dX12_port_49 : decode cX12_port 49 = .ok (.aload_n 0, 1) := by decide +kernel
theorem dX12_port_50 : decode cX12_port 50 = .ok (.getfield 125, 3) := by decide +kernel
theorem dX12_port_53 : decode cX12_port 53 = .ok (.aload_n 0, 1) := by decide +kernel
theorem dX12_port_54 : decode cX12_port 54 = .ok (.getfield 122, 3) := by decide +kernel
theorem dX12_port_57 : decode cX12_port 57 = .ok (.if_icmp .ge 14, 3) := by decide +kernel
theorem dX12_port_60 : decode cX12_port 60 = .ok (.aload_n 0, 1) := by decide +kernel
theorem dX12_port_61 : decode cX12_port 61 = .ok (.invokevirtual 199, 3) := by decide +kernel
theorem dX12_port_64 : decode cX12_port 64 = .ok (.aload_n 0, 1) := by decide +kernel
theorem dX12_port_65 : decode cX12_port 65 = .ok (.invokevirtual 138, 3) := by decide +kernel
theorem dX12_port_68 : decode cX12_port 68 = .ok (.goto (-26), 3) := by decide +kernel
theorem dX12_port_71 : decode cX12_port 71 = .ok (.aload_n 0, 1) := by decide +kernel
theorem dX12_port_72 : decode cX12_port 72 = .ok (.getfield 132, 3) := by decide +kernel
theorem dX12_port_75 : decode cX12_port 75 = .ok (.ifCond .eq 8, 3) := by decide +kernel
theorem dX12_port_78 : decode cX12_port 78 = .ok (.aload_n 0, 1) := by decide +kernel
theorem dX12_port_79 : decode cX12_port 79 = .ok (.invokevirtual 202, 3) := by decide +kernel
theorem dX12_port_82 : decode cX12_port 82 = .ok (.ireturn, 1) := by decide +kernel
theorem dX12_port_83 : decode cX12_port 83 = .ok (.aload_n 0, 1) := by decide +kernel
theorem dX12_port_84 : decode cX12_port 84 = .ok (.iconst (-1), 1) := by decide +kernel
theorem dX12_port_85 : decode cX12_port 85 = .ok (.putfield 9, 3) := by decide +kernel
theorem dX12_port_88 : decode cX12_port 88 = .ok (.aload_n 0, 1) := by decide +kernel
theorem dX12_port_89 : decode cX12_port 89 = .ok (.invokevirtual 113, 3) := by decide +kernel
theorem dX12_port_92 : decode cX12_port 92 = .ok (.aload_n 0, 1) := by decide +kernel
theorem dX12_port_93 : decode cX12_port 93 = .ok (.getfield 23, 3) := by decide +kernel
theorem dX12_port_96 : decode cX12_port 96 = .ok (.iconst 1, 1) := by decide +kernel
theorem dX12_port_97 : decode cX12_port 97 = .ok (.iaload, 1) := by decide +kernel
theorem dX12_port_98 : decode cX12_port 98 = .ok (.ireturn, 1) := by decide +kernel
theorem dX12_lays_0 : decode cX12_lays 0 = .ok (.iconst 0, 1) := by decide +kernel
theorem dX12_lays_1 : decode cX12_lays 1 = .ok (.istore_n 3, 1) := by decide +kernel
theorem dX12_lays_2 : decode cX12_lays 2 = .ok (.iload_n 3, 1) := by decide +kernel
theorem dX12_lays_3 : decode cX12_lays 3 = .ok (.iload_n 2, 1) := by decide +kernel
theorem dX12_lays_4 : decode cX12_lays 4 = .ok (.if_icmp .ge 39, 3) := by decide +kernel
theorem dX12_lays_7 : decode cX12_lays 7 = .ok (.iconst 0, 1) := by decide +kernel
theorem dX12_lays_8 : decode cX12_lays 8 = .ok (.istore 4, 2) := by decide +kernel
theorem dX12_lays_10 : decode cX12_lays 10 = .ok (.iload 4, 2) := by decide +kernel
theorem dX12_lays_12 : decode cX12_lays 12 = .ok (.aload_n 1, 1) := by decide +kernel
theorem dX12_lays_13 : decode cX12_lays 13 = .ok (.iload_n 3, 1) := by decide +kernel
theorem dX12_lays_14 : decode cX12_lays 14 = .ok (.aaload, 1) := by decide +kernel
theorem dX12_lays_15 : decode cX12_lays 15 = .ok (.arraylength, 1) := by decide +kernel
theorem dX12_lays_16 : decode cX12_lays 16 = .ok (.if_icmp .ge 21, 3) := by decide +kernel
theorem dX12_lays_19 : decode cX12_lays 19 = .ok (.aload_n 1, 1) := by decide +kernel
theorem dX12_lays_20 : decode cX12_lays 20 = .ok (.iload_n 3, 1) := by decide +kernel
theorem dX12_lays_21 : decode cX12_lays 21 = .ok (.aaload, 1) := by decide +kernel
theorem dX12_lays_22 : decode cX12_lays 22 = .ok (.iload 4, 2) := by decide +kernel
theorem dX12_lays_24 : decode cX12_lays 24 = .ok (.aload_n 0, 1) := by decide +kernel
theorem dX12_lays_25 : decode cX12_lays 25 = .ok (.iload_n 3, 1) := by decide +kernel
theorem dX12_lays_26 : decode cX12_lays 26 = .ok (.aaload, 1) := by decide +kernel
theorem dX12_lays_27 : decode cX12_lays 27 = .ok (.iload 4, 2) := by decide +kernel
theorem dX12_lays_29 : decode cX12_lays 29 = .ok (.iaload, 1) := by decide +kernel
theorem dX12_lays_30 : decode cX12_lays 30 = .ok (.iastore, 1) := by decide +kernel
theorem dX12_lays_31 : decode cX12_lays 31 = .ok (.iinc 4 1, 3) := by decide +kernel
theorem dX12_lays_34 : decode cX12_lays 34 = .ok (.goto (-24), 3) := by decide +kernel
theorem dX12_lays_37 : decode cX12_lays 37 = .ok (.iinc 3 1, 3) := by decide +kernel
theorem dX12_lays_40 : decode cX12_lays 40 = .ok (.goto (-38), 3) := by decide +kernel
theorem dX12_lays_43 : decode cX12_lays 43 = .ok (.return_, 1) := by decide +kernel
theorem dX12_copies_0 : decode cX12_copies 0 = .ok (.iconst 0, 1) := by decide +kernel
theorem dX12_copies_1 : decode cX12_copies 1 = .ok (.istore_n 2, 1) := by decide +kernel
theorem dX12_copies_2 : decode cX12_copies 2 = .ok (.iload_n 2, 1) := by decide +kernel
theorem dX12_copies_3 : decode cX12_copies 3 = .ok (.bipush 105, 2) := by decide +kernel
theorem dX12_copies_5 : decode cX12_copies 5 = .ok (.if_icmp .ge 15, 3) := by decide +kernel
theorem dX12_copies_8 : decode cX12_copies 8 = .ok (.aload_n 1, 1) := by decide +kernel
theorem dX12_copies_9 : decode cX12_copies 9 = .ok (.iload_n 2, 1) := by decide +kernel
theorem dX12_copies_10 : decode cX12_copies 10 = .ok (.aload_n 0, 1) := by decide +kernel
theorem dX12_copies_11 : decode cX12_copies 11 = .ok (.iload_n 2, 1) := by decide +kernel
theorem dX12_copies_12 : decode cX12_copies 12 = .ok (.iaload, 1) := by decide +kernel
theorem dX12_copies_13 : decode cX12_copies 13 = .ok (.iastore, 1) := by decide +kernel
theorem dX12_copies_14 : decode cX12_copies 14 = .ok (.iinc 2 1, 3) := by decide +kernel
theorem dX12_copies_17 : decode cX12_copies 17 = .ok (.goto (-15), 3) := by decide +kernel
theorem dX12_copies_20 : decode cX12_copies 20 = .ok (.return_, 1) := by decide +kernel
theorem dX12_beginsAnew_0 : decode cX12_beginsAnew 0 = .ok (.iconst 0, 1) := by decide +kernel
theorem dX12_beginsAnew_1 : decode cX12_beginsAnew 1 = .ok (.istore_n 1, 1) := by decide +kernel
theorem dX12_beginsAnew_2 : decode cX12_beginsAnew 2 = .ok (.iload_n 1, 1) := by decide +kernel
theorem dX12_beginsAnew_3 : decode cX12_beginsAnew 3 = .ok (.iconst 3, 1) := by decide +kernel
theorem dX12_beginsAnew_4 : decode cX12_beginsAnew 4 = .ok (.if_icmp .ge 21, 3) := by decide +kernel
theorem dX12_beginsAnew_7 : decode cX12_beginsAnew 7 = .ok (.aload_n 0, 1) := by decide +kernel
theorem dX12_beginsAnew_8 : decode cX12_beginsAnew 8 = .ok (.getfield 23, 3) := by decide +kernel
theorem dX12_beginsAnew_11 : decode cX12_beginsAnew 11 = .ok (.iload_n 1, 1) := by decide +kernel
theorem dX12_beginsAnew_12 : decode cX12_beginsAnew 12 = .ok (.aload_n 0, 1) := by decide +kernel
theorem dX12_beginsAnew_13 : decode cX12_beginsAnew 13 = .ok (.getfield 20, 3) := by decide +kernel
theorem dX12_beginsAnew_16 : decode cX12_beginsAnew 16 = .ok (.iload_n 1, 1) := by decide +kernel
theorem dX12_beginsAnew_17 : decode cX12_beginsAnew 17 = .ok (.iaload, 1) := by decide +kernel
theorem dX12_beginsAnew_18 : decode cX12_beginsAnew 18 = .ok (.iastore, 1) := by decide +kernel
theorem dX12_beginsAnew_19 : decode cX12_beginsAnew 19 = .ok (.iinc 1 1, 3) := by decide +kernel
theorem dX12_beginsAnew_22 : decode cX12_beginsAnew 22 = .ok (.goto (-20), 3) := by decide +kernel
theorem dX12_beginsAnew_25 : decode cX12_beginsAnew 25 = .ok (.iconst 0, 1) := by decide +kernel
theorem dX12_beginsAnew_26 : decode cX12_beginsAnew 26 = .ok (.istore_n 1, 1) := by decide +kernel
theorem dX12_beginsAnew_27 : decode cX12_beginsAnew 27 = .ok (.iload_n 1, 1) := by decide +kernel
theorem dX12_beginsAnew_28 : decode cX12_beginsAnew 28 = .ok (.aload_n 0, 1) := by decide +kernel
theorem dX12_beginsAnew_29 : decode cX12_beginsAnew 29 = .ok (.getfield 23, 3) := by decide +kernel
theorem dX12_beginsAnew_32 : decode cX12_beginsAnew 32 = .ok (.iconst 0, 1) := by decide +kernel
theorem dX12_beginsAnew_33 : decode cX12_beginsAnew 33 = .ok (.iaload, 1) := by decide +kernel
theorem dX12_beginsAnew_34 : decode cX12_beginsAnew 34 = .ok (.if_icmp .ge 21, 3) := by decide +kernel
theorem dX12_beginsAnew_37 : decode cX12_beginsAnew 37 = .ok (.aload_n 0, 1) := by decide +kernel
theorem dX12_beginsAnew_38 : decode cX12_beginsAnew 38 = .ok (.getfield 29, 3) := by decide +kernel
theorem dX12_beginsAnew_41 : decode cX12_beginsAnew 41 = .ok (.iload_n 1, 1) := by decide +kernel
theorem dX12_beginsAnew_42 : decode cX12_beginsAnew 42 = .ok (.aload_n 0, 1) := by decide +kernel
theorem dX12_beginsAnew_43 : decode cX12_beginsAnew 43 = .ok (.getfield 26, 3) := by decide +kernel
theorem dX12_beginsAnew_46 : decode cX12_beginsAnew 46 = .ok (.iload_n 1, 1) := by decide +kernel
theorem dX12_beginsAnew_47 : decode cX12_beginsAnew 47 = .ok (.iaload, 1) := by decide +kernel
theorem dX12_beginsAnew_48 : decode cX12_beginsAnew 48 = .ok (.iastore, 1) := by decide +kernel
theorem dX12_beginsAnew_49 : decode cX12_beginsAnew 49 = .ok (.iinc 1 1, 3) := by decide +kernel
theorem dX12_beginsAnew_52 : decode cX12_beginsAnew 52 = .ok (.goto (-25), 3) := by decide +kernel
theorem dX12_beginsAnew_55 : decode cX12_beginsAnew 55 = .ok (.iconst 0, 1) := by decide +kernel
theorem dX12_beginsAnew_56 : decode cX12_beginsAnew 56 = .ok (.istore_n 1, 1) := by decide +kernel
theorem dX12_beginsAnew_57 : decode cX12_beginsAnew 57 = .ok (.iload_n 1, 1) := by decide +kernel
theorem dX12_beginsAnew_58 : decode cX12_beginsAnew 58 = .ok (.bipush 10, 2) := by decide +kernel
theorem dX12_beginsAnew_60 : decode cX12_beginsAnew 60 = .ok (.if_icmp .ge 21, 3) := by decide +kernel
theorem dX12_beginsAnew_63 : decode cX12_beginsAnew 63 = .ok (.aload_n 0, 1) := by decide +kernel
theorem dX12_beginsAnew_64 : decode cX12_beginsAnew 64 = .ok (.getfield 35, 3) := by decide +kernel
theorem dX12_beginsAnew_67 : decode cX12_beginsAnew 67 = .ok (.iload_n 1, 1) := by decide +kernel
theorem dX12_beginsAnew_68 : decode cX12_beginsAnew 68 = .ok (.aload_n 0, 1) := by decide +kernel
theorem dX12_beginsAnew_69 : decode cX12_beginsAnew 69 = .ok (.getfield 32, 3) := by decide +kernel
theorem dX12_beginsAnew_72 : decode cX12_beginsAnew 72 = .ok (.iload_n 1, 1) := by decide +kernel
theorem dX12_beginsAnew_73 : decode cX12_beginsAnew 73 = .ok (.iaload, 1) := by decide +kernel
theorem dX12_beginsAnew_74 : decode cX12_beginsAnew 74 = .ok (.iastore, 1) := by decide +kernel
theorem dX12_beginsAnew_75 : decode cX12_beginsAnew 75 = .ok (.iinc 1 1, 3) := by decide +kernel
theorem dX12_beginsAnew_78 : decode cX12_beginsAnew 78 = .ok (.goto (-21), 3) := by decide +kernel
theorem dX12_beginsAnew_81 : decode cX12_beginsAnew 81 = .ok (.iconst 0, 1) := by decide +kernel
theorem dX12_beginsAnew_82 : decode cX12_beginsAnew 82 = .ok (.istore_n 1, 1) := by decide +kernel
theorem dX12_beginsAnew_83 : decode cX12_beginsAnew 83 = .ok (.iload_n 1, 1) := by decide +kernel
theorem dX12_beginsAnew_84 : decode cX12_beginsAnew 84 = .ok (.bipush 6, 2) := by decide +kernel
theorem dX12_beginsAnew_86 : decode cX12_beginsAnew 86 = .ok (.if_icmp .ge 21, 3) := by decide +kernel
theorem dX12_beginsAnew_89 : decode cX12_beginsAnew 89 = .ok (.aload_n 0, 1) := by decide +kernel
theorem dX12_beginsAnew_90 : decode cX12_beginsAnew 90 = .ok (.getfield 41, 3) := by decide +kernel
theorem dX12_beginsAnew_93 : decode cX12_beginsAnew 93 = .ok (.iload_n 1, 1) := by decide +kernel
theorem dX12_beginsAnew_94 : decode cX12_beginsAnew 94 = .ok (.aload_n 0, 1) := by decide +kernel
theorem dX12_beginsAnew_95 : decode cX12_beginsAnew 95 = .ok (.getfield 38, 3) := by decide +kernel
theorem dX12_beginsAnew_98 : decode cX12_beginsAnew 98 = .ok (.iload_n 1, 1) := by decide +kernel
theorem dX12_beginsAnew_99 : decode cX12_beginsAnew 99 = .ok (.iaload, 1) := by decide +kernel
theorem dX12_beginsAnew_100 : decode cX12_beginsAnew 100 = .ok (.iastore, 1) := by decide +kernel
theorem dX12_beginsAnew_101 : decode cX12_beginsAnew 101 = .ok (.iinc 1 1, 3) := by decide +kernel
theorem dX12_beginsAnew_104 : decode cX12_beginsAnew 104 = .ok (.goto (-21), 3) := by decide +kernel
theorem dX12_beginsAnew_107 : decode cX12_beginsAnew 107 = .ok (.aload_n 0, 1) := by decide +kernel
theorem dX12_beginsAnew_108 : decode cX12_beginsAnew 108 = .ok (.getfield 46, 3) := by decide +kernel
theorem dX12_beginsAnew_111 : decode cX12_beginsAnew 111 = .ok (.aload_n 0, 1) := by decide +kernel
theorem dX12_beginsAnew_112 : decode cX12_beginsAnew 112 = .ok (.getfield 49, 3) := by decide +kernel
theorem dX12_beginsAnew_115 : decode cX12_beginsAnew 115 = .ok (.aload_n 0, 1) := by decide +kernel
theorem dX12_beginsAnew_116 : decode cX12_beginsAnew 116 = .ok (.getfield 23, 3) := by decide +kernel
theorem dX12_beginsAnew_119 : decode cX12_beginsAnew 119 = .ok (.iconst 1, 1) := by decide +kernel
theorem dX12_beginsAnew_120 : decode cX12_beginsAnew 120 = .ok (.iaload, 1) := by decide +kernel
theorem dX12_beginsAnew_121 : decode cX12_beginsAnew 121 = .ok (.invokestatic 205, 3) := by decide +kernel
theorem dX12_beginsAnew_124 : decode cX12_beginsAnew 124 = .ok (.aload_n 0, 1) := by decide +kernel
theorem dX12_beginsAnew_125 : decode cX12_beginsAnew 125 = .ok (.getfield 52, 3) := by decide +kernel
theorem dX12_beginsAnew_128 : decode cX12_beginsAnew 128 = .ok (.aload_n 0, 1) := by decide +kernel
theorem dX12_beginsAnew_129 : decode cX12_beginsAnew 129 = .ok (.getfield 55, 3) := by decide +kernel
theorem dX12_beginsAnew_132 : decode cX12_beginsAnew 132 = .ok (.aload_n 0, 1) := by decide +kernel
theorem dX12_beginsAnew_133 : decode cX12_beginsAnew 133 = .ok (.getfield 23, 3) := by decide +kernel
theorem dX12_beginsAnew_136 : decode cX12_beginsAnew 136 = .ok (.iconst 2, 1) := by decide +kernel
theorem dX12_beginsAnew_137 : decode cX12_beginsAnew 137 = .ok (.iaload, 1) := by decide +kernel
theorem dX12_beginsAnew_138 : decode cX12_beginsAnew 138 = .ok (.invokestatic 205, 3) := by decide +kernel
theorem dX12_beginsAnew_141 : decode cX12_beginsAnew 141 = .ok (.iconst 0, 1) := by decide +kernel
theorem dX12_beginsAnew_142 : decode cX12_beginsAnew 142 = .ok (.istore_n 1, 1) := by decide +kernel
theorem dX12_beginsAnew_143 : decode cX12_beginsAnew 143 = .ok (.iload_n 1, 1) := by decide +kernel
theorem dX12_beginsAnew_144 : decode cX12_beginsAnew 144 = .ok (.bipush 105, 2) := by decide +kernel
theorem dX12_beginsAnew_146 : decode cX12_beginsAnew 146 = .ok (.if_icmp .ge 16, 3) := by decide +kernel
theorem dX12_beginsAnew_149 : decode cX12_beginsAnew 149 = .ok (.aload_n 0, 1) := by decide +kernel
theorem dX12_beginsAnew_150 : decode cX12_beginsAnew 150 = .ok (.getfield 79, 3) := by decide +kernel
theorem dX12_beginsAnew_153 : decode cX12_beginsAnew 153 = .ok (.iload_n 1, 1) := by decide +kernel
theorem dX12_beginsAnew_154 : decode cX12_beginsAnew 154 = .ok (.iconst 0, 1) := by decide +kernel
theorem dX12_beginsAnew_155 : decode cX12_beginsAnew 155 = .ok (.iastore, 1) := by decide +kernel
theorem dX12_beginsAnew_156 : decode cX12_beginsAnew 156 = .ok (.iinc 1 1, 3) := by decide +kernel
theorem dX12_beginsAnew_159 : decode cX12_beginsAnew 159 = .ok (.goto (-16), 3) := by decide +kernel
theorem dX12_beginsAnew_162 : decode cX12_beginsAnew 162 = .ok (.iconst 0, 1) := by decide +kernel
theorem dX12_beginsAnew_163 : decode cX12_beginsAnew 163 = .ok (.istore_n 1, 1) := by decide +kernel
theorem dX12_beginsAnew_164 : decode cX12_beginsAnew 164 = .ok (.iload_n 1, 1) := by decide +kernel
theorem dX12_beginsAnew_165 : decode cX12_beginsAnew 165 = .ok (.aload_n 0, 1) := by decide +kernel
theorem dX12_beginsAnew_166 : decode cX12_beginsAnew 166 = .ok (.getfield 23, 3) := by decide +kernel
theorem dX12_beginsAnew_169 : decode cX12_beginsAnew 169 = .ok (.iconst 1, 1) := by decide +kernel
theorem dX12_beginsAnew_170 : decode cX12_beginsAnew 170 = .ok (.iaload, 1) := by decide +kernel
theorem dX12_beginsAnew_171 : decode cX12_beginsAnew 171 = .ok (.if_icmp .ge 25, 3) := by decide +kernel
theorem dX12_beginsAnew_174 : decode cX12_beginsAnew 174 = .ok (.aload_n 0, 1) := by decide +kernel
theorem dX12_beginsAnew_175 : decode cX12_beginsAnew 175 = .ok (.getfield 79, 3) := by decide +kernel
theorem dX12_beginsAnew_178 : decode cX12_beginsAnew 178 = .ok (.iconst 0, 1) := by decide +kernel
theorem dX12_beginsAnew_179 : decode cX12_beginsAnew 179 = .ok (.iload_n 1, 1) := by decide +kernel
theorem dX12_beginsAnew_180 : decode cX12_beginsAnew 180 = .ok (.iadd, 1) := by decide +kernel
theorem dX12_beginsAnew_181 : decode cX12_beginsAnew 181 = .ok (.aload_n 0, 1) := by decide +kernel
theorem dX12_beginsAnew_182 : decode cX12_beginsAnew 182 = .ok (.getfield 49, 3) := by decide +kernel
theorem dX12_beginsAnew_185 : decode cX12_beginsAnew 185 = .ok (.iload_n 1, 1) := by decide +kernel
theorem dX12_beginsAnew_186 : decode cX12_beginsAnew 186 = .ok (.aaload, 1) := by decide +kernel
theorem dX12_beginsAnew_187 : decode cX12_beginsAnew 187 = .ok (.iconst 0, 1) := by decide +kernel
theorem dX12_beginsAnew_188 : decode cX12_beginsAnew 188 = .ok (.iaload, 1) := by decide +kernel
theorem dX12_beginsAnew_189 : decode cX12_beginsAnew 189 = .ok (.iastore, 1) := by decide +kernel
theorem dX12_beginsAnew_190 : decode cX12_beginsAnew 190 = .ok (.iinc 1 1, 3) := by decide +kernel
theorem dX12_beginsAnew_193 : decode cX12_beginsAnew 193 = .ok (.goto (-29), 3) := by decide +kernel
theorem dX12_beginsAnew_196 : decode cX12_beginsAnew 196 = .ok (.aload_n 0, 1) := by decide +kernel
theorem dX12_beginsAnew_197 : decode cX12_beginsAnew 197 = .ok (.aload_n 0, 1) := by decide +kernel
theorem dX12_beginsAnew_198 : decode cX12_beginsAnew 198 = .ok (.getfield 79, 3) := by decide +kernel
theorem dX12_beginsAnew_201 : decode cX12_beginsAnew 201 = .ok (.invokevirtual 209, 3) := by decide +kernel
theorem dX12_beginsAnew_204 : decode cX12_beginsAnew 204 = .ok (.aload_n 0, 1) := by decide +kernel
theorem dX12_beginsAnew_205 : decode cX12_beginsAnew 205 = .ok (.iconst 0, 1) := by decide +kernel
theorem dX12_beginsAnew_206 : decode cX12_beginsAnew 206 = .ok (.putfield 213, 3) := by decide +kernel
theorem dX12_beginsAnew_209 : decode cX12_beginsAnew 209 = .ok (.aload_n 0, 1) := by decide +kernel
theorem dX12_beginsAnew_210 : decode cX12_beginsAnew 210 = .ok (.iconst 0, 1) := by decide +kernel
theorem dX12_beginsAnew_211 : decode cX12_beginsAnew 211 = .ok (.putfield 216, 3) := by decide +kernel
theorem dX12_beginsAnew_214 : decode cX12_beginsAnew 214 = .ok (.aload_n 0, 1) := by decide +kernel
theorem dX12_beginsAnew_215 : decode cX12_beginsAnew 215 = .ok (.iconst 0, 1) := by decide +kernel
theorem dX12_beginsAnew_216 : decode cX12_beginsAnew 216 = .ok (.putfield 219, 3) := by decide +kernel
theorem dX12_beginsAnew_219 : decode cX12_beginsAnew 219 = .ok (.aload_n 0, 1) := by decide +kernel
theorem dX12_beginsAnew_220 : decode cX12_beginsAnew 220 = .ok (.iconst 0, 1) := by decide +kernel
theorem dX12_beginsAnew_221 : decode cX12_beginsAnew 221 = .ok (.putfield 222, 3) := by decide +kernel
theorem dX12_beginsAnew_224 : decode cX12_beginsAnew 224 = .ok (.aload_n 0, 1) := by decide +kernel
theorem dX12_beginsAnew_225 : decode cX12_beginsAnew 225 = .ok (.iconst 0, 1) := by decide +kernel
theorem dX12_beginsAnew_226 : decode cX12_beginsAnew 226 = .ok (.putfield 225, 3) := by decide +kernel
theorem dX12_beginsAnew_229 : decode cX12_beginsAnew 229 = .ok (.return_, 1) := by decide +kernel
theorem dX12_fills_0 : decode cX12_fills 0 = .ok (.iconst 0, 1) := by decide +kernel
theorem dX12_fills_1 : decode cX12_fills 1 = .ok (.istore_n 2, 1) := by decide +kernel
theorem dX12_fills_2 : decode cX12_fills 2 = .ok (.iload_n 2, 1) := by decide +kernel
theorem dX12_fills_3 : decode cX12_fills 3 = .ok (.aload_n 0, 1) := by decide +kernel
theorem dX12_fills_4 : decode cX12_fills 4 = .ok (.getfield 23, 3) := by decide +kernel
theorem dX12_fills_7 : decode cX12_fills 7 = .ok (.iconst 2, 1) := by decide +kernel
theorem dX12_fills_8 : decode cX12_fills 8 = .ok (.iaload, 1) := by decide +kernel
theorem dX12_fills_9 : decode cX12_fills 9 = .ok (.if_icmp .ge 23, 3) := by decide +kernel
theorem dX12_fills_12 : decode cX12_fills 12 = .ok (.aload_n 1, 1) := by decide +kernel
theorem dX12_fills_13 : decode cX12_fills 13 = .ok (.bipush 16, 2) := by decide +kernel
theorem dX12_fills_15 : decode cX12_fills 15 = .ok (.iload_n 2, 1) := by decide +kernel
theorem dX12_fills_16 : decode cX12_fills 16 = .ok (.iadd, 1) := by decide +kernel
theorem dX12_fills_17 : decode cX12_fills 17 = .ok (.aload_n 0, 1) := by decide +kernel
theorem dX12_fills_18 : decode cX12_fills 18 = .ok (.getfield 55, 3) := by decide +kernel
theorem dX12_fills_21 : decode cX12_fills 21 = .ok (.iload_n 2, 1) := by decide +kernel
theorem dX12_fills_22 : decode cX12_fills 22 = .ok (.aaload, 1) := by decide +kernel
theorem dX12_fills_23 : decode cX12_fills 23 = .ok (.iconst 1, 1) := by decide +kernel
theorem dX12_fills_24 : decode cX12_fills 24 = .ok (.iaload, 1) := by decide +kernel
theorem dX12_fills_25 : decode cX12_fills 25 = .ok (.iastore, 1) := by decide +kernel
theorem dX12_fills_26 : decode cX12_fills 26 = .ok (.iinc 2 1, 3) := by decide +kernel
theorem dX12_fills_29 : decode cX12_fills 29 = .ok (.goto (-27), 3) := by decide +kernel
theorem dX12_fills_32 : decode cX12_fills 32 = .ok (.return_, 1) := by decide +kernel
theorem dX12_notes_0 : decode cX12_notes 0 = .ok (.aload_n 0, 1) := by decide +kernel
theorem dX12_notes_1 : decode cX12_notes 1 = .ok (.getfield 132, 3) := by decide +kernel
theorem dX12_notes_4 : decode cX12_notes 4 = .ok (.ifCond .eq 4, 3) := by decide +kernel
theorem dX12_notes_7 : decode cX12_notes 7 = .ok (.return_, 1) := by decide +kernel
theorem dX12_notes_8 : decode cX12_notes 8 = .ok (.aload_n 0, 1) := by decide +kernel
theorem dX12_notes_9 : decode cX12_notes 9 = .ok (.getfield 61, 3) := by decide +kernel
theorem dX12_notes_12 : decode cX12_notes 12 = .ok (.aload_n 0, 1) := by decide +kernel
theorem dX12_notes_13 : decode cX12_notes 13 = .ok (.getfield 228, 3) := by decide +kernel
theorem dX12_notes_16 : decode cX12_notes 16 = .ok (.aaload, 1) := by decide +kernel
theorem dX12_notes_17 : decode cX12_notes 17 = .ok (.iconst 0, 1) := by decide +kernel
theorem dX12_notes_18 : decode cX12_notes 18 = .ok (.iload_n 1, 1) := by decide +kernel
theorem dX12_notes_19 : decode cX12_notes 19 = .ok (.iastore, 1) := by decide +kernel
theorem dX12_notes_20 : decode cX12_notes 20 = .ok (.aload_n 0, 1) := by decide +kernel
theorem dX12_notes_21 : decode cX12_notes 21 = .ok (.getfield 61, 3) := by decide +kernel
theorem dX12_notes_24 : decode cX12_notes 24 = .ok (.aload_n 0, 1) := by decide +kernel
theorem dX12_notes_25 : decode cX12_notes 25 = .ok (.getfield 228, 3) := by decide +kernel
theorem dX12_notes_28 : decode cX12_notes 28 = .ok (.aaload, 1) := by decide +kernel
theorem dX12_notes_29 : decode cX12_notes 29 = .ok (.iconst 1, 1) := by decide +kernel
theorem dX12_notes_30 : decode cX12_notes 30 = .ok (.iload_n 2, 1) := by decide +kernel
theorem dX12_notes_31 : decode cX12_notes 31 = .ok (.iastore, 1) := by decide +kernel
theorem dX12_notes_32 : decode cX12_notes 32 = .ok (.aload_n 0, 1) := by decide +kernel
theorem dX12_notes_33 : decode cX12_notes 33 = .ok (.dup, 1) := by decide +kernel
theorem dX12_notes_34 : decode cX12_notes 34 = .ok (.getfield 228, 3) := by decide +kernel
theorem dX12_notes_37 : decode cX12_notes 37 = .ok (.iconst 1, 1) := by decide +kernel
theorem dX12_notes_38 : decode cX12_notes 38 = .ok (.iadd, 1) := by decide +kernel
theorem dX12_notes_39 : decode cX12_notes 39 = .ok (.putfield 228, 3) := by decide +kernel
theorem dX12_notes_42 : decode cX12_notes 42 = .ok (.return_, 1) := by decide +kernel
theorem dX12_opensOne_0 : decode cX12_opensOne 0 = .ok (.aload_n 0, 1) := by decide +kernel
theorem dX12_opensOne_1 : decode cX12_opensOne 1 = .ok (.getfield 132, 3) := by decide +kernel
theorem dX12_opensOne_4 : decode cX12_opensOne 4 = .ok (.ifCond .ne 24, 3) := by decide +kernel
theorem dX12_opensOne_7 : decode cX12_opensOne 7 = .ok (.aload_n 0, 1) := by decide +kernel
theorem dX12_opensOne_8 : decode cX12_opensOne 8 = .ok (.getfield 175, 3) := by decide +kernel
theorem dX12_opensOne_11 : decode cX12_opensOne 11 = .ok (.bipush 6, 2) := by decide +kernel
theorem dX12_opensOne_13 : decode cX12_opensOne 13 = .ok (.if_icmp .ne 15, 3) := by decide +kernel
theorem dX12_opensOne_16 : decode cX12_opensOne 16 = .ok (.aload_n 0, 1) := by decide +kernel
theorem dX12_opensOne_17 : decode cX12_opensOne 17 = .ok (.iconst 3, 1) := by decide +kernel
theorem dX12_opensOne_18 : decode cX12_opensOne 18 = .ok (.aload_n 0, 1) := by decide +kernel
theorem dX12_opensOne_19 : decode cX12_opensOne 19 = .ok (.getfield 125, 3) := by decide +kernel
theorem dX12_opensOne_22 : decode cX12_opensOne 22 = .ok (.invokevirtual 145, 3) := by decide +kernel
theorem dX12_opensOne_25 : decode cX12_opensOne 25 = .ok (.goto 20, 3) := by decide +kernel
theorem dX12_opensOne_28 : decode cX12_opensOne 28 = .ok (.aload_n 0, 1) := by decide +kernel
theorem dX12_opensOne_29 : decode cX12_opensOne 29 = .ok (.getfield 132, 3) := by decide +kernel
theorem dX12_opensOne_32 : decode cX12_opensOne 32 = .ok (.ifCond .ne 13, 3) := by decide +kernel
theorem dX12_opensOne_35 : decode cX12_opensOne 35 = .ok (.aload_n 0, 1) := by decide +kernel
theorem dX12_opensOne_36 : decode cX12_opensOne 36 = .ok (.dup, 1) := by decide +kernel
theorem dX12_opensOne_37 : decode cX12_opensOne 37 = .ok (.getfield 175, 3) := by decide +kernel
theorem dX12_opensOne_40 : decode cX12_opensOne 40 = .ok (.iconst 1, 1) := by decide +kernel
theorem dX12_opensOne_41 : decode cX12_opensOne 41 = .ok (.iadd, 1) := by decide +kernel
theorem dX12_opensOne_42 : decode cX12_opensOne 42 = .ok (.putfield 175, 3) := by decide +kernel
theorem dX12_opensOne_45 : decode cX12_opensOne 45 = .ok (.aload_n 0, 1) := by decide +kernel
theorem dX12_opensOne_46 : decode cX12_opensOne 46 = .ok (.getfield 132, 3) := by decide +kernel
theorem dX12_opensOne_49 : decode cX12_opensOne 49 = .ok (.ifCond .ne 7, 3) := by decide +kernel
theorem dX12_opensOne_52 : decode cX12_opensOne 52 = .ok (.iconst 1, 1) := by decide +kernel
theorem dX12_opensOne_53 : decode cX12_opensOne 53 = .ok (.goto 4, 3) := by decide +kernel
theorem dX12_opensOne_56 : decode cX12_opensOne 56 = .ok (.iconst 0, 1) := by decide +kernel
theorem dX12_opensOne_57 : decode cX12_opensOne 57 = .ok (.ireturn, 1) := by decide +kernel
theorem dX12_sum_0 : decode cX12_sum 0 = .ok (.aload_n 0, 1) := by decide +kernel
theorem dX12_sum_1 : decode cX12_sum 1 = .ok (.invokevirtual 231, 3) := by decide +kernel
theorem dX12_sum_4 : decode cX12_sum 4 = .ok (.aload_n 0, 1) := by decide +kernel
theorem dX12_sum_5 : decode cX12_sum 5 = .ok (.getfield 132, 3) := by decide +kernel
theorem dX12_sum_8 : decode cX12_sum 8 = .ok (.ifCond .ne 50, 3) := by decide +kernel
theorem dX12_sum_11 : decode cX12_sum 11 = .ok (.aload_n 0, 1) := by decide +kernel
theorem dX12_sum_12 : decode cX12_sum 12 = .ok (.bipush 43, 2) := by decide +kernel
theorem dX12_sum_14 : decode cX12_sum 14 = .ok (.invokevirtual 234, 3) := by decide +kernel
theorem dX12_sum_17 : decode cX12_sum 17 = .ok (.ifCond .eq 7, 3) := by decide +kernel
theorem dX12_sum_20 : decode cX12_sum 20 = .ok (.iconst 2, 1) := by decide +kernel
theorem dX12_sum_21 : decode cX12_sum 21 = .ok (.goto 17, 3) := by decide +kernel
theorem dX12_sum_24 : decode cX12_sum 24 = .ok (.aload_n 0, 1) := by decide +kernel
theorem dX12_sum_25 : decode cX12_sum 25 = .ok (.bipush 45, 2) := by decide +kernel
theorem dX12_sum_27 : decode cX12_sum 27 = .ok (.invokevirtual 234, 3) := by decide +kernel
theorem dX12_sum_30 : decode cX12_sum 30 = .ok (.ifCond .eq 7, 3) := by decide +kernel
theorem dX12_sum_33 : decode cX12_sum 33 = .ok (.iconst 3, 1) := by decide +kernel
theorem dX12_sum_34 : decode cX12_sum 34 = .ok (.goto 4, 3) := by decide +kernel
theorem dX12_sum_37 : decode cX12_sum 37 = .ok (.iconst (-1), 1) := by decide +kernel
theorem dX12_sum_38 : decode cX12_sum 38 = .ok (.istore_n 1, 1) := by decide +kernel
theorem dX12_sum_39 : decode cX12_sum 39 = .ok (.iload_n 1, 1) := by decide +kernel
theorem dX12_sum_40 : decode cX12_sum 40 = .ok (.iconst (-1), 1) := by decide +kernel
theorem dX12_sum_41 : decode cX12_sum 41 = .ok (.if_icmp .ne 4, 3) := by decide +kernel
theorem dX12_sum_44 : decode cX12_sum 44 = .ok (.return_, 1) := by decide +kernel
theorem dX12_sum_45 : decode cX12_sum 45 = .ok (.aload_n 0, 1) := by decide +kernel
theorem dX12_sum_46 : decode cX12_sum 46 = .ok (.invokevirtual 231, 3) := by decide +kernel
theorem dX12_sum_49 : decode cX12_sum 49 = .ok (.aload_n 0, 1) := by decide +kernel
theorem dX12_sum_50 : decode cX12_sum 50 = .ok (.iload_n 1, 1) := by decide +kernel
theorem dX12_sum_51 : decode cX12_sum 51 = .ok (.iconst 0, 1) := by decide +kernel
theorem dX12_sum_52 : decode cX12_sum 52 = .ok (.invokevirtual 237, 3) := by decide +kernel
theorem dX12_sum_55 : decode cX12_sum 55 = .ok (.goto (-51), 3) := by decide +kernel
theorem dX12_sum_58 : decode cX12_sum 58 = .ok (.return_, 1) := by decide +kernel
theorem dX12_product_0 : decode cX12_product 0 = .ok (.aload_n 0, 1) := by decide +kernel
theorem dX12_product_1 : decode cX12_product 1 = .ok (.invokevirtual 240, 3) := by decide +kernel
theorem dX12_product_4 : decode cX12_product 4 = .ok (.aload_n 0, 1) := by decide +kernel
theorem dX12_product_5 : decode cX12_product 5 = .ok (.getfield 132, 3) := by decide +kernel
theorem dX12_product_8 : decode cX12_product 8 = .ok (.ifCond .ne 64, 3) := by decide +kernel
theorem dX12_product_11 : decode cX12_product 11 = .ok (.aload_n 0, 1) := by decide +kernel
theorem dX12_product_12 : decode cX12_product 12 = .ok (.bipush 42, 2) := by decide +kernel
theorem dX12_product_14 : decode cX12_product 14 = .ok (.invokevirtual 234, 3) := by decide +kernel
theorem dX12_product_17 : decode cX12_product 17 = .ok (.ifCond .eq 7, 3) := by decide +kernel
theorem dX12_product_20 : decode cX12_product 20 = .ok (.iconst 4, 1) := by decide +kernel
theorem dX12_product_21 : decode cX12_product 21 = .ok (.goto 31, 3) := by decide +kernel
theorem dX12_product_24 : decode cX12_product 24 = .ok (.aload_n 0, 1) := by decide +kernel
theorem dX12_product_25 : decode cX12_product 25 = .ok (.bipush 47, 2) := by decide +kernel
theorem dX12_product_27 : decode cX12_product 27 = .ok (.invokevirtual 234, 3) := by decide +kernel
theorem dX12_product_30 : decode cX12_product 30 = .ok (.ifCond .eq 7, 3) := by decide +kernel
theorem dX12_product_33 : decode cX12_product 33 = .ok (.iconst 5, 1) := by decide +kernel
theorem dX12_product_34 : decode cX12_product 34 = .ok (.goto 18, 3) := by decide +kernel
theorem dX12_product_37 : decode cX12_product 37 = .ok (.aload_n 0, 1) := by decide +kernel
theorem dX12_product_38 : decode cX12_product 38 = .ok (.bipush 37, 2) := by decide +kernel
theorem dX12_product_40 : decode cX12_product 40 = .ok (.invokevirtual 234, 3) := by decide +kernel
theorem dX12_product_43 : decode cX12_product 43 = .ok (.ifCond .eq 8, 3) := by decide +kernel
theorem dX12_product_46 : decode cX12_product 46 = .ok (.bipush 6, 2) := by decide +kernel
theorem dX12_product_48 : decode cX12_product 48 = .ok (.goto 4, 3) := by decide +kernel
theorem dX12_product_51 : decode cX12_product 51 = .ok (.iconst (-1), 1) := by decide +kernel
theorem dX12_product_52 : decode cX12_product 52 = .ok (.istore_n 1, 1) := by decide +kernel
theorem dX12_product_53 : decode cX12_product 53 = .ok (.iload_n 1, 1) := by decide +kernel
theorem dX12_product_54 : decode cX12_product 54 = .ok (.iconst (-1), 1) := by decide +kernel
theorem dX12_product_55 : decode cX12_product 55 = .ok (.if_icmp .ne 4, 3) := by decide +kernel
theorem dX12_product_58 : decode cX12_product 58 = .ok (.return_, 1) := by decide +kernel
theorem dX12_product_59 : decode cX12_product 59 = .ok (.aload_n 0, 1) := by decide +kernel
theorem dX12_product_60 : decode cX12_product 60 = .ok (.invokevirtual 240, 3) := by decide +kernel
theorem dX12_product_63 : decode cX12_product 63 = .ok (.aload_n 0, 1) := by decide +kernel
theorem dX12_product_64 : decode cX12_product 64 = .ok (.iload_n 1, 1) := by decide +kernel
theorem dX12_product_65 : decode cX12_product 65 = .ok (.iconst 0, 1) := by decide +kernel
theorem dX12_product_66 : decode cX12_product 66 = .ok (.invokevirtual 237, 3) := by decide +kernel
theorem dX12_product_69 : decode cX12_product 69 = .ok (.goto (-65), 3) := by decide +kernel
theorem dX12_product_72 : decode cX12_product 72 = .ok (.return_, 1) := by decide +kernel
theorem dX12_knownHere_0 : decode cX12_knownHere 0 = .ok (.aload_n 0, 1) := by decide +kernel
theorem dX12_knownHere_1 : decode cX12_knownHere 1 = .ok (.bipush 18, 2) := by decide +kernel
theorem dX12_knownHere_3 : decode cX12_knownHere 3 = .ok (.bipush 15, 2) := by decide +kernel
theorem dX12_knownHere_5 : decode cX12_knownHere 5 = .ok (.bipush 23, 2) := by decide +kernel
theorem dX12_knownHere_7 : decode cX12_knownHere 7 = .ok (.iconst 0, 1) := by decide +kernel
theorem dX12_knownHere_8 : decode cX12_knownHere 8 = .ok (.iconst 0, 1) := by decide +kernel
theorem dX12_knownHere_9 : decode cX12_knownHere 9 = .ok (.iconst 0, 1) := by decide +kernel
theorem dX12_knownHere_10 : decode cX12_knownHere 10 = .ok (.invokevirtual 243, 3) := by decide +kernel
theorem dX12_knownHere_13 : decode cX12_knownHere 13 = .ok (.ifCond .eq 5, 3) := by decide +kernel
theorem dX12_knownHere_16 : decode cX12_knownHere 16 = .ok (.iconst 0, 1) := by decide +kernel
theorem dX12_knownHere_17 : decode cX12_knownHere 17 = .ok (.ireturn, 1) := by decide +kernel
theorem dX12_knownHere_18 : decode cX12_knownHere 18 = .ok (.aload_n 0, 1) := by decide +kernel
theorem dX12_knownHere_19 : decode cX12_knownHere 19 = .ok (.invokevirtual 246, 3) := by decide +kernel
theorem dX12_knownHere_22 : decode cX12_knownHere 22 = .ok (.ifCond .eq 5, 3) := by decide +kernel
theorem dX12_knownHere_25 : decode cX12_knownHere 25 = .ok (.iconst 1, 1) := by decide +kernel
theorem dX12_knownHere_26 : decode cX12_knownHere 26 = .ok (.ireturn, 1) := by decide +kernel
theorem dX12_knownHere_27 : decode cX12_knownHere 27 = .ok (.aload_n 0, 1) := by decide +kernel
theorem dX12_knownHere_28 : decode cX12_knownHere 28 = .ok (.bipush 16, 2) := by decide +kernel
theorem dX12_knownHere_30 : decode cX12_knownHere 30 = .ok (.bipush 12, 2) := by decide +kernel
theorem dX12_knownHere_32 : decode cX12_knownHere 32 = .ok (.iconst 1, 1) := by decide +kernel
theorem dX12_knownHere_33 : decode cX12_knownHere 33 = .ok (.iconst 3, 1) := by decide +kernel
theorem dX12_knownHere_34 : decode cX12_knownHere 34 = .ok (.iconst 5, 1) := by decide +kernel
theorem dX12_knownHere_35 : decode cX12_knownHere 35 = .ok (.iconst 0, 1) := by decide +kernel
theorem dX12_knownHere_36 : decode cX12_knownHere 36 = .ok (.invokevirtual 243, 3) := by decide +kernel
theorem dX12_knownHere_39 : decode cX12_knownHere 39 = .ok (.ifCond .eq 5, 3) := by decide +kernel
theorem dX12_knownHere_42 : decode cX12_knownHere 42 = .ok (.iconst 2, 1) := by decide +kernel
theorem dX12_knownHere_43 : decode cX12_knownHere 43 = .ok (.ireturn, 1) := by decide +kernel
theorem dX12_knownHere_44 : decode cX12_knownHere 44 = .ok (.aload_n 0, 1) := by decide +kernel
theorem dX12_knownHere_45 : decode cX12_knownHere 45 = .ok (.bipush 23, 2) := by decide +kernel
theorem dX12_knownHere_47 : decode cX12_knownHere 47 = .ok (.bipush 18, 2) := by decide +kernel
theorem dX12_knownHere_49 : decode cX12_knownHere 49 = .ok (.bipush 9, 2) := by decide +kernel
theorem dX12_knownHere_51 : decode cX12_knownHere 51 = .ok (.bipush 20, 2) := by decide +kernel
theorem dX12_knownHere_53 : decode cX12_knownHere 53 = .ok (.iconst 5, 1) := by decide +kernel
theorem dX12_knownHere_54 : decode cX12_knownHere 54 = .ok (.bipush 18, 2) := by decide +kernel
theorem dX12_knownHere_56 : decode cX12_knownHere 56 = .ok (.invokevirtual 243, 3) := by decide +kernel
theorem dX12_knownHere_59 : decode cX12_knownHere 59 = .ok (.ifCond .eq 5, 3) := by decide +kernel
theorem dX12_knownHere_62 : decode cX12_knownHere 62 = .ok (.iconst 3, 1) := by decide +kernel
theorem dX12_knownHere_63 : decode cX12_knownHere 63 = .ok (.ireturn, 1) := by decide +kernel
theorem dX12_knownHere_64 : decode cX12_knownHere 64 = .ok (.aload_n 0, 1) := by decide +kernel
theorem dX12_knownHere_65 : decode cX12_knownHere 65 = .ok (.iconst 1, 1) := by decide +kernel
theorem dX12_knownHere_66 : decode cX12_knownHere 66 = .ok (.iconst 3, 1) := by decide +kernel
theorem dX12_knownHere_67 : decode cX12_knownHere 67 = .ok (.bipush 20, 2) := by decide +kernel
theorem dX12_knownHere_69 : decode cX12_knownHere 69 = .ok (.iconst 0, 1) := by decide +kernel
theorem dX12_knownHere_70 : decode cX12_knownHere 70 = .ok (.iconst 0, 1) := by decide +kernel
theorem dX12_knownHere_71 : decode cX12_knownHere 71 = .ok (.iconst 0, 1) := by decide +kernel
theorem dX12_knownHere_72 : decode cX12_knownHere 72 = .ok (.invokevirtual 243, 3) := by decide +kernel
theorem dX12_knownHere_75 : decode cX12_knownHere 75 = .ok (.ifCond .eq 5, 3) := by decide +kernel
theorem dX12_knownHere_78 : decode cX12_knownHere 78 = .ok (.iconst 4, 1) := by decide +kernel
theorem dX12_knownHere_79 : decode cX12_knownHere 79 = .ok (.ireturn, 1) := by decide +kernel
theorem dX12_knownHere_80 : decode cX12_knownHere 80 = .ok (.aload_n 0, 1) := by decide +kernel
theorem dX12_knownHere_81 : decode cX12_knownHere 81 = .ok (.iconst 4, 1) := by decide +kernel
theorem dX12_knownHere_82 : decode cX12_knownHere 82 = .ok (.iconst 1, 1) := by decide +kernel
theorem dX12_knownHere_83 : decode cX12_knownHere 83 = .ok (.bipush 25, 2) := by decide +kernel
theorem dX12_knownHere_85 : decode cX12_knownHere 85 = .ok (.iconst 0, 1) := by decide +kernel
theorem dX12_knownHere_86 : decode cX12_knownHere 86 = .ok (.iconst 0, 1) := by decide +kernel
theorem dX12_knownHere_87 : decode cX12_knownHere 87 = .ok (.iconst 0, 1) := by decide +kernel
theorem dX12_knownHere_88 : decode cX12_knownHere 88 = .ok (.invokevirtual 243, 3) := by decide +kernel
theorem dX12_knownHere_91 : decode cX12_knownHere 91 = .ok (.ifCond .eq 5, 3) := by decide +kernel
theorem dX12_knownHere_94 : decode cX12_knownHere 94 = .ok (.iconst 5, 1) := by decide +kernel
theorem dX12_knownHere_95 : decode cX12_knownHere 95 = .ok (.ireturn, 1) := by decide +kernel
theorem dX12_knownHere_96 : decode cX12_knownHere 96 = .ok (.aload_n 0, 1) := by decide +kernel
theorem dX12_knownHere_97 : decode cX12_knownHere 97 = .ok (.bipush 18, 2) := by decide +kernel
theorem dX12_knownHere_99 : decode cX12_knownHere 99 = .ok (.iconst 5, 1) := by decide +kernel
theorem dX12_knownHere_100 : decode cX12_knownHere 100 = .ok (.iconst 1, 1) := by decide +kernel
theorem dX12_knownHere_101 : decode cX12_knownHere 101 = .ok (.iconst 3, 1) := by decide +kernel
theorem dX12_knownHere_102 : decode cX12_knownHere 102 = .ok (.bipush 8, 2) := by decide +kernel
theorem dX12_knownHere_104 : decode cX12_knownHere 104 = .ok (.iconst 0, 1) := by decide +kernel
theorem dX12_knownHere_105 : decode cX12_knownHere 105 = .ok (.invokevirtual 243, 3) := by decide +kernel
theorem dX12_knownHere_108 : decode cX12_knownHere 108 = .ok (.ifCond .eq 6, 3) := by decide +kernel
theorem dX12_knownHere_111 : decode cX12_knownHere 111 = .ok (.bipush 6, 2) := by decide +kernel
theorem dX12_knownHere_113 : decode cX12_knownHere 113 = .ok (.ireturn, 1) := by decide +kernel
theorem dX12_knownHere_114 : decode cX12_knownHere 114 = .ok (.aload_n 0, 1) := by decide +kernel
theorem dX12_knownHere_115 : decode cX12_knownHere 115 = .ok (.bipush 15, 2) := by decide +kernel
theorem dX12_knownHere_117 : decode cX12_knownHere 117 = .ok (.bipush 12, 2) := by decide +kernel
theorem dX12_knownHere_119 : decode cX12_knownHere 119 = .ok (.iconst 4, 1) := by decide +kernel
theorem dX12_knownHere_120 : decode cX12_knownHere 120 = .ok (.iconst 0, 1) := by decide +kernel
theorem dX12_knownHere_121 : decode cX12_knownHere 121 = .ok (.iconst 0, 1) := by decide +kernel
theorem dX12_knownHere_122 : decode cX12_knownHere 122 = .ok (.iconst 0, 1) := by decide +kernel
theorem dX12_knownHere_123 : decode cX12_knownHere 123 = .ok (.invokevirtual 243, 3) := by decide +kernel
theorem dX12_knownHere_126 : decode cX12_knownHere 126 = .ok (.ifCond .eq 8, 3) := by decide +kernel
theorem dX12_knownHere_129 : decode cX12_knownHere 129 = .ok (.bipush 7, 2) := by decide +kernel
theorem dX12_knownHere_131 : decode cX12_knownHere 131 = .ok (.goto 4, 3) := by decide +kernel
theorem dX12_knownHere_134 : decode cX12_knownHere 134 = .ok (.iconst (-1), 1) := by decide +kernel
theorem dX12_knownHere_135 : decode cX12_knownHere 135 = .ok (.ireturn, 1) := by decide +kernel
theorem dX12_isLetters_0 : decode cX12_isLetters 0 = .ok (.aload_n 0, 1) := by decide +kernel
theorem dX12_isLetters_1 : decode cX12_isLetters 1 = .ok (.getfield 132, 3) := by decide +kernel
theorem dX12_isLetters_4 : decode cX12_isLetters 4 = .ok (.ifCond .eq 5, 3) := by decide +kernel
theorem dX12_isLetters_7 : decode cX12_isLetters 7 = .ok (.iconst 0, 1) := by decide +kernel
theorem dX12_isLetters_8 : decode cX12_isLetters 8 = .ok (.ireturn, 1) := by decide +kernel
theorem dX12_isLetters_9 : decode cX12_isLetters 9 = .ok (.aload_n 0, 1) := by decide +kernel
theorem dX12_isLetters_10 : decode cX12_isLetters 10 = .ok (.invokevirtual 138, 3) := by decide +kernel
theorem dX12_isLetters_13 : decode cX12_isLetters 13 = .ok (.iconst 0, 1) := by decide +kernel
theorem dX12_isLetters_14 : decode cX12_isLetters 14 = .ok (.istore_n 1, 1) := by decide +kernel
theorem dX12_isLetters_15 : decode cX12_isLetters 15 = .ok (.iconst 0, 1) := by decide +kernel
theorem dX12_isLetters_16 : decode cX12_isLetters 16 = .ok (.istore_n 2, 1) := by decide +kernel
theorem dX12_isLetters_17 : decode cX12_isLetters 17 = .ok (.aload_n 0, 1) := by decide +kernel
theorem dX12_isLetters_18 : decode cX12_isLetters 18 = .ok (.aload_n 0, 1) := by decide +kernel
theorem dX12_isLetters_19 : decode cX12_isLetters 19 = .ok (.getfield 125, 3) := by decide +kernel
theorem dX12_isLetters_22 : decode cX12_isLetters 22 = .ok (.iload_n 2, 1) := by decide +kernel
theorem dX12_isLetters_23 : decode cX12_isLetters 23 = .ok (.iadd, 1) := by decide +kernel
theorem dX12_isLetters_24 : decode cX12_isLetters 24 = .ok (.invokevirtual 128, 3) := by decide +kernel
theorem dX12_isLetters_27 : decode cX12_isLetters 27 = .ok (.invokestatic 154, 3) := by decide +kernel
theorem dX12_isLetters_30 : decode cX12_isLetters 30 = .ok (.ifCond .eq 40, 3) := by decide +kernel
theorem dX12_isLetters_33 : decode cX12_isLetters 33 = .ok (.iload_n 2, 1) := by decide +kernel
theorem dX12_isLetters_34 : decode cX12_isLetters 34 = .ok (.bipush 6, 2) := by decide +kernel
theorem dX12_isLetters_36 : decode cX12_isLetters 36 = .ok (.if_icmp .ge 26, 3) := by decide +kernel
theorem dX12_isLetters_39 : decode cX12_isLetters 39 = .ok (.bipush 27, 2) := by decide +kernel
theorem dX12_isLetters_41 : decode cX12_isLetters 41 = .ok (.iload_n 1, 1) := by decide +kernel
theorem dX12_isLetters_42 : decode cX12_isLetters 42 = .ok (.imul, 1) := by decide +kernel
theorem dX12_isLetters_43 : decode cX12_isLetters 43 = .ok (.aload_n 0, 1) := by decide +kernel
theorem dX12_isLetters_44 : decode cX12_isLetters 44 = .ok (.aload_n 0, 1) := by decide +kernel
theorem dX12_isLetters_45 : decode cX12_isLetters 45 = .ok (.getfield 125, 3) := by decide +kernel
theorem dX12_isLetters_48 : decode cX12_isLetters 48 = .ok (.iload_n 2, 1) := by decide +kernel
theorem dX12_isLetters_49 : decode cX12_isLetters 49 = .ok (.iadd, 1) := by decide +kernel
theorem dX12_isLetters_50 : decode cX12_isLetters 50 = .ok (.invokevirtual 128, 3) := by decide +kernel
theorem dX12_isLetters_53 : decode cX12_isLetters 53 = .ok (.iadd, 1) := by decide +kernel
theorem dX12_isLetters_54 : decode cX12_isLetters 54 = .ok (.bipush 97, 2) := by decide +kernel
theorem dX12_isLetters_56 : decode cX12_isLetters 56 = .ok (.isub, 1) := by decide +kernel
theorem dX12_isLetters_57 : decode cX12_isLetters 57 = .ok (.iconst 1, 1) := by decide +kernel
theorem dX12_isLetters_58 : decode cX12_isLetters 58 = .ok (.iadd, 1) := by decide +kernel
theorem dX12_isLetters_59 : decode cX12_isLetters 59 = .ok (.goto 4, 3) := by decide +kernel
theorem dX12_isLetters_62 : decode cX12_isLetters 62 = .ok (.iload_n 1, 1) := by decide +kernel
theorem dX12_isLetters_63 : decode cX12_isLetters 63 = .ok (.istore_n 1, 1) := by decide +kernel
theorem dX12_isLetters_64 : decode cX12_isLetters 64 = .ok (.iinc 2 1, 3) := by decide +kernel
theorem dX12_isLetters_67 : decode cX12_isLetters 67 = .ok (.goto (-50), 3) := by decide +kernel
theorem dX12_isLetters_70 : decode cX12_isLetters 70 = .ok (.iload_n 2, 1) := by decide +kernel
theorem dX12_isLetters_71 : decode cX12_isLetters 71 = .ok (.bipush 7, 2) := by decide +kernel
theorem dX12_isLetters_73 : decode cX12_isLetters 73 = .ok (.if_icmp .ne 40, 3) := by decide +kernel
theorem dX12_isLetters_76 : decode cX12_isLetters 76 = .ok (.iload_n 1, 1) := by decide +kernel
theorem dX12_isLetters_77 : decode cX12_isLetters 77 = .ok (.bipush 12, 2) := by decide +kernel
theorem dX12_isLetters_79 : decode cX12_isLetters 79 = .ok (.iconst 5, 1) := by decide +kernel
theorem dX12_isLetters_80 : decode cX12_isLetters 80 = .ok (.bipush 20, 2) := by decide +kernel
theorem dX12_isLetters_82 : decode cX12_isLetters 82 = .ok (.bipush 20, 2) := by decide +kernel
theorem dX12_isLetters_84 : decode cX12_isLetters 84 = .ok (.iconst 5, 1) := by decide +kernel
theorem dX12_isLetters_85 : decode cX12_isLetters 85 = .ok (.bipush 18, 2) := by decide +kernel
theorem dX12_isLetters_87 : decode cX12_isLetters 87 = .ok (.invokestatic 161, 3) := by decide +kernel
theorem dX12_isLetters_90 : decode cX12_isLetters 90 = .ok (.if_icmp .ne 23, 3) := by decide +kernel
theorem dX12_isLetters_93 : decode cX12_isLetters 93 = .ok (.aload_n 0, 1) := by decide +kernel
theorem dX12_isLetters_94 : decode cX12_isLetters 94 = .ok (.aload_n 0, 1) := by decide +kernel
theorem dX12_isLetters_95 : decode cX12_isLetters 95 = .ok (.getfield 125, 3) := by decide +kernel
theorem dX12_isLetters_98 : decode cX12_isLetters 98 = .ok (.bipush 6, 2) := by decide +kernel
theorem dX12_isLetters_100 : decode cX12_isLetters 100 = .ok (.iadd, 1) := by decide +kernel
theorem dX12_isLetters_101 : decode cX12_isLetters 101 = .ok (.invokevirtual 128, 3) := by decide +kernel
theorem dX12_isLetters_104 : decode cX12_isLetters 104 = .ok (.bipush 115, 2) := by decide +kernel
theorem dX12_isLetters_106 : decode cX12_isLetters 106 = .ok (.if_icmp .ne 7, 3) := by decide +kernel
theorem dX12_isLetters_109 : decode cX12_isLetters 109 = .ok (.iconst 1, 1) := by decide +kernel
theorem dX12_isLetters_110 : decode cX12_isLetters 110 = .ok (.goto 4, 3) := by decide +kernel
theorem dX12_isLetters_113 : decode cX12_isLetters 113 = .ok (.iconst 0, 1) := by decide +kernel
theorem dX12_isLetters_114 : decode cX12_isLetters 114 = .ok (.istore_n 3, 1) := by decide +kernel
theorem dX12_isLetters_115 : decode cX12_isLetters 115 = .ok (.iload_n 3, 1) := by decide +kernel
theorem dX12_isLetters_116 : decode cX12_isLetters 116 = .ok (.ifCond .eq 7, 3) := by decide +kernel
theorem dX12_isLetters_119 : decode cX12_isLetters 119 = .ok (.aload_n 0, 1) := by decide +kernel
theorem dX12_isLetters_120 : decode cX12_isLetters 120 = .ok (.invokevirtual 169, 3) := by decide +kernel
theorem dX12_isLetters_123 : decode cX12_isLetters 123 = .ok (.iload_n 3, 1) := by decide +kernel
theorem dX12_isLetters_124 : decode cX12_isLetters 124 = .ok (.ireturn, 1) := by decide +kernel
theorem dX12_one_0 : decode cX12_one 0 = .ok (.aload_n 0, 1) := by decide +kernel
theorem dX12_one_1 : decode cX12_one 1 = .ok (.getfield 132, 3) := by decide +kernel
theorem dX12_one_4 : decode cX12_one 4 = .ok (.ifCond .eq 4, 3) := by decide +kernel
theorem dX12_one_7 : decode cX12_one 7 = .ok (.return_, 1) := by decide +kernel
theorem dX12_one_8 : decode cX12_one 8 = .ok (.aload_n 0, 1) := by decide +kernel
theorem dX12_one_9 : decode cX12_one 9 = .ok (.invokevirtual 138, 3) := by decide +kernel
theorem dX12_one_12 : decode cX12_one 12 = .ok (.aload_n 0, 1) := by decide +kernel
theorem dX12_one_13 : decode cX12_one 13 = .ok (.bipush 12, 2) := by decide +kernel
theorem dX12_one_15 : decode cX12_one 15 = .ok (.iconst 5, 1) := by decide +kernel
theorem dX12_one_16 : decode cX12_one 16 = .ok (.iconst 1, 1) := by decide +kernel
theorem dX12_one_17 : decode cX12_one 17 = .ok (.bipush 19, 2) := by decide +kernel
theorem dX12_one_19 : decode cX12_one 19 = .ok (.bipush 20, 2) := by decide +kernel
theorem dX12_one_21 : decode cX12_one 21 = .ok (.iconst 0, 1) := by decide +kernel
theorem dX12_one_22 : decode cX12_one 22 = .ok (.invokevirtual 165, 3) := by decide +kernel
theorem dX12_one_25 : decode cX12_one 25 = .ok (.ifCond .eq 8, 3) := by decide +kernel
theorem dX12_one_28 : decode cX12_one 28 = .ok (.bipush 7, 2) := by decide +kernel
theorem dX12_one_30 : decode cX12_one 30 = .ok (.goto 26, 3) := by decide +kernel
theorem dX12_one_33 : decode cX12_one 33 = .ok (.aload_n 0, 1) := by decide +kernel
theorem dX12_one_34 : decode cX12_one 34 = .ok (.bipush 13, 2) := by decide +kernel
theorem dX12_one_36 : decode cX12_one 36 = .ok (.bipush 15, 2) := by decide +kernel
theorem dX12_one_38 : decode cX12_one 38 = .ok (.bipush 19, 2) := by decide +kernel
theorem dX12_one_40 : decode cX12_one 40 = .ok (.bipush 20, 2) := by decide +kernel
theorem dX12_one_42 : decode cX12_one 42 = .ok (.iconst 0, 1) := by decide +kernel
theorem dX12_one_43 : decode cX12_one 43 = .ok (.iconst 0, 1) := by decide +kernel
theorem dX12_one_44 : decode cX12_one 44 = .ok (.invokevirtual 165, 3) := by decide +kernel
theorem dX12_one_47 : decode cX12_one 47 = .ok (.ifCond .eq 8, 3) := by decide +kernel
theorem dX12_one_50 : decode cX12_one 50 = .ok (.bipush 8, 2) := by decide +kernel
theorem dX12_one_52 : decode cX12_one 52 = .ok (.goto 4, 3) := by decide +kernel
theorem dX12_one_55 : decode cX12_one 55 = .ok (.iconst (-1), 1) := by decide +kernel
theorem dX12_one_56 : decode cX12_one 56 = .ok (.istore_n 1, 1) := by decide +kernel
theorem dX12_one_57 : decode cX12_one 57 = .ok (.iload_n 1, 1) := by decide +kernel
theorem dX12_one_58 : decode cX12_one 58 = .ok (.iconst (-1), 1) := by decide +kernel
theorem dX12_one_59 : decode cX12_one 59 = .ok (.if_icmp .eq 58, 3) := by decide +kernel
theorem dX12_one_62 : decode cX12_one 62 = .ok (.aload_n 0, 1) := by decide +kernel
theorem dX12_one_63 : decode cX12_one 63 = .ok (.invokevirtual 250, 3) := by decide +kernel
theorem dX12_one_66 : decode cX12_one 66 = .ok (.ifCond .ne 4, 3) := by decide +kernel
theorem dX12_one_69 : decode cX12_one 69 = .ok (.return_, 1) := by decide +kernel
theorem dX12_one_70 : decode cX12_one 70 = .ok (.aload_n 0, 1) := by decide +kernel
theorem dX12_one_71 : decode cX12_one 71 = .ok (.invokevirtual 169, 3) := by decide +kernel
theorem dX12_one_74 : decode cX12_one 74 = .ok (.aload_n 0, 1) := by decide +kernel
theorem dX12_one_75 : decode cX12_one 75 = .ok (.bipush 91, 2) := by decide +kernel
theorem dX12_one_77 : decode cX12_one 77 = .ok (.invokevirtual 188, 3) := by decide +kernel
theorem dX12_one_80 : decode cX12_one 80 = .ok (.aload_n 0, 1) := by decide +kernel
theorem dX12_one_81 : decode cX12_one 81 = .ok (.invokevirtual 253, 3) := by decide +kernel
theorem dX12_one_84 : decode cX12_one 84 = .ok (.aload_n 0, 1) := by decide +kernel
theorem dX12_one_85 : decode cX12_one 85 = .ok (.bipush 44, 2) := by decide +kernel
theorem dX12_one_87 : decode cX12_one 87 = .ok (.invokevirtual 188, 3) := by decide +kernel
theorem dX12_one_90 : decode cX12_one 90 = .ok (.aload_n 0, 1) := by decide +kernel
theorem dX12_one_91 : decode cX12_one 91 = .ok (.invokevirtual 253, 3) := by decide +kernel
theorem dX12_one_94 : decode cX12_one 94 = .ok (.aload_n 0, 1) := by decide +kernel
theorem dX12_one_95 : decode cX12_one 95 = .ok (.bipush 93, 2) := by decide +kernel
theorem dX12_one_97 : decode cX12_one 97 = .ok (.invokevirtual 188, 3) := by decide +kernel
theorem dX12_one_100 : decode cX12_one 100 = .ok (.aload_n 0, 1) := by decide +kernel
theorem dX12_one_101 : decode cX12_one 101 = .ok (.iload_n 1, 1) := by decide +kernel
theorem dX12_one_102 : decode cX12_one 102 = .ok (.iconst 0, 1) := by decide +kernel
theorem dX12_one_103 : decode cX12_one 103 = .ok (.invokevirtual 237, 3) := by decide +kernel
theorem dX12_one_106 : decode cX12_one 106 = .ok (.aload_n 0, 1) := by decide +kernel
theorem dX12_one_107 : decode cX12_one 107 = .ok (.dup, 1) := by decide +kernel
theorem dX12_one_108 : decode cX12_one 108 = .ok (.getfield 175, 3) := by decide +kernel
theorem dX12_one_111 : decode cX12_one 111 = .ok (.iconst 1, 1) := by decide +kernel
theorem dX12_one_112 : decode cX12_one 112 = .ok (.isub, 1) := by decide +kernel
theorem dX12_one_113 : decode cX12_one 113 = .ok (.putfield 175, 3) := by decide +kernel
theorem dX12_one_116 : decode cX12_one 116 = .ok (.return_, 1) := by decide +kernel
theorem dX12_one_117 : decode cX12_one 117 = .ok (.aload_n 0, 1) := by decide +kernel
theorem dX12_one_118 : decode cX12_one 118 = .ok (.aload_n 0, 1) := by decide +kernel
theorem dX12_one_119 : decode cX12_one 119 = .ok (.getfield 125, 3) := by decide +kernel
theorem dX12_one_122 : decode cX12_one 122 = .ok (.invokevirtual 128, 3) := by decide +kernel
theorem dX12_one_125 : decode cX12_one 125 = .ok (.bipush 40, 2) := by decide +kernel
theorem dX12_one_127 : decode cX12_one 127 = .ok (.if_icmp .ne 42, 3) := by decide +kernel
theorem dX12_one_130 : decode cX12_one 130 = .ok (.aload_n 0, 1) := by decide +kernel
theorem dX12_one_131 : decode cX12_one 131 = .ok (.invokevirtual 250, 3) := by decide +kernel
theorem dX12_one_134 : decode cX12_one 134 = .ok (.ifCond .ne 4, 3) := by decide +kernel
theorem dX12_one_137 : decode cX12_one 137 = .ok (.return_, 1) := by decide +kernel
theorem dX12_one_138 : decode cX12_one 138 = .ok (.aload_n 0, 1) := by decide +kernel
theorem dX12_one_139 : decode cX12_one 139 = .ok (.dup, 1) := by decide +kernel
theorem dX12_one_140 : decode cX12_one 140 = .ok (.getfield 125, 3) := by decide +kernel
theorem dX12_one_143 : decode cX12_one 143 = .ok (.iconst 1, 1) := by decide +kernel
theorem dX12_one_144 : decode cX12_one 144 = .ok (.iadd, 1) := by decide +kernel
theorem dX12_one_145 : decode cX12_one 145 = .ok (.putfield 125, 3) := by decide +kernel
theorem dX12_one_148 : decode cX12_one 148 = .ok (.aload_n 0, 1) := by decide +kernel
theorem dX12_one_149 : decode cX12_one 149 = .ok (.invokevirtual 253, 3) := by decide +kernel
theorem dX12_one_152 : decode cX12_one 152 = .ok (.aload_n 0, 1) := by decide +kernel
theorem dX12_one_153 : decode cX12_one 153 = .ok (.bipush 41, 2) := by decide +kernel
theorem dX12_one_155 : decode cX12_one 155 = .ok (.invokevirtual 188, 3) := by decide +kernel
theorem dX12_one_158 : decode cX12_one 158 = .ok (.aload_n 0, 1) := by decide +kernel
theorem dX12_one_159 : decode cX12_one 159 = .ok (.dup, 1) := by decide +kernel
theorem dX12_one_160 : decode cX12_one 160 = .ok (.getfield 175, 3) := by decide +kernel
theorem dX12_one_163 : decode cX12_one 163 = .ok (.iconst 1, 1) := by decide +kernel
theorem dX12_one_164 : decode cX12_one 164 = .ok (.isub, 1) := by decide +kernel
theorem dX12_one_165 : decode cX12_one 165 = .ok (.putfield 175, 3) := by decide +kernel
theorem dX12_one_168 : decode cX12_one 168 = .ok (.return_, 1) := by decide +kernel
theorem dX12_one_169 : decode cX12_one 169 = .ok (.aload_n 0, 1) := by decide +kernel
theorem dX12_one_170 : decode cX12_one 170 = .ok (.invokevirtual 256, 3) := by decide +kernel
theorem dX12_one_173 : decode cX12_one 173 = .ok (.istore_n 2, 1) := by decide +kernel
theorem dX12_one_174 : decode cX12_one 174 = .ok (.iload_n 2, 1) := by decide +kernel
theorem dX12_one_175 : decode cX12_one 175 = .ok (.iconst (-1), 1) := by decide +kernel
theorem dX12_one_176 : decode cX12_one 176 = .ok (.if_icmp .eq 12, 3) := by decide +kernel
theorem dX12_one_179 : decode cX12_one 179 = .ok (.aload_n 0, 1) := by decide +kernel
theorem dX12_one_180 : decode cX12_one 180 = .ok (.iconst 1, 1) := by decide +kernel
theorem dX12_one_181 : decode cX12_one 181 = .ok (.iload_n 2, 1) := by decide +kernel
theorem dX12_one_182 : decode cX12_one 182 = .ok (.invokevirtual 237, 3) := by decide +kernel
theorem dX12_one_185 : decode cX12_one 185 = .ok (.goto 16, 3) := by decide +kernel
theorem dX12_one_188 : decode cX12_one 188 = .ok (.aload_n 0, 1) := by decide +kernel
theorem dX12_one_189 : decode cX12_one 189 = .ok (.iconst 0, 1) := by decide +kernel
theorem dX12_one_190 : decode cX12_one 190 = .ok (.aload_n 0, 1) := by decide +kernel
theorem dX12_one_191 : decode cX12_one 191 = .ok (.iconst 0, 1) := by decide +kernel
theorem dX12_one_192 : decode cX12_one 192 = .ok (.sipush 999, 3) := by decide +kernel
theorem dX12_one_195 : decode cX12_one 195 = .ok (.invokevirtual 184, 3) := by decide +kernel
theorem dX12_one_198 : decode cX12_one 198 = .ok (.invokevirtual 237, 3) := by decide +kernel
theorem dX12_one_201 : decode cX12_one 201 = .ok (.return_, 1) := by decide +kernel
theorem dX12_law_0 : decode cX12_law 0 = .ok (.aload_n 0, 1) := by decide +kernel
theorem dX12_law_1 : decode cX12_law 1 = .ok (.iconst 0, 1) := by decide +kernel
theorem dX12_law_2 : decode cX12_law 2 = .ok (.putfield 116, 3) := by decide +kernel
theorem dX12_law_5 : decode cX12_law 5 = .ok (.aload_n 0, 1) := by decide +kernel
theorem dX12_law_6 : decode cX12_law 6 = .ok (.iload_n 1, 1) := by decide +kernel
theorem dX12_law_7 : decode cX12_law 7 = .ok (.iconst 0, 1) := by decide +kernel
theorem dX12_law_8 : decode cX12_law 8 = .ok (.aload_n 0, 1) := by decide +kernel
theorem dX12_law_9 : decode cX12_law 9 = .ok (.getfield 119, 3) := by decide +kernel
theorem dX12_law_12 : decode cX12_law 12 = .ok (.invokestatic 150, 3) := by decide +kernel
theorem dX12_law_15 : decode cX12_law 15 = .ok (.ifCond .eq 10, 3) := by decide +kernel
theorem dX12_law_18 : decode cX12_law 18 = .ok (.iload_n 1, 1) := by decide +kernel
theorem dX12_law_19 : decode cX12_law 19 = .ok (.sipush 150, 3) := by decide +kernel
theorem dX12_law_22 : decode cX12_law 22 = .ok (.if_icmp .le 7, 3) := by decide +kernel
theorem dX12_law_25 : decode cX12_law 25 = .ok (.iconst 1, 1) := by decide +kernel
theorem dX12_law_26 : decode cX12_law 26 = .ok (.goto 4, 3) := by decide +kernel
theorem dX12_law_29 : decode cX12_law 29 = .ok (.iconst 0, 1) := by decide +kernel
theorem dX12_law_30 : decode cX12_law 30 = .ok (.iconst 1, 1) := by decide +kernel
theorem dX12_law_31 : decode cX12_law 31 = .ok (.iconst 1, 1) := by decide +kernel
theorem dX12_law_32 : decode cX12_law 32 = .ok (.invokevirtual 192, 3) := by decide +kernel
theorem dX12_law_35 : decode cX12_law 35 = .ok (.ifCond .eq 5, 3) := by decide +kernel
theorem dX12_law_38 : decode cX12_law 38 = .ok (.iconst 0, 1) := by decide +kernel
theorem dX12_law_39 : decode cX12_law 39 = .ok (.ireturn, 1) := by decide +kernel
theorem dX12_law_40 : decode cX12_law 40 = .ok (.aload_n 0, 1) := by decide +kernel
theorem dX12_law_41 : decode cX12_law 41 = .ok (.iload_n 1, 1) := by decide +kernel
theorem dX12_law_42 : decode cX12_law 42 = .ok (.invokevirtual 196, 3) := by decide +kernel
theorem dX12_law_45 : decode cX12_law 45 = .ok (.aload_n 0, 1) := by decide +kernel
theorem dX12_law_46 : decode cX12_law 46 = .ok (.iconst 0, 1) := by decide +kernel
theorem dX12_law_47 : decode cX12_law 47 = .ok (.putfield 228, 3) := by decide +kernel
theorem dX12_law_50 : decode cX12_law 50 = .ok (.aload_n 0, 1) := by decide +kernel
theorem dX12_law_51 : decode cX12_law 51 = .ok (.invokevirtual 253, 3) := by decide +kernel
theorem dX12_law_54 : decode cX12_law 54 = .ok (.aload_n 0, 1) := by decide +kernel
theorem dX12_law_55 : decode cX12_law 55 = .ok (.invokevirtual 138, 3) := by decide +kernel
theorem dX12_law_58 : decode cX12_law 58 = .ok (.aload_n 0, 1) := by decide +kernel
theorem dX12_law_59 : decode cX12_law 59 = .ok (.getfield 132, 3) := by decide +kernel
theorem dX12_law_62 : decode cX12_law 62 = .ok (.ifCond .ne 23, 3) := by decide +kernel
theorem dX12_law_65 : decode cX12_law 65 = .ok (.aload_n 0, 1) := by decide +kernel
theorem dX12_law_66 : decode cX12_law 66 = .ok (.getfield 125, 3) := by decide +kernel
theorem dX12_law_69 : decode cX12_law 69 = .ok (.aload_n 0, 1) := by decide +kernel
theorem dX12_law_70 : decode cX12_law 70 = .ok (.getfield 122, 3) := by decide +kernel
theorem dX12_law_73 : decode cX12_law 73 = .ok (.if_icmp .ge 12, 3) := by decide +kernel
theorem dX12_law_76 : decode cX12_law 76 = .ok (.aload_n 0, 1) := by decide +kernel
theorem dX12_law_77 : decode cX12_law 77 = .ok (.iconst 1, 1) := by decide +kernel
theorem dX12_law_78 : decode cX12_law 78 = .ok (.aload_n 0, 1) := by decide +kernel
theorem dX12_law_79 : decode cX12_law 79 = .ok (.getfield 125, 3) := by decide +kernel
theorem dX12_law_82 : decode cX12_law 82 = .ok (.invokevirtual 145, 3) := by decide +kernel
theorem dX12_law_85 : decode cX12_law 85 = .ok (.aload_n 0, 1) := by decide +kernel
theorem dX12_law_86 : decode cX12_law 86 = .ok (.getfield 132, 3) := by decide +kernel
theorem dX12_law_89 : decode cX12_law 89 = .ok (.ifCond .eq 8, 3) := by decide +kernel
theorem dX12_law_92 : decode cX12_law 92 = .ok (.aload_n 0, 1) := by decide +kernel
theorem dX12_law_93 : decode cX12_law 93 = .ok (.invokevirtual 202, 3) := by decide +kernel
theorem dX12_law_96 : decode cX12_law 96 = .ok (.ireturn, 1) := by decide +kernel
theorem dX12_law_97 : decode cX12_law 97 = .ok (.aload_n 0, 1) := by decide +kernel
theorem dX12_law_98 : decode cX12_law 98 = .ok (.iconst (-1), 1) := by decide +kernel
theorem dX12_law_99 : decode cX12_law 99 = .ok (.putfield 9, 3) := by decide +kernel
theorem dX12_law_102 : decode cX12_law 102 = .ok (.aload_n 0, 1) := by decide +kernel
theorem dX12_law_103 : decode cX12_law 103 = .ok (.aload_n 0, 1) := by decide +kernel
theorem dX12_law_104 : decode cX12_law 104 = .ok (.getfield 228, 3) := by decide +kernel
theorem dX12_law_107 : decode cX12_law 107 = .ok (.putfield 213, 3) := by decide +kernel
theorem dX12_law_110 : decode cX12_law 110 = .ok (.aload_n 0, 1) := by decide +kernel
theorem dX12_law_111 : decode cX12_law 111 = .ok (.getfield 61, 3) := by decide +kernel
theorem dX12_law_114 : decode cX12_law 114 = .ok (.aload_n 0, 1) := by decide +kernel
theorem dX12_law_115 : decode cX12_law 115 = .ok (.getfield 58, 3) := by decide +kernel
theorem dX12_law_118 : decode cX12_law 118 = .ok (.aload_n 0, 1) := by decide +kernel
theorem dX12_law_119 : decode cX12_law 119 = .ok (.getfield 213, 3) := by decide +kernel
theorem dX12_law_122 : decode cX12_law 122 = .ok (.invokestatic 205, 3) := by decide +kernel
theorem dX12_law_125 : decode cX12_law 125 = .ok (.iconst 1, 1) := by decide +kernel
theorem dX12_law_126 : decode cX12_law 126 = .ok (.ireturn, 1) := by decide +kernel
theorem dX12_by_0 : decode cX12_by 0 = .ok (.iload_n 0, 1) := by decide +kernel
theorem dX12_by_1 : decode cX12_by 1 = .ok (.tableswitch 96 2 7 #[39, 43, 47, 51, 73, 90], 39) := by decide +kernel
theorem dX12_by_40 : decode cX12_by 40 = .ok (.iload_n 1, 1) := by decide +kernel
theorem dX12_by_41 : decode cX12_by 41 = .ok (.iload_n 2, 1) := by decide +kernel
theorem dX12_by_42 : decode cX12_by 42 = .ok (.iadd, 1) := by decide +kernel
theorem dX12_by_43 : decode cX12_by 43 = .ok (.ireturn, 1) := by decide +kernel
theorem dX12_by_44 : decode cX12_by 44 = .ok (.iload_n 1, 1) := by decide +kernel
theorem dX12_by_45 : decode cX12_by 45 = .ok (.iload_n 2, 1) := by decide +kernel
theorem dX12_by_46 : decode cX12_by 46 = .ok (.isub, 1) := by decide +kernel
theorem dX12_by_47 : decode cX12_by 47 = .ok (.ireturn, 1) := by decide +kernel
theorem dX12_by_48 : decode cX12_by 48 = .ok (.iload_n 1, 1) := by decide +kernel
theorem dX12_by_49 : decode cX12_by 49 = .ok (.iload_n 2, 1) := by decide +kernel
theorem dX12_by_50 : decode cX12_by 50 = .ok (.imul, 1) := by decide +kernel
theorem dX12_by_51 : decode cX12_by 51 = .ok (.ireturn, 1) := by decide +kernel
theorem dX12_by_52 : decode cX12_by 52 = .ok (.iload_n 2, 1) := by decide +kernel
theorem dX12_by_53 : decode cX12_by 53 = .ok (.ifCond .ne 7, 3) := by decide +kernel
theorem dX12_by_56 : decode cX12_by 56 = .ok (.iconst 0, 1) := by decide +kernel
theorem dX12_by_57 : decode cX12_by 57 = .ok (.goto 16, 3) := by decide +kernel
theorem dX12_by_60 : decode cX12_by 60 = .ok (.iload_n 2, 1) := by decide +kernel
theorem dX12_by_61 : decode cX12_by 61 = .ok (.iconst (-1), 1) := by decide +kernel
theorem dX12_by_62 : decode cX12_by 62 = .ok (.if_icmp .ne 8, 3) := by decide +kernel
theorem dX12_by_65 : decode cX12_by 65 = .ok (.iload_n 1, 1) := by decide +kernel
theorem dX12_by_66 : decode cX12_by 66 = .ok (.ineg, 1) := by decide +kernel
theorem dX12_by_67 : decode cX12_by 67 = .ok (.goto 6, 3) := by decide +kernel
theorem dX12_by_70 : decode cX12_by 70 = .ok (.iload_n 1, 1) := by decide +kernel
theorem dX12_by_71 : decode cX12_by 71 = .ok (.iload_n 2, 1) := by decide +kernel
theorem dX12_by_72 : decode cX12_by 72 = .ok (.idiv, 1) := by decide +kernel
theorem dX12_by_73 : decode cX12_by 73 = .ok (.ireturn, 1) := by decide +kernel
theorem dX12_by_74 : decode cX12_by 74 = .ok (.iload_n 2, 1) := by decide +kernel
theorem dX12_by_75 : decode cX12_by 75 = .ok (.ifCond .eq 8, 3) := by decide +kernel
theorem dX12_by_78 : decode cX12_by 78 = .ok (.iload_n 2, 1) := by decide +kernel
theorem dX12_by_79 : decode cX12_by 79 = .ok (.iconst (-1), 1) := by decide +kernel
theorem dX12_by_80 : decode cX12_by 80 = .ok (.if_icmp .ne 7, 3) := by decide +kernel
theorem dX12_by_83 : decode cX12_by 83 = .ok (.iconst 0, 1) := by decide +kernel
theorem dX12_by_84 : decode cX12_by 84 = .ok (.goto 6, 3) := by decide +kernel
theorem dX12_by_87 : decode cX12_by 87 = .ok (.iload_n 1, 1) := by decide +kernel
theorem dX12_by_88 : decode cX12_by 88 = .ok (.iload_n 2, 1) := by decide +kernel
theorem dX12_by_89 : decode cX12_by 89 = .ok (.irem, 1) := by decide +kernel
theorem dX12_by_90 : decode cX12_by 90 = .ok (.ireturn, 1) := by decide +kernel
theorem dX12_by_91 : decode cX12_by 91 = .ok (.iload_n 1, 1) := by decide +kernel
theorem dX12_by_92 : decode cX12_by 92 = .ok (.iload_n 2, 1) := by decide +kernel
theorem dX12_by_93 : decode cX12_by 93 = .ok (.invokestatic 259, 3) := by decide +kernel
theorem dX12_by_96 : decode cX12_by 96 = .ok (.ireturn, 1) := by decide +kernel
theorem dX12_by_97 : decode cX12_by 97 = .ok (.iload_n 1, 1) := by decide +kernel
theorem dX12_by_98 : decode cX12_by 98 = .ok (.iload_n 2, 1) := by decide +kernel
theorem dX12_by_99 : decode cX12_by 99 = .ok (.invokestatic 262, 3) := by decide +kernel
theorem dX12_by_102 : decode cX12_by 102 = .ok (.ireturn, 1) := by decide +kernel
theorem dX12_byLaw_0 : decode cX12_byLaw 0 = .ok (.iconst 0, 1) := by decide +kernel
theorem dX12_byLaw_1 : decode cX12_byLaw 1 = .ok (.istore_n 1, 1) := by decide +kernel
theorem dX12_byLaw_2 : decode cX12_byLaw 2 = .ok (.aload_n 0, 1) := by decide +kernel
theorem dX12_byLaw_3 : decode cX12_byLaw 3 = .ok (.getfield 70, 3) := by decide +kernel
theorem dX12_byLaw_6 : decode cX12_byLaw 6 = .ok (.iconst 0, 1) := by decide +kernel
theorem dX12_byLaw_7 : decode cX12_byLaw 7 = .ok (.bipush 10, 2) := by decide +kernel
theorem dX12_byLaw_9 : decode cX12_byLaw 9 = .ok (.aload_n 0, 1) := by decide +kernel
theorem dX12_byLaw_10 : decode cX12_byLaw 10 = .ok (.getfield 73, 3) := by decide +kernel
theorem dX12_byLaw_13 : decode cX12_byLaw 13 = .ok (.iconst 0, 1) := by decide +kernel
theorem dX12_byLaw_14 : decode cX12_byLaw 14 = .ok (.iaload, 1) := by decide +kernel
theorem dX12_byLaw_15 : decode cX12_byLaw 15 = .ok (.imul, 1) := by decide +kernel
theorem dX12_byLaw_16 : decode cX12_byLaw 16 = .ok (.aload_n 0, 1) := by decide +kernel
theorem dX12_byLaw_17 : decode cX12_byLaw 17 = .ok (.getfield 73, 3) := by decide +kernel
theorem dX12_byLaw_20 : decode cX12_byLaw 20 = .ok (.iconst 1, 1) := by decide +kernel
theorem dX12_byLaw_21 : decode cX12_byLaw 21 = .ok (.iaload, 1) := by decide +kernel
theorem dX12_byLaw_22 : decode cX12_byLaw 22 = .ok (.iadd, 1) := by decide +kernel
theorem dX12_byLaw_23 : decode cX12_byLaw 23 = .ok (.iastore, 1) := by decide +kernel
theorem dX12_byLaw_24 : decode cX12_byLaw 24 = .ok (.iconst 0, 1) := by decide +kernel
theorem dX12_byLaw_25 : decode cX12_byLaw 25 = .ok (.istore_n 2, 1) := by decide +kernel
theorem dX12_byLaw_26 : decode cX12_byLaw 26 = .ok (.iload_n 2, 1) := by decide +kernel
theorem dX12_byLaw_27 : decode cX12_byLaw 27 = .ok (.aload_n 0, 1) := by decide +kernel
theorem dX12_byLaw_28 : decode cX12_byLaw 28 = .ok (.getfield 213, 3) := by decide +kernel
theorem dX12_byLaw_31 : decode cX12_byLaw 31 = .ok (.if_icmp .ge 104, 3) := by decide +kernel
theorem dX12_byLaw_34 : decode cX12_byLaw 34 = .ok (.aload_n 0, 1) := by decide +kernel
theorem dX12_byLaw_35 : decode cX12_byLaw 35 = .ok (.getfield 58, 3) := by decide +kernel
theorem dX12_byLaw_38 : decode cX12_byLaw 38 = .ok (.iload_n 2, 1) := by decide +kernel
theorem dX12_byLaw_39 : decode cX12_byLaw 39 = .ok (.aaload, 1) := by decide +kernel
theorem dX12_byLaw_40 : decode cX12_byLaw 40 = .ok (.iconst 0, 1) := by decide +kernel
theorem dX12_byLaw_41 : decode cX12_byLaw 41 = .ok (.iaload, 1) := by decide +kernel
theorem dX12_byLaw_42 : decode cX12_byLaw 42 = .ok (.iconst 2, 1) := by decide +kernel
theorem dX12_byLaw_43 : decode cX12_byLaw 43 = .ok (.if_icmp .ge 50, 3) := by decide +kernel
theorem dX12_byLaw_46 : decode cX12_byLaw 46 = .ok (.aload_n 0, 1) := by decide +kernel
theorem dX12_byLaw_47 : decode cX12_byLaw 47 = .ok (.getfield 70, 3) := by decide +kernel
theorem dX12_byLaw_50 : decode cX12_byLaw 50 = .ok (.iload_n 1, 1) := by decide +kernel
theorem dX12_byLaw_51 : decode cX12_byLaw 51 = .ok (.aload_n 0, 1) := by decide +kernel
theorem dX12_byLaw_52 : decode cX12_byLaw 52 = .ok (.getfield 58, 3) := by decide +kernel
theorem dX12_byLaw_55 : decode cX12_byLaw 55 = .ok (.iload_n 2, 1) := by decide +kernel
theorem dX12_byLaw_56 : decode cX12_byLaw 56 = .ok (.aaload, 1) := by decide +kernel
theorem dX12_byLaw_57 : decode cX12_byLaw 57 = .ok (.iconst 0, 1) := by decide +kernel
theorem dX12_byLaw_58 : decode cX12_byLaw 58 = .ok (.iaload, 1) := by decide +kernel
theorem dX12_byLaw_59 : decode cX12_byLaw 59 = .ok (.ifCond .ne 14, 3) := by decide +kernel
theorem dX12_byLaw_62 : decode cX12_byLaw 62 = .ok (.aload_n 0, 1) := by decide +kernel
theorem dX12_byLaw_63 : decode cX12_byLaw 63 = .ok (.getfield 58, 3) := by decide +kernel
theorem dX12_byLaw_66 : decode cX12_byLaw 66 = .ok (.iload_n 2, 1) := by decide +kernel
theorem dX12_byLaw_67 : decode cX12_byLaw 67 = .ok (.aaload, 1) := by decide +kernel
theorem dX12_byLaw_68 : decode cX12_byLaw 68 = .ok (.iconst 1, 1) := by decide +kernel
theorem dX12_byLaw_69 : decode cX12_byLaw 69 = .ok (.iaload, 1) := by decide +kernel
theorem dX12_byLaw_70 : decode cX12_byLaw 70 = .ok (.goto 16, 3) := by decide +kernel
theorem dX12_byLaw_73 : decode cX12_byLaw 73 = .ok (.aload_n 0, 1) := by decide +kernel
theorem dX12_byLaw_74 : decode cX12_byLaw 74 = .ok (.getfield 73, 3) := by decide +kernel
theorem dX12_byLaw_77 : decode cX12_byLaw 77 = .ok (.aload_n 0, 1) := by decide +kernel
theorem dX12_byLaw_78 : decode cX12_byLaw 78 = .ok (.getfield 58, 3) := by decide +kernel
theorem dX12_byLaw_81 : decode cX12_byLaw 81 = .ok (.iload_n 2, 1) := by decide +kernel
theorem dX12_byLaw_82 : decode cX12_byLaw 82 = .ok (.aaload, 1) := by decide +kernel
theorem dX12_byLaw_83 : decode cX12_byLaw 83 = .ok (.iconst 1, 1) := by decide +kernel
theorem dX12_byLaw_84 : decode cX12_byLaw 84 = .ok (.iaload, 1) := by decide +kernel
theorem dX12_byLaw_85 : decode cX12_byLaw 85 = .ok (.iaload, 1) := by decide +kernel
theorem dX12_byLaw_86 : decode cX12_byLaw 86 = .ok (.iastore, 1) := by decide +kernel
theorem dX12_byLaw_87 : decode cX12_byLaw 87 = .ok (.iinc 1 1, 3) := by decide +kernel
theorem dX12_byLaw_90 : decode cX12_byLaw 90 = .ok (.goto 39, 3) := by decide +kernel
theorem dX12_byLaw_93 : decode cX12_byLaw 93 = .ok (.iinc 1 (-1), 3) := by decide +kernel
theorem dX12_byLaw_96 : decode cX12_byLaw 96 = .ok (.aload_n 0, 1) := by decide +kernel
theorem dX12_byLaw_97 : decode cX12_byLaw 97 = .ok (.getfield 70, 3) := by decide +kernel
theorem dX12_byLaw_100 : decode cX12_byLaw 100 = .ok (.iload_n 1, 1) := by decide +kernel
theorem dX12_byLaw_101 : decode cX12_byLaw 101 = .ok (.iconst 1, 1) := by decide +kernel
theorem dX12_byLaw_102 : decode cX12_byLaw 102 = .ok (.isub, 1) := by decide +kernel
theorem dX12_byLaw_103 : decode cX12_byLaw 103 = .ok (.aload_n 0, 1) := by decide +kernel
theorem dX12_byLaw_104 : decode cX12_byLaw 104 = .ok (.getfield 58, 3) := by decide +kernel
theorem dX12_byLaw_107 : decode cX12_byLaw 107 = .ok (.iload_n 2, 1) := by decide +kernel
theorem dX12_byLaw_108 : decode cX12_byLaw 108 = .ok (.aaload, 1) := by decide +kernel
theorem dX12_byLaw_109 : decode cX12_byLaw 109 = .ok (.iconst 0, 1) := by decide +kernel
theorem dX12_byLaw_110 : decode cX12_byLaw 110 = .ok (.iaload, 1) := by decide +kernel
theorem dX12_byLaw_111 : decode cX12_byLaw 111 = .ok (.aload_n 0, 1) := by decide +kernel
theorem dX12_byLaw_112 : decode cX12_byLaw 112 = .ok (.getfield 70, 3) := by decide +kernel
theorem dX12_byLaw_115 : decode cX12_byLaw 115 = .ok (.iload_n 1, 1) := by decide +kernel
theorem dX12_byLaw_116 : decode cX12_byLaw 116 = .ok (.iconst 1, 1) := by decide +kernel
theorem dX12_byLaw_117 : decode cX12_byLaw 117 = .ok (.isub, 1) := by decide +kernel
theorem dX12_byLaw_118 : decode cX12_byLaw 118 = .ok (.iaload, 1) := by decide +kernel
theorem dX12_byLaw_119 : decode cX12_byLaw 119 = .ok (.aload_n 0, 1) := by decide +kernel
theorem dX12_byLaw_120 : decode cX12_byLaw 120 = .ok (.getfield 70, 3) := by decide +kernel
theorem dX12_byLaw_123 : decode cX12_byLaw 123 = .ok (.iload_n 1, 1) := by decide +kernel
theorem dX12_byLaw_124 : decode cX12_byLaw 124 = .ok (.iaload, 1) := by decide +kernel
theorem dX12_byLaw_125 : decode cX12_byLaw 125 = .ok (.invokestatic 265, 3) := by decide +kernel
theorem dX12_byLaw_128 : decode cX12_byLaw 128 = .ok (.iastore, 1) := by decide +kernel
theorem dX12_byLaw_129 : decode cX12_byLaw 129 = .ok (.iinc 2 1, 3) := by decide +kernel
theorem dX12_byLaw_132 : decode cX12_byLaw 132 = .ok (.goto (-106), 3) := by decide +kernel
theorem dX12_byLaw_135 : decode cX12_byLaw 135 = .ok (.aload_n 0, 1) := by decide +kernel
theorem dX12_byLaw_136 : decode cX12_byLaw 136 = .ok (.getfield 70, 3) := by decide +kernel
theorem dX12_byLaw_139 : decode cX12_byLaw 139 = .ok (.iconst 0, 1) := by decide +kernel
theorem dX12_byLaw_140 : decode cX12_byLaw 140 = .ok (.iaload, 1) := by decide +kernel
theorem dX12_byLaw_141 : decode cX12_byLaw 141 = .ok (.ireturn, 1) := by decide +kernel
theorem dX12_stepHere_0 : decode cX12_stepHere 0 = .ok (.aload_n 0, 1) := by decide +kernel
theorem dX12_stepHere_1 : decode cX12_stepHere 1 = .ok (.bipush 23, 2) := by decide +kernel
theorem dX12_stepHere_3 : decode cX12_stepHere 3 = .ok (.bipush 18, 2) := by decide +kernel
theorem dX12_stepHere_5 : decode cX12_stepHere 5 = .ok (.bipush 9, 2) := by decide +kernel
theorem dX12_stepHere_7 : decode cX12_stepHere 7 = .ok (.bipush 20, 2) := by decide +kernel
theorem dX12_stepHere_9 : decode cX12_stepHere 9 = .ok (.iconst 5, 1) := by decide +kernel
theorem dX12_stepHere_10 : decode cX12_stepHere 10 = .ok (.iconst 0, 1) := by decide +kernel
theorem dX12_stepHere_11 : decode cX12_stepHere 11 = .ok (.invokevirtual 165, 3) := by decide +kernel
theorem dX12_stepHere_14 : decode cX12_stepHere 14 = .ok (.ifCond .eq 5, 3) := by decide +kernel
theorem dX12_stepHere_17 : decode cX12_stepHere 17 = .ok (.iconst 0, 1) := by decide +kernel
theorem dX12_stepHere_18 : decode cX12_stepHere 18 = .ok (.ireturn, 1) := by decide +kernel
theorem dX12_stepHere_19 : decode cX12_stepHere 19 = .ok (.aload_n 0, 1) := by decide +kernel
theorem dX12_stepHere_20 : decode cX12_stepHere 20 = .ok (.bipush 19, 2) := by decide +kernel
theorem dX12_stepHere_22 : decode cX12_stepHere 22 = .ok (.bipush 12, 2) := by decide +kernel
theorem dX12_stepHere_24 : decode cX12_stepHere 24 = .ok (.bipush 9, 2) := by decide +kernel
theorem dX12_stepHere_26 : decode cX12_stepHere 26 = .ok (.bipush 16, 2) := by decide +kernel
theorem dX12_stepHere_28 : decode cX12_stepHere 28 = .ok (.iconst 0, 1) := by decide +kernel
theorem dX12_stepHere_29 : decode cX12_stepHere 29 = .ok (.iconst 0, 1) := by decide +kernel
theorem dX12_stepHere_30 : decode cX12_stepHere 30 = .ok (.invokevirtual 165, 3) := by decide +kernel
theorem dX12_stepHere_33 : decode cX12_stepHere 33 = .ok (.ifCond .eq 5, 3) := by decide +kernel
theorem dX12_stepHere_36 : decode cX12_stepHere 36 = .ok (.iconst 1, 1) := by decide +kernel
theorem dX12_stepHere_37 : decode cX12_stepHere 37 = .ok (.ireturn, 1) := by decide +kernel
theorem dX12_stepHere_38 : decode cX12_stepHere 38 = .ok (.aload_n 0, 1) := by decide +kernel
theorem dX12_stepHere_39 : decode cX12_stepHere 39 = .ok (.bipush 18, 2) := by decide +kernel
theorem dX12_stepHere_41 : decode cX12_stepHere 41 = .ok (.iconst 1, 1) := by decide +kernel
theorem dX12_stepHere_42 : decode cX12_stepHere 42 = .ok (.bipush 9, 2) := by decide +kernel
theorem dX12_stepHere_44 : decode cX12_stepHere 44 = .ok (.bipush 14, 2) := by decide +kernel
theorem dX12_stepHere_46 : decode cX12_stepHere 46 = .ok (.iconst 0, 1) := by decide +kernel
theorem dX12_stepHere_47 : decode cX12_stepHere 47 = .ok (.iconst 0, 1) := by decide +kernel
theorem dX12_stepHere_48 : decode cX12_stepHere 48 = .ok (.invokevirtual 165, 3) := by decide +kernel
theorem dX12_stepHere_51 : decode cX12_stepHere 51 = .ok (.ifCond .eq 5, 3) := by decide +kernel
theorem dX12_stepHere_54 : decode cX12_stepHere 54 = .ok (.iconst 2, 1) := by decide +kernel
theorem dX12_stepHere_55 : decode cX12_stepHere 55 = .ok (.ireturn, 1) := by decide +kernel
theorem dX12_stepHere_56 : decode cX12_stepHere 56 = .ok (.aload_n 0, 1) := by decide +kernel
theorem dX12_stepHere_57 : decode cX12_stepHere 57 = .ok (.bipush 14, 2) := by decide +kernel
theorem dX12_stepHere_59 : decode cX12_stepHere 59 = .ok (.bipush 9, 2) := by decide +kernel
theorem dX12_stepHere_61 : decode cX12_stepHere 61 = .ok (.bipush 7, 2) := by decide +kernel
theorem dX12_stepHere_63 : decode cX12_stepHere 63 = .ok (.bipush 8, 2) := by decide +kernel
theorem dX12_stepHere_65 : decode cX12_stepHere 65 = .ok (.bipush 20, 2) := by decide +kernel
theorem dX12_stepHere_67 : decode cX12_stepHere 67 = .ok (.iconst 0, 1) := by decide +kernel
theorem dX12_stepHere_68 : decode cX12_stepHere 68 = .ok (.invokevirtual 165, 3) := by decide +kernel
theorem dX12_stepHere_71 : decode cX12_stepHere 71 = .ok (.ifCond .eq 5, 3) := by decide +kernel
theorem dX12_stepHere_74 : decode cX12_stepHere 74 = .ok (.iconst 3, 1) := by decide +kernel
theorem dX12_stepHere_75 : decode cX12_stepHere 75 = .ok (.ireturn, 1) := by decide +kernel
theorem dX12_stepHere_76 : decode cX12_stepHere 76 = .ok (.aload_n 0, 1) := by decide +kernel
theorem dX12_stepHere_77 : decode cX12_stepHere 77 = .ok (.iconst 1, 1) := by decide +kernel
theorem dX12_stepHere_78 : decode cX12_stepHere 78 = .ok (.bipush 7, 2) := by decide +kernel
theorem dX12_stepHere_80 : decode cX12_stepHere 80 = .ok (.iconst 1, 1) := by decide +kernel
theorem dX12_stepHere_81 : decode cX12_stepHere 81 = .ok (.bipush 9, 2) := by decide +kernel
theorem dX12_stepHere_83 : decode cX12_stepHere 83 = .ok (.bipush 14, 2) := by decide +kernel
theorem dX12_stepHere_85 : decode cX12_stepHere 85 = .ok (.iconst 0, 1) := by decide +kernel
theorem dX12_stepHere_86 : decode cX12_stepHere 86 = .ok (.invokevirtual 165, 3) := by decide +kernel
theorem dX12_stepHere_89 : decode cX12_stepHere 89 = .ok (.ifCond .eq 7, 3) := by decide +kernel
theorem dX12_stepHere_92 : decode cX12_stepHere 92 = .ok (.iconst 4, 1) := by decide +kernel
theorem dX12_stepHere_93 : decode cX12_stepHere 93 = .ok (.goto 4, 3) := by decide +kernel
theorem dX12_stepHere_96 : decode cX12_stepHere 96 = .ok (.iconst (-1), 1) := by decide +kernel
theorem dX12_stepHere_97 : decode cX12_stepHere 97 = .ok (.ireturn, 1) := by decide +kernel
theorem dX12_readsStep_0 : decode cX12_readsStep 0 = .ok (.aload_n 0, 1) := by decide +kernel
theorem dX12_readsStep_1 : decode cX12_readsStep 1 = .ok (.invokevirtual 269, 3) := by decide +kernel
theorem dX12_readsStep_4 : decode cX12_readsStep 4 = .ok (.istore_n 1, 1) := by decide +kernel
theorem dX12_readsStep_5 : decode cX12_readsStep 5 = .ok (.iload_n 1, 1) := by decide +kernel
theorem dX12_readsStep_6 : decode cX12_readsStep 6 = .ok (.iconst (-1), 1) := by decide +kernel
theorem dX12_readsStep_7 : decode cX12_readsStep 7 = .ok (.if_icmp .ne 12, 3) := by decide +kernel
theorem dX12_readsStep_10 : decode cX12_readsStep 10 = .ok (.aload_n 0, 1) := by decide +kernel
theorem dX12_readsStep_11 : decode cX12_readsStep 11 = .ok (.iconst 1, 1) := by decide +kernel
theorem dX12_readsStep_12 : decode cX12_readsStep 12 = .ok (.aload_n 0, 1) := by decide +kernel
theorem dX12_readsStep_13 : decode cX12_readsStep 13 = .ok (.getfield 125, 3) := by decide +kernel
theorem dX12_readsStep_16 : decode cX12_readsStep 16 = .ok (.invokevirtual 145, 3) := by decide +kernel
theorem dX12_readsStep_19 : decode cX12_readsStep 19 = .ok (.iload_n 1, 1) := by decide +kernel
theorem dX12_readsStep_20 : decode cX12_readsStep 20 = .ok (.iconst 4, 1) := by decide +kernel
theorem dX12_readsStep_21 : decode cX12_readsStep 21 = .ok (.if_icmp .ne 11, 3) := by decide +kernel
theorem dX12_readsStep_24 : decode cX12_readsStep 24 = .ok (.aload_n 0, 1) := by decide +kernel
theorem dX12_readsStep_25 : decode cX12_readsStep 25 = .ok (.invokevirtual 250, 3) := by decide +kernel
theorem dX12_readsStep_28 : decode cX12_readsStep 28 = .ok (.ifCond .ne 4, 3) := by decide +kernel
theorem dX12_readsStep_31 : decode cX12_readsStep 31 = .ok (.return_, 1) := by decide +kernel
theorem dX12_readsStep_32 : decode cX12_readsStep 32 = .ok (.aload_n 0, 1) := by decide +kernel
theorem dX12_readsStep_33 : decode cX12_readsStep 33 = .ok (.getfield 132, 3) := by decide +kernel
theorem dX12_readsStep_36 : decode cX12_readsStep 36 = .ok (.ifCond .eq 4, 3) := by decide +kernel
theorem dX12_readsStep_39 : decode cX12_readsStep 39 = .ok (.return_, 1) := by decide +kernel
theorem dX12_readsStep_40 : decode cX12_readsStep 40 = .ok (.aload_n 0, 1) := by decide +kernel
theorem dX12_readsStep_41 : decode cX12_readsStep 41 = .ok (.invokevirtual 169, 3) := by decide +kernel
theorem dX12_readsStep_44 : decode cX12_readsStep 44 = .ok (.aload_n 0, 1) := by decide +kernel
theorem dX12_readsStep_45 : decode cX12_readsStep 45 = .ok (.getfield 76, 3) := by decide +kernel
theorem dX12_readsStep_48 : decode cX12_readsStep 48 = .ok (.aload_n 0, 1) := by decide +kernel
theorem dX12_readsStep_49 : decode cX12_readsStep 49 = .ok (.getfield 272, 3) := by decide +kernel
theorem dX12_readsStep_52 : decode cX12_readsStep 52 = .ok (.aaload, 1) := by decide +kernel
theorem dX12_readsStep_53 : decode cX12_readsStep 53 = .ok (.astore_n 2, 1) := by decide +kernel
theorem dX12_readsStep_54 : decode cX12_readsStep 54 = .ok (.aload_n 0, 1) := by decide +kernel
theorem dX12_readsStep_55 : decode cX12_readsStep 55 = .ok (.dup, 1) := by decide +kernel
theorem dX12_readsStep_56 : decode cX12_readsStep 56 = .ok (.getfield 272, 3) := by decide +kernel
theorem dX12_readsStep_59 : decode cX12_readsStep 59 = .ok (.iconst 1, 1) := by decide +kernel
theorem dX12_readsStep_60 : decode cX12_readsStep 60 = .ok (.iadd, 1) := by decide +kernel
theorem dX12_readsStep_61 : decode cX12_readsStep 61 = .ok (.putfield 272, 3) := by decide +kernel
theorem dX12_readsStep_64 : decode cX12_readsStep 64 = .ok (.aload_n 2, 1) := by decide +kernel
theorem dX12_readsStep_65 : decode cX12_readsStep 65 = .ok (.iconst 0, 1) := by decide +kernel
theorem dX12_readsStep_66 : decode cX12_readsStep 66 = .ok (.iload_n 1, 1) := by decide +kernel
theorem dX12_readsStep_67 : decode cX12_readsStep 67 = .ok (.iastore, 1) := by decide +kernel
theorem dX12_readsStep_68 : decode cX12_readsStep 68 = .ok (.iload_n 1, 1) := by decide +kernel
theorem dX12_readsStep_69 : decode cX12_readsStep 69 = .ok (.ifCond .ne 19, 3) := by decide +kernel
theorem dX12_readsStep_72 : decode cX12_readsStep 72 = .ok (.aload_n 2, 1) := by decide +kernel
theorem dX12_readsStep_73 : decode cX12_readsStep 73 = .ok (.iconst 1, 1) := by decide +kernel
theorem dX12_readsStep_74 : decode cX12_readsStep 74 = .ok (.aload_n 0, 1) := by decide +kernel
theorem dX12_readsStep_75 : decode cX12_readsStep 75 = .ok (.iconst 0, 1) := by decide +kernel
theorem dX12_readsStep_76 : decode cX12_readsStep 76 = .ok (.aload_n 0, 1) := by decide +kernel
theorem dX12_readsStep_77 : decode cX12_readsStep 77 = .ok (.getfield 23, 3) := by decide +kernel
theorem dX12_readsStep_80 : decode cX12_readsStep 80 = .ok (.iconst 2, 1) := by decide +kernel
theorem dX12_readsStep_81 : decode cX12_readsStep 81 = .ok (.iaload, 1) := by decide +kernel
theorem dX12_readsStep_82 : decode cX12_readsStep 82 = .ok (.iconst 1, 1) := by decide +kernel
theorem dX12_readsStep_83 : decode cX12_readsStep 83 = .ok (.isub, 1) := by decide +kernel
theorem dX12_readsStep_84 : decode cX12_readsStep 84 = .ok (.invokevirtual 184, 3) := by decide +kernel
theorem dX12_readsStep_87 : decode cX12_readsStep 87 = .ok (.iastore, 1) := by decide +kernel
theorem dX12_readsStep_88 : decode cX12_readsStep 88 = .ok (.iload_n 1, 1) := by decide +kernel
theorem dX12_readsStep_89 : decode cX12_readsStep 89 = .ok (.iconst 2, 1) := by decide +kernel
theorem dX12_readsStep_90 : decode cX12_readsStep 90 = .ok (.if_icmp .ge 19, 3) := by decide +kernel
theorem dX12_readsStep_93 : decode cX12_readsStep 93 = .ok (.aload_n 2, 1) := by decide +kernel
theorem dX12_readsStep_94 : decode cX12_readsStep 94 = .ok (.iconst 2, 1) := by decide +kernel
theorem dX12_readsStep_95 : decode cX12_readsStep 95 = .ok (.aload_n 0, 1) := by decide +kernel
theorem dX12_readsStep_96 : decode cX12_readsStep 96 = .ok (.iconst 0, 1) := by decide +kernel
theorem dX12_readsStep_97 : decode cX12_readsStep 97 = .ok (.aload_n 0, 1) := by decide +kernel
theorem dX12_readsStep_98 : decode cX12_readsStep 98 = .ok (.getfield 23, 3) := by decide +kernel
theorem dX12_readsStep_101 : decode cX12_readsStep 101 = .ok (.iconst 1, 1) := by decide +kernel
theorem dX12_readsStep_102 : decode cX12_readsStep 102 = .ok (.iaload, 1) := by decide +kernel
theorem dX12_readsStep_103 : decode cX12_readsStep 103 = .ok (.iconst 1, 1) := by decide +kernel
theorem dX12_readsStep_104 : decode cX12_readsStep 104 = .ok (.isub, 1) := by decide +kernel
theorem dX12_readsStep_105 : decode cX12_readsStep 105 = .ok (.invokevirtual 184, 3) := by decide +kernel
theorem dX12_readsStep_108 : decode cX12_readsStep 108 = .ok (.iastore, 1) := by decide +kernel
theorem dX12_readsStep_109 : decode cX12_readsStep 109 = .ok (.iload_n 1, 1) := by decide +kernel
theorem dX12_readsStep_110 : decode cX12_readsStep 110 = .ok (.ifCond .ne 19, 3) := by decide +kernel
theorem dX12_readsStep_113 : decode cX12_readsStep 113 = .ok (.aload_n 2, 1) := by decide +kernel
theorem dX12_readsStep_114 : decode cX12_readsStep 114 = .ok (.iconst 3, 1) := by decide +kernel
theorem dX12_readsStep_115 : decode cX12_readsStep 115 = .ok (.aload_n 0, 1) := by decide +kernel
theorem dX12_readsStep_116 : decode cX12_readsStep 116 = .ok (.iconst 0, 1) := by decide +kernel
theorem dX12_readsStep_117 : decode cX12_readsStep 117 = .ok (.aload_n 0, 1) := by decide +kernel
theorem dX12_readsStep_118 : decode cX12_readsStep 118 = .ok (.getfield 23, 3) := by decide +kernel
theorem dX12_readsStep_121 : decode cX12_readsStep 121 = .ok (.iconst 0, 1) := by decide +kernel
theorem dX12_readsStep_122 : decode cX12_readsStep 122 = .ok (.iaload, 1) := by decide +kernel
theorem dX12_readsStep_123 : decode cX12_readsStep 123 = .ok (.iconst 1, 1) := by decide +kernel
theorem dX12_readsStep_124 : decode cX12_readsStep 124 = .ok (.isub, 1) := by decide +kernel
theorem dX12_readsStep_125 : decode cX12_readsStep 125 = .ok (.invokevirtual 184, 3) := by decide +kernel
theorem dX12_readsStep_128 : decode cX12_readsStep 128 = .ok (.iastore, 1) := by decide +kernel
theorem dX12_readsStep_129 : decode cX12_readsStep 129 = .ok (.iload_n 1, 1) := by decide +kernel
theorem dX12_readsStep_130 : decode cX12_readsStep 130 = .ok (.iconst 2, 1) := by decide +kernel
theorem dX12_readsStep_131 : decode cX12_readsStep 131 = .ok (.if_icmp .ne 12, 3) := by decide +kernel
theorem dX12_readsStep_134 : decode cX12_readsStep 134 = .ok (.aload_n 2, 1) := by decide +kernel
theorem dX12_readsStep_135 : decode cX12_readsStep 135 = .ok (.iconst 1, 1) := by decide +kernel
theorem dX12_readsStep_136 : decode cX12_readsStep 136 = .ok (.aload_n 0, 1) := by decide +kernel
theorem dX12_readsStep_137 : decode cX12_readsStep 137 = .ok (.iconst 1, 1) := by decide +kernel
theorem dX12_readsStep_138 : decode cX12_readsStep 138 = .ok (.iconst 4, 1) := by decide +kernel
theorem dX12_readsStep_139 : decode cX12_readsStep 139 = .ok (.invokevirtual 184, 3) := by decide +kernel
theorem dX12_readsStep_142 : decode cX12_readsStep 142 = .ok (.iastore, 1) := by decide +kernel
theorem dX12_readsStep_143 : decode cX12_readsStep 143 = .ok (.iload_n 1, 1) := by decide +kernel
theorem dX12_readsStep_144 : decode cX12_readsStep 144 = .ok (.iconst 4, 1) := by decide +kernel
theorem dX12_readsStep_145 : decode cX12_readsStep 145 = .ok (.if_icmp .ne 70, 3) := by decide +kernel
theorem dX12_readsStep_148 : decode cX12_readsStep 148 = .ok (.aload_n 2, 1) := by decide +kernel
theorem dX12_readsStep_149 : decode cX12_readsStep 149 = .ok (.iconst 1, 1) := by decide +kernel
theorem dX12_readsStep_150 : decode cX12_readsStep 150 = .ok (.aload_n 0, 1) := by decide +kernel
theorem dX12_readsStep_151 : decode cX12_readsStep 151 = .ok (.iconst 0, 1) := by decide +kernel
theorem dX12_readsStep_152 : decode cX12_readsStep 152 = .ok (.bipush 30, 2) := by decide +kernel
theorem dX12_readsStep_154 : decode cX12_readsStep 154 = .ok (.invokevirtual 184, 3) := by decide +kernel
theorem dX12_readsStep_157 : decode cX12_readsStep 157 = .ok (.iastore, 1) := by decide +kernel
theorem dX12_readsStep_158 : decode cX12_readsStep 158 = .ok (.aload_n 0, 1) := by decide +kernel
theorem dX12_readsStep_159 : decode cX12_readsStep 159 = .ok (.bipush 91, 2) := by decide +kernel
theorem dX12_readsStep_161 : decode cX12_readsStep 161 = .ok (.invokevirtual 188, 3) := by decide +kernel
theorem dX12_readsStep_164 : decode cX12_readsStep 164 = .ok (.aload_n 0, 1) := by decide +kernel
theorem dX12_readsStep_165 : decode cX12_readsStep 165 = .ok (.invokevirtual 138, 3) := by decide +kernel
theorem dX12_readsStep_168 : decode cX12_readsStep 168 = .ok (.aload_n 0, 1) := by decide +kernel
theorem dX12_readsStep_169 : decode cX12_readsStep 169 = .ok (.getfield 132, 3) := by decide +kernel
theorem dX12_readsStep_172 : decode cX12_readsStep 172 = .ok (.ifCond .ne 27, 3) := by decide +kernel
theorem dX12_readsStep_175 : decode cX12_readsStep 175 = .ok (.aload_n 0, 1) := by decide +kernel
theorem dX12_readsStep_176 : decode cX12_readsStep 176 = .ok (.aload_n 0, 1) := by decide +kernel
theorem dX12_readsStep_177 : decode cX12_readsStep 177 = .ok (.getfield 125, 3) := by decide +kernel
theorem dX12_readsStep_180 : decode cX12_readsStep 180 = .ok (.invokevirtual 128, 3) := by decide +kernel
theorem dX12_readsStep_183 : decode cX12_readsStep 183 = .ok (.bipush 93, 2) := by decide +kernel
theorem dX12_readsStep_185 : decode cX12_readsStep 185 = .ok (.if_icmp .eq 14, 3) := by decide +kernel
theorem dX12_readsStep_188 : decode cX12_readsStep 188 = .ok (.aload_n 0, 1) := by decide +kernel
theorem dX12_readsStep_189 : decode cX12_readsStep 189 = .ok (.invokevirtual 275, 3) := by decide +kernel
theorem dX12_readsStep_192 : decode cX12_readsStep 192 = .ok (.aload_n 0, 1) := by decide +kernel
theorem dX12_readsStep_193 : decode cX12_readsStep 193 = .ok (.invokevirtual 138, 3) := by decide +kernel
theorem dX12_readsStep_196 : decode cX12_readsStep 196 = .ok (.goto (-28), 3) := by decide +kernel
theorem dX12_readsStep_199 : decode cX12_readsStep 199 = .ok (.aload_n 0, 1) := by decide +kernel
theorem dX12_readsStep_200 : decode cX12_readsStep 200 = .ok (.bipush 93, 2) := by decide +kernel
theorem dX12_readsStep_202 : decode cX12_readsStep 202 = .ok (.invokevirtual 188, 3) := by decide +kernel
theorem dX12_readsStep_205 : decode cX12_readsStep 205 = .ok (.aload_n 0, 1) := by decide +kernel
theorem dX12_readsStep_206 : decode cX12_readsStep 206 = .ok (.dup, 1) := by decide +kernel
theorem dX12_readsStep_207 : decode cX12_readsStep 207 = .ok (.getfield 175, 3) := by decide +kernel
theorem dX12_readsStep_210 : decode cX12_readsStep 210 = .ok (.iconst 1, 1) := by decide +kernel
theorem dX12_readsStep_211 : decode cX12_readsStep 211 = .ok (.isub, 1) := by decide +kernel
theorem dX12_readsStep_212 : decode cX12_readsStep 212 = .ok (.putfield 175, 3) := by decide +kernel
theorem dX12_readsStep_215 : decode cX12_readsStep 215 = .ok (.aload_n 2, 1) := by decide +kernel
theorem dX12_readsStep_216 : decode cX12_readsStep 216 = .ok (.iconst 4, 1) := by decide +kernel
theorem dX12_readsStep_217 : decode cX12_readsStep 217 = .ok (.aload_n 0, 1) := by decide +kernel
theorem dX12_readsStep_218 : decode cX12_readsStep 218 = .ok (.getfield 272, 3) := by decide +kernel
theorem dX12_readsStep_221 : decode cX12_readsStep 221 = .ok (.iastore, 1) := by decide +kernel
theorem dX12_readsStep_222 : decode cX12_readsStep 222 = .ok (.aload_n 0, 1) := by decide +kernel
theorem dX12_readsStep_223 : decode cX12_readsStep 223 = .ok (.bipush 59, 2) := by decide +kernel
theorem dX12_readsStep_225 : decode cX12_readsStep 225 = .ok (.invokevirtual 188, 3) := by decide +kernel
theorem dX12_readsStep_228 : decode cX12_readsStep 228 = .ok (.return_, 1) := by decide +kernel
theorem dX12_deeds_0 : decode cX12_deeds 0 = .ok (.aload_n 0, 1) := by decide +kernel
theorem dX12_deeds_1 : decode cX12_deeds 1 = .ok (.iconst 0, 1) := by decide +kernel
theorem dX12_deeds_2 : decode cX12_deeds 2 = .ok (.putfield 116, 3) := by decide +kernel
theorem dX12_deeds_5 : decode cX12_deeds 5 = .ok (.aload_n 0, 1) := by decide +kernel
theorem dX12_deeds_6 : decode cX12_deeds 6 = .ok (.iload_n 1, 1) := by decide +kernel
theorem dX12_deeds_7 : decode cX12_deeds 7 = .ok (.iconst 0, 1) := by decide +kernel
theorem dX12_deeds_8 : decode cX12_deeds 8 = .ok (.aload_n 0, 1) := by decide +kernel
theorem dX12_deeds_9 : decode cX12_deeds 9 = .ok (.getfield 119, 3) := by decide +kernel
theorem dX12_deeds_12 : decode cX12_deeds 12 = .ok (.invokestatic 150, 3) := by decide +kernel
theorem dX12_deeds_15 : decode cX12_deeds 15 = .ok (.ifCond .eq 9, 3) := by decide +kernel
theorem dX12_deeds_18 : decode cX12_deeds 18 = .ok (.iload_n 1, 1) := by decide +kernel
theorem dX12_deeds_19 : decode cX12_deeds 19 = .ok (.bipush 60, 2) := by decide +kernel
theorem dX12_deeds_21 : decode cX12_deeds 21 = .ok (.if_icmp .le 7, 3) := by decide +kernel
theorem dX12_deeds_24 : decode cX12_deeds 24 = .ok (.iconst 1, 1) := by decide +kernel
theorem dX12_deeds_25 : decode cX12_deeds 25 = .ok (.goto 4, 3) := by decide +kernel
theorem dX12_deeds_28 : decode cX12_deeds 28 = .ok (.iconst 0, 1) := by decide +kernel
theorem dX12_deeds_29 : decode cX12_deeds 29 = .ok (.iconst 1, 1) := by decide +kernel
theorem dX12_deeds_30 : decode cX12_deeds 30 = .ok (.iconst 1, 1) := by decide +kernel
theorem dX12_deeds_31 : decode cX12_deeds 31 = .ok (.invokevirtual 192, 3) := by decide +kernel
theorem dX12_deeds_34 : decode cX12_deeds 34 = .ok (.ifCond .eq 5, 3) := by decide +kernel
theorem dX12_deeds_37 : decode cX12_deeds 37 = .ok (.iconst 0, 1) := by decide +kernel
theorem dX12_deeds_38 : decode cX12_deeds 38 = .ok (.ireturn, 1) := by decide +kernel
theorem dX12_deeds_39 : decode cX12_deeds 39 = .ok (.aload_n 0, 1) := by decide +kernel
theorem dX12_deeds_40 : decode cX12_deeds 40 = .ok (.iload_n 1, 1) := by decide +kernel
theorem dX12_deeds_41 : decode cX12_deeds 41 = .ok (.invokevirtual 196, 3) := by decide +kernel
theorem dX12_deeds_44 : decode cX12_deeds 44 = .ok (.iconst 0, 1) := by decide +kernel
theorem dX12_deeds_45 : decode cX12_deeds 45 = .ok (.istore_n 2, 1) := by decide +kernel
theorem dX12_deeds_46 : decode cX12_deeds 46 = .ok (.iconst 0, 1) := by decide +kernel
theorem dX12_deeds_47 : decode cX12_deeds 47 = .ok (.istore_n 3, 1) := by decide +kernel
theorem dX12_deeds_48 : decode cX12_deeds 48 = .ok (.aload_n 0, 1) := by decide +kernel
theorem dX12_deeds_49 : decode cX12_deeds 49 = .ok (.getfield 132, 3) := by decide +kernel
theorem dX12_deeds_52 : decode cX12_deeds 52 = .ok (.ifCond .ne 110, 3) := by decide +kernel
theorem dX12_deeds_55 : decode cX12_deeds 55 = .ok (.aload_n 0, 1) := by decide +kernel
theorem dX12_deeds_56 : decode cX12_deeds 56 = .ok (.getfield 125, 3) := by decide +kernel
theorem dX12_deeds_59 : decode cX12_deeds 59 = .ok (.aload_n 0, 1) := by decide +kernel
theorem dX12_deeds_60 : decode cX12_deeds 60 = .ok (.getfield 122, 3) := by decide +kernel
theorem dX12_deeds_63 : decode cX12_deeds 63 = .ok (.if_icmp .ge 99, 3) := by decide +kernel
theorem dX12_deeds_66 : decode cX12_deeds 66 = .ok (.aload_n 0, 1) := by decide +kernel
theorem dX12_deeds_67 : decode cX12_deeds 67 = .ok (.getfield 125, 3) := by decide +kernel
theorem dX12_deeds_70 : decode cX12_deeds 70 = .ok (.istore 4, 2) := by decide +kernel
theorem dX12_deeds_72 : decode cX12_deeds 72 = .ok (.aload_n 0, 1) := by decide +kernel
theorem dX12_deeds_73 : decode cX12_deeds 73 = .ok (.iconst 0, 1) := by decide +kernel
theorem dX12_deeds_74 : decode cX12_deeds 74 = .ok (.bipush 9, 2) := by decide +kernel
theorem dX12_deeds_76 : decode cX12_deeds 76 = .ok (.invokevirtual 184, 3) := by decide +kernel
theorem dX12_deeds_79 : decode cX12_deeds 79 = .ok (.istore 5, 2) := by decide +kernel
theorem dX12_deeds_81 : decode cX12_deeds 81 = .ok (.aload_n 0, 1) := by decide +kernel
theorem dX12_deeds_82 : decode cX12_deeds 82 = .ok (.getfield 132, 3) := by decide +kernel
theorem dX12_deeds_85 : decode cX12_deeds 85 = .ok (.ifCond .ne 19, 3) := by decide +kernel
theorem dX12_deeds_88 : decode cX12_deeds 88 = .ok (.iload_n 3, 1) := by decide +kernel
theorem dX12_deeds_89 : decode cX12_deeds 89 = .ok (.iload 5, 2) := by decide +kernel
theorem dX12_deeds_91 : decode cX12_deeds 91 = .ok (.invokestatic 278, 3) := by decide +kernel
theorem dX12_deeds_94 : decode cX12_deeds 94 = .ok (.ifCond .eq 10, 3) := by decide +kernel
theorem dX12_deeds_97 : decode cX12_deeds 97 = .ok (.aload_n 0, 1) := by decide +kernel
theorem dX12_deeds_98 : decode cX12_deeds 98 = .ok (.iconst 2, 1) := by decide +kernel
theorem dX12_deeds_99 : decode cX12_deeds 99 = .ok (.iload 4, 2) := by decide +kernel
theorem dX12_deeds_101 : decode cX12_deeds 101 = .ok (.invokevirtual 145, 3) := by decide +kernel
theorem dX12_deeds_104 : decode cX12_deeds 104 = .ok (.aload_n 0, 1) := by decide +kernel
theorem dX12_deeds_105 : decode cX12_deeds 105 = .ok (.iconst 0, 1) := by decide +kernel
theorem dX12_deeds_106 : decode cX12_deeds 106 = .ok (.iconst 1, 1) := by decide +kernel
theorem dX12_deeds_107 : decode cX12_deeds 107 = .ok (.invokevirtual 184, 3) := by decide +kernel
theorem dX12_deeds_110 : decode cX12_deeds 110 = .ok (.istore 6, 2) := by decide +kernel
theorem dX12_deeds_112 : decode cX12_deeds 112 = .ok (.aload_n 0, 1) := by decide +kernel
theorem dX12_deeds_113 : decode cX12_deeds 113 = .ok (.bipush 59, 2) := by decide +kernel
theorem dX12_deeds_115 : decode cX12_deeds 115 = .ok (.invokevirtual 188, 3) := by decide +kernel
theorem dX12_deeds_118 : decode cX12_deeds 118 = .ok (.aload_n 0, 1) := by decide +kernel
theorem dX12_deeds_119 : decode cX12_deeds 119 = .ok (.getfield 132, 3) := by decide +kernel
theorem dX12_deeds_122 : decode cX12_deeds 122 = .ok (.ifCond .ne 33, 3) := by decide +kernel
theorem dX12_deeds_125 : decode cX12_deeds 125 = .ok (.iload_n 3, 1) := by decide +kernel
theorem dX12_deeds_126 : decode cX12_deeds 126 = .ok (.iconst 1, 1) := by decide +kernel
theorem dX12_deeds_127 : decode cX12_deeds 127 = .ok (.iload 5, 2) := by decide +kernel
theorem dX12_deeds_129 : decode cX12_deeds 129 = .ok (.ishl, 1) := by decide +kernel
theorem dX12_deeds_130 : decode cX12_deeds 130 = .ok (.ior, 1) := by decide +kernel
theorem dX12_deeds_131 : decode cX12_deeds 131 = .ok (.istore_n 3, 1) := by decide +kernel
theorem dX12_deeds_132 : decode cX12_deeds 132 = .ok (.aload_n 0, 1) := by decide +kernel
theorem dX12_deeds_133 : decode cX12_deeds 133 = .ok (.getfield 67, 3) := by decide +kernel
theorem dX12_deeds_136 : decode cX12_deeds 136 = .ok (.iload_n 2, 1) := by decide +kernel
theorem dX12_deeds_137 : decode cX12_deeds 137 = .ok (.aaload, 1) := by decide +kernel
theorem dX12_deeds_138 : decode cX12_deeds 138 = .ok (.iconst 0, 1) := by decide +kernel
theorem dX12_deeds_139 : decode cX12_deeds 139 = .ok (.iload 5, 2) := by decide +kernel
theorem dX12_deeds_141 : decode cX12_deeds 141 = .ok (.iastore, 1) := by decide +kernel
theorem dX12_deeds_142 : decode cX12_deeds 142 = .ok (.aload_n 0, 1) := by decide +kernel
theorem dX12_deeds_143 : decode cX12_deeds 143 = .ok (.getfield 67, 3) := by decide +kernel
theorem dX12_deeds_146 : decode cX12_deeds 146 = .ok (.iload_n 2, 1) := by decide +kernel
theorem dX12_deeds_147 : decode cX12_deeds 147 = .ok (.aaload, 1) := by decide +kernel
theorem dX12_deeds_148 : decode cX12_deeds 148 = .ok (.iconst 1, 1) := by decide +kernel
theorem dX12_deeds_149 : decode cX12_deeds 149 = .ok (.iload 6, 2) := by decide +kernel
theorem dX12_deeds_151 : decode cX12_deeds 151 = .ok (.iastore, 1) := by decide +kernel
theorem dX12_deeds_152 : decode cX12_deeds 152 = .ok (.iinc 2 1, 3) := by decide +kernel
theorem dX12_deeds_155 : decode cX12_deeds 155 = .ok (.aload_n 0, 1) := by decide +kernel
theorem dX12_deeds_156 : decode cX12_deeds 156 = .ok (.invokevirtual 138, 3) := by decide +kernel
theorem dX12_deeds_159 : decode cX12_deeds 159 = .ok (.goto (-111), 3) := by decide +kernel
theorem dX12_deeds_162 : decode cX12_deeds 162 = .ok (.aload_n 0, 1) := by decide +kernel
theorem dX12_deeds_163 : decode cX12_deeds 163 = .ok (.getfield 132, 3) := by decide +kernel
theorem dX12_deeds_166 : decode cX12_deeds 166 = .ok (.ifCond .eq 8, 3) := by decide +kernel
theorem dX12_deeds_169 : decode cX12_deeds 169 = .ok (.aload_n 0, 1) := by decide +kernel
theorem dX12_deeds_170 : decode cX12_deeds 170 = .ok (.invokevirtual 202, 3) := by decide +kernel
theorem dX12_deeds_173 : decode cX12_deeds 173 = .ok (.ireturn, 1) := by decide +kernel
theorem dX12_deeds_174 : decode cX12_deeds 174 = .ok (.aload_n 0, 1) := by decide +kernel
theorem dX12_deeds_175 : decode cX12_deeds 175 = .ok (.iconst (-1), 1) := by decide +kernel
theorem dX12_deeds_176 : decode cX12_deeds 176 = .ok (.putfield 9, 3) := by decide +kernel
theorem dX12_deeds_179 : decode cX12_deeds 179 = .ok (.aload_n 0, 1) := by decide +kernel
theorem dX12_deeds_180 : decode cX12_deeds 180 = .ok (.iload_n 2, 1) := by decide +kernel
theorem dX12_deeds_181 : decode cX12_deeds 181 = .ok (.putfield 216, 3) := by decide +kernel
theorem dX12_deeds_184 : decode cX12_deeds 184 = .ok (.aload_n 0, 1) := by decide +kernel
theorem dX12_deeds_185 : decode cX12_deeds 185 = .ok (.getfield 67, 3) := by decide +kernel
theorem dX12_deeds_188 : decode cX12_deeds 188 = .ok (.aload_n 0, 1) := by decide +kernel
theorem dX12_deeds_189 : decode cX12_deeds 189 = .ok (.getfield 64, 3) := by decide +kernel
theorem dX12_deeds_192 : decode cX12_deeds 192 = .ok (.iload_n 2, 1) := by decide +kernel
theorem dX12_deeds_193 : decode cX12_deeds 193 = .ok (.invokestatic 205, 3) := by decide +kernel
theorem dX12_deeds_196 : decode cX12_deeds 196 = .ok (.iload_n 2, 1) := by decide +kernel
theorem dX12_deeds_197 : decode cX12_deeds 197 = .ok (.ireturn, 1) := by decide +kernel
theorem dX12_fault_0 : decode cX12_fault 0 = .ok (.aload_n 0, 1) := by decide +kernel
theorem dX12_fault_1 : decode cX12_fault 1 = .ok (.iconst 0, 1) := by decide +kernel
theorem dX12_fault_2 : decode cX12_fault 2 = .ok (.putfield 116, 3) := by decide +kernel
theorem dX12_fault_5 : decode cX12_fault 5 = .ok (.aload_n 0, 1) := by decide +kernel
theorem dX12_fault_6 : decode cX12_fault 6 = .ok (.getfield 9, 3) := by decide +kernel
theorem dX12_fault_9 : decode cX12_fault 9 = .ok (.ireturn, 1) := by decide +kernel
theorem dX12_lineOf_0 : decode cX12_lineOf 0 = .ok (.aload_n 0, 1) := by decide +kernel
theorem dX12_lineOf_1 : decode cX12_lineOf 1 = .ok (.bipush 25, 2) := by decide +kernel
theorem dX12_lineOf_3 : decode cX12_lineOf 3 = .ok (.iconst 4, 1) := by decide +kernel
theorem dX12_lineOf_4 : decode cX12_lineOf 4 = .ok (.iload_n 1, 1) := by decide +kernel
theorem dX12_lineOf_5 : decode cX12_lineOf 5 = .ok (.imul, 1) := by decide +kernel
theorem dX12_lineOf_6 : decode cX12_lineOf 6 = .ok (.iadd, 1) := by decide +kernel
theorem dX12_lineOf_7 : decode cX12_lineOf 7 = .ok (.iload_n 2, 1) := by decide +kernel
theorem dX12_lineOf_8 : decode cX12_lineOf 8 = .ok (.iadd, 1) := by decide +kernel
theorem dX12_lineOf_9 : decode cX12_lineOf 9 = .ok (.iaload, 1) := by decide +kernel
theorem dX12_lineOf_10 : decode cX12_lineOf 10 = .ok (.ireturn, 1) := by decide +kernel
theorem dX12_roomOf_0 : decode cX12_roomOf 0 = .ok (.aload_n 0, 1) := by decide +kernel
theorem dX12_roomOf_1 : decode cX12_roomOf 1 = .ok (.getfield 29, 3) := by decide +kernel
theorem dX12_roomOf_4 : decode cX12_roomOf 4 = .ok (.iload_n 2, 1) := by decide +kernel
theorem dX12_roomOf_5 : decode cX12_roomOf 5 = .ok (.iaload, 1) := by decide +kernel
theorem dX12_roomOf_6 : decode cX12_roomOf 6 = .ok (.istore_n 3, 1) := by decide +kernel
theorem dX12_roomOf_7 : decode cX12_roomOf 7 = .ok (.iconst 0, 1) := by decide +kernel
theorem dX12_roomOf_8 : decode cX12_roomOf 8 = .ok (.istore 4, 2) := by decide +kernel
theorem dX12_roomOf_10 : decode cX12_roomOf 10 = .ok (.iload 4, 2) := by decide +kernel
theorem dX12_roomOf_12 : decode cX12_roomOf 12 = .ok (.aload_n 1, 1) := by decide +kernel
theorem dX12_roomOf_13 : decode cX12_roomOf 13 = .ok (.bipush 23, 2) := by decide +kernel
theorem dX12_roomOf_15 : decode cX12_roomOf 15 = .ok (.iaload, 1) := by decide +kernel
theorem dX12_roomOf_16 : decode cX12_roomOf 16 = .ok (.if_icmp .ge 41, 3) := by decide +kernel
theorem dX12_roomOf_19 : decode cX12_roomOf 19 = .ok (.iload_n 3, 1) := by decide +kernel
theorem dX12_roomOf_20 : decode cX12_roomOf 20 = .ok (.aload_n 1, 1) := by decide +kernel
theorem dX12_roomOf_21 : decode cX12_roomOf 21 = .ok (.iload 4, 2) := by decide +kernel
theorem dX12_roomOf_23 : decode cX12_roomOf 23 = .ok (.iconst 2, 1) := by decide +kernel
theorem dX12_roomOf_24 : decode cX12_roomOf 24 = .ok (.invokestatic 282, 3) := by decide +kernel
theorem dX12_roomOf_27 : decode cX12_roomOf 27 = .ok (.iload_n 2, 1) := by decide +kernel
theorem dX12_roomOf_28 : decode cX12_roomOf 28 = .ok (.if_icmp .ne 20, 3) := by decide +kernel
theorem dX12_roomOf_31 : decode cX12_roomOf 31 = .ok (.aload_n 0, 1) := by decide +kernel
theorem dX12_roomOf_32 : decode cX12_roomOf 32 = .ok (.getfield 49, 3) := by decide +kernel
theorem dX12_roomOf_35 : decode cX12_roomOf 35 = .ok (.aload_n 1, 1) := by decide +kernel
theorem dX12_roomOf_36 : decode cX12_roomOf 36 = .ok (.iload 4, 2) := by decide +kernel
theorem dX12_roomOf_38 : decode cX12_roomOf 38 = .ok (.iconst 0, 1) := by decide +kernel
theorem dX12_roomOf_39 : decode cX12_roomOf 39 = .ok (.invokestatic 282, 3) := by decide +kernel
theorem dX12_roomOf_42 : decode cX12_roomOf 42 = .ok (.aaload, 1) := by decide +kernel
theorem dX12_roomOf_43 : decode cX12_roomOf 43 = .ok (.iconst 1, 1) := by decide +kernel
theorem dX12_roomOf_44 : decode cX12_roomOf 44 = .ok (.iaload, 1) := by decide +kernel
theorem dX12_roomOf_45 : decode cX12_roomOf 45 = .ok (.goto 4, 3) := by decide +kernel
theorem dX12_roomOf_48 : decode cX12_roomOf 48 = .ok (.iconst 0, 1) := by decide +kernel
theorem dX12_roomOf_49 : decode cX12_roomOf 49 = .ok (.isub, 1) := by decide +kernel
theorem dX12_roomOf_50 : decode cX12_roomOf 50 = .ok (.istore_n 3, 1) := by decide +kernel
theorem dX12_roomOf_51 : decode cX12_roomOf 51 = .ok (.iinc 4 1, 3) := by decide +kernel
theorem dX12_roomOf_54 : decode cX12_roomOf 54 = .ok (.goto (-44), 3) := by decide +kernel
theorem dX12_roomOf_57 : decode cX12_roomOf 57 = .ok (.iload_n 3, 1) := by decide +kernel
theorem dX12_roomOf_58 : decode cX12_roomOf 58 = .ok (.ireturn, 1) := by decide +kernel
theorem dX12_canWrite_0 : decode cX12_canWrite 0 = .ok (.aload_n 0, 1) := by decide +kernel
theorem dX12_canWrite_1 : decode cX12_canWrite 1 = .ok (.getfield 41, 3) := by decide +kernel
theorem dX12_canWrite_4 : decode cX12_canWrite 4 = .ok (.iload_n 2, 1) := by decide +kernel
theorem dX12_canWrite_5 : decode cX12_canWrite 5 = .ok (.iaload, 1) := by decide +kernel
theorem dX12_canWrite_6 : decode cX12_canWrite 6 = .ok (.iload_n 3, 1) := by decide +kernel
theorem dX12_canWrite_7 : decode cX12_canWrite 7 = .ok (.invokestatic 278, 3) := by decide +kernel
theorem dX12_canWrite_10 : decode cX12_canWrite 10 = .ok (.ifCond .eq 64, 3) := by decide +kernel
theorem dX12_canWrite_13 : decode cX12_canWrite 13 = .ok (.iload 4, 2) := by decide +kernel
theorem dX12_canWrite_15 : decode cX12_canWrite 15 = .ok (.aload_n 0, 1) := by decide +kernel
theorem dX12_canWrite_16 : decode cX12_canWrite 16 = .ok (.getfield 55, 3) := by decide +kernel
theorem dX12_canWrite_19 : decode cX12_canWrite 19 = .ok (.iload_n 2, 1) := by decide +kernel
theorem dX12_canWrite_20 : decode cX12_canWrite 20 = .ok (.aaload, 1) := by decide +kernel
theorem dX12_canWrite_21 : decode cX12_canWrite 21 = .ok (.iconst 0, 1) := by decide +kernel
theorem dX12_canWrite_22 : decode cX12_canWrite 22 = .ok (.iaload, 1) := by decide +kernel
theorem dX12_canWrite_23 : decode cX12_canWrite 23 = .ok (.if_icmp .gt 51, 3) := by decide +kernel
theorem dX12_canWrite_26 : decode cX12_canWrite 26 = .ok (.aload_n 0, 1) := by decide +kernel
theorem dX12_canWrite_27 : decode cX12_canWrite 27 = .ok (.aload_n 1, 1) := by decide +kernel
theorem dX12_canWrite_28 : decode cX12_canWrite 28 = .ok (.iload 4, 2) := by decide +kernel
theorem dX12_canWrite_30 : decode cX12_canWrite 30 = .ok (.invokevirtual 286, 3) := by decide +kernel
theorem dX12_canWrite_33 : decode cX12_canWrite 33 = .ok (.aload_n 0, 1) := by decide +kernel
theorem dX12_canWrite_34 : decode cX12_canWrite 34 = .ok (.getfield 49, 3) := by decide +kernel
theorem dX12_canWrite_37 : decode cX12_canWrite 37 = .ok (.iload_n 3, 1) := by decide +kernel
theorem dX12_canWrite_38 : decode cX12_canWrite 38 = .ok (.aaload, 1) := by decide +kernel
theorem dX12_canWrite_39 : decode cX12_canWrite 39 = .ok (.iconst 1, 1) := by decide +kernel
theorem dX12_canWrite_40 : decode cX12_canWrite 40 = .ok (.iaload, 1) := by decide +kernel
theorem dX12_canWrite_41 : decode cX12_canWrite 41 = .ok (.if_icmp .lt 33, 3) := by decide +kernel
theorem dX12_canWrite_44 : decode cX12_canWrite 44 = .ok (.aload_n 1, 1) := by decide +kernel
theorem dX12_canWrite_45 : decode cX12_canWrite 45 = .ok (.bipush 16, 2) := by decide +kernel
theorem dX12_canWrite_47 : decode cX12_canWrite 47 = .ok (.iload_n 2, 1) := by decide +kernel
theorem dX12_canWrite_48 : decode cX12_canWrite 48 = .ok (.iadd, 1) := by decide +kernel
theorem dX12_canWrite_49 : decode cX12_canWrite 49 = .ok (.iaload, 1) := by decide +kernel
theorem dX12_canWrite_50 : decode cX12_canWrite 50 = .ok (.aload_n 0, 1) := by decide +kernel
theorem dX12_canWrite_51 : decode cX12_canWrite 51 = .ok (.getfield 49, 3) := by decide +kernel
theorem dX12_canWrite_54 : decode cX12_canWrite 54 = .ok (.iload_n 3, 1) := by decide +kernel
theorem dX12_canWrite_55 : decode cX12_canWrite 55 = .ok (.aaload, 1) := by decide +kernel
theorem dX12_canWrite_56 : decode cX12_canWrite 56 = .ok (.iconst 1, 1) := by decide +kernel
theorem dX12_canWrite_57 : decode cX12_canWrite 57 = .ok (.iaload, 1) := by decide +kernel
theorem dX12_canWrite_58 : decode cX12_canWrite 58 = .ok (.if_icmp .lt 16, 3) := by decide +kernel
theorem dX12_canWrite_61 : decode cX12_canWrite 61 = .ok (.aload_n 1, 1) := by decide +kernel
theorem dX12_canWrite_62 : decode cX12_canWrite 62 = .ok (.bipush 23, 2) := by decide +kernel
theorem dX12_canWrite_64 : decode cX12_canWrite 64 = .ok (.iaload, 1) := by decide +kernel
theorem dX12_canWrite_65 : decode cX12_canWrite 65 = .ok (.bipush 20, 2) := by decide +kernel
theorem dX12_canWrite_67 : decode cX12_canWrite 67 = .ok (.if_icmp .ge 7, 3) := by decide +kernel
theorem dX12_canWrite_70 : decode cX12_canWrite 70 = .ok (.iconst 1, 1) := by decide +kernel
theorem dX12_canWrite_71 : decode cX12_canWrite 71 = .ok (.goto 4, 3) := by decide +kernel
theorem dX12_canWrite_74 : decode cX12_canWrite 74 = .ok (.iconst 0, 1) := by decide +kernel
theorem dX12_canWrite_75 : decode cX12_canWrite 75 = .ok (.ireturn, 1) := by decide +kernel
theorem dX12_writes_0 : decode cX12_writes 0 = .ok (.aload_n 0, 1) := by decide +kernel
theorem dX12_writes_1 : decode cX12_writes 1 = .ok (.aload_n 1, 1) := by decide +kernel
theorem dX12_writes_2 : decode cX12_writes 2 = .ok (.iload_n 2, 1) := by decide +kernel
theorem dX12_writes_3 : decode cX12_writes 3 = .ok (.iload_n 3, 1) := by decide +kernel
theorem dX12_writes_4 : decode cX12_writes 4 = .ok (.iload 4, 2) := by decide +kernel
theorem dX12_writes_6 : decode cX12_writes 6 = .ok (.invokevirtual 290, 3) := by decide +kernel
theorem dX12_writes_9 : decode cX12_writes 9 = .ok (.ifCond .ne 5, 3) := by decide +kernel
theorem dX12_writes_12 : decode cX12_writes 12 = .ok (.iconst 0, 1) := by decide +kernel
theorem dX12_writes_13 : decode cX12_writes 13 = .ok (.ireturn, 1) := by decide +kernel
theorem dX12_writes_14 : decode cX12_writes 14 = .ok (.bipush 25, 2) := by decide +kernel
theorem dX12_writes_16 : decode cX12_writes 16 = .ok (.iconst 4, 1) := by decide +kernel
theorem dX12_writes_17 : decode cX12_writes 17 = .ok (.aload_n 1, 1) := by decide +kernel
theorem dX12_writes_18 : decode cX12_writes 18 = .ok (.bipush 23, 2) := by decide +kernel
theorem dX12_writes_20 : decode cX12_writes 20 = .ok (.iaload, 1) := by decide +kernel
theorem dX12_writes_21 : decode cX12_writes 21 = .ok (.imul, 1) := by decide +kernel
theorem dX12_writes_22 : decode cX12_writes 22 = .ok (.iadd, 1) := by decide +kernel
theorem dX12_writes_23 : decode cX12_writes 23 = .ok (.istore 5, 2) := by decide +kernel
theorem dX12_writes_25 : decode cX12_writes 25 = .ok (.aload_n 1, 1) := by decide +kernel
theorem dX12_writes_26 : decode cX12_writes 26 = .ok (.iload 5, 2) := by decide +kernel
theorem dX12_writes_28 : decode cX12_writes 28 = .ok (.iload_n 3, 1) := by decide +kernel
theorem dX12_writes_29 : decode cX12_writes 29 = .ok (.iastore, 1) := by decide +kernel
theorem dX12_writes_30 : decode cX12_writes 30 = .ok (.aload_n 1, 1) := by decide +kernel
theorem dX12_writes_31 : decode cX12_writes 31 = .ok (.iload 5, 2) := by decide +kernel
theorem dX12_writes_33 : decode cX12_writes 33 = .ok (.iconst 1, 1) := by decide +kernel
theorem dX12_writes_34 : decode cX12_writes 34 = .ok (.iadd, 1) := by decide +kernel
theorem dX12_writes_35 : decode cX12_writes 35 = .ok (.aload_n 1, 1) := by decide +kernel
theorem dX12_writes_36 : decode cX12_writes 36 = .ok (.iconst 0, 1) := by decide +kernel
theorem dX12_writes_37 : decode cX12_writes 37 = .ok (.iload_n 3, 1) := by decide +kernel
theorem dX12_writes_38 : decode cX12_writes 38 = .ok (.iadd, 1) := by decide +kernel
theorem dX12_writes_39 : decode cX12_writes 39 = .ok (.iaload, 1) := by decide +kernel
theorem dX12_writes_40 : decode cX12_writes 40 = .ok (.iastore, 1) := by decide +kernel
theorem dX12_writes_41 : decode cX12_writes 41 = .ok (.aload_n 1, 1) := by decide +kernel
theorem dX12_writes_42 : decode cX12_writes 42 = .ok (.iload 5, 2) := by decide +kernel
theorem dX12_writes_44 : decode cX12_writes 44 = .ok (.iconst 2, 1) := by decide +kernel
theorem dX12_writes_45 : decode cX12_writes 45 = .ok (.iadd, 1) := by decide +kernel
theorem dX12_writes_46 : decode cX12_writes 46 = .ok (.iload 4, 2) := by decide +kernel
theorem dX12_writes_48 : decode cX12_writes 48 = .ok (.iastore, 1) := by decide +kernel
theorem dX12_writes_49 : decode cX12_writes 49 = .ok (.aload_n 1, 1) := by decide +kernel
theorem dX12_writes_50 : decode cX12_writes 50 = .ok (.iload 5, 2) := by decide +kernel
theorem dX12_writes_52 : decode cX12_writes 52 = .ok (.iconst 3, 1) := by decide +kernel
theorem dX12_writes_53 : decode cX12_writes 53 = .ok (.iadd, 1) := by decide +kernel
theorem dX12_writes_54 : decode cX12_writes 54 = .ok (.iload_n 2, 1) := by decide +kernel
theorem dX12_writes_55 : decode cX12_writes 55 = .ok (.iastore, 1) := by decide +kernel
theorem dX12_writes_56 : decode cX12_writes 56 = .ok (.aload_n 1, 1) := by decide +kernel
theorem dX12_writes_57 : decode cX12_writes 57 = .ok (.bipush 23, 2) := by decide +kernel
theorem dX12_writes_59 : decode cX12_writes 59 = .ok (.dup2, 1) := by decide +kernel
theorem dX12_writes_60 : decode cX12_writes 60 = .ok (.iaload, 1) := by decide +kernel
theorem dX12_writes_61 : decode cX12_writes 61 = .ok (.iconst 1, 1) := by decide +kernel
theorem dX12_writes_62 : decode cX12_writes 62 = .ok (.iadd, 1) := by decide +kernel
theorem dX12_writes_63 : decode cX12_writes 63 = .ok (.iastore, 1) := by decide +kernel
theorem dX12_writes_64 : decode cX12_writes 64 = .ok (.aload_n 1, 1) := by decide +kernel
theorem dX12_writes_65 : decode cX12_writes 65 = .ok (.bipush 24, 2) := by decide +kernel
theorem dX12_writes_67 : decode cX12_writes 67 = .ok (.dup2, 1) := by decide +kernel
theorem dX12_writes_68 : decode cX12_writes 68 = .ok (.iaload, 1) := by decide +kernel
theorem dX12_writes_69 : decode cX12_writes 69 = .ok (.iconst 1, 1) := by decide +kernel
theorem dX12_writes_70 : decode cX12_writes 70 = .ok (.iadd, 1) := by decide +kernel
theorem dX12_writes_71 : decode cX12_writes 71 = .ok (.iastore, 1) := by decide +kernel
theorem dX12_writes_72 : decode cX12_writes 72 = .ok (.aload_n 1, 1) := by decide +kernel
theorem dX12_writes_73 : decode cX12_writes 73 = .ok (.bipush 16, 2) := by decide +kernel
theorem dX12_writes_75 : decode cX12_writes 75 = .ok (.iload_n 2, 1) := by decide +kernel
theorem dX12_writes_76 : decode cX12_writes 76 = .ok (.iadd, 1) := by decide +kernel
theorem dX12_writes_77 : decode cX12_writes 77 = .ok (.dup2, 1) := by decide +kernel
theorem dX12_writes_78 : decode cX12_writes 78 = .ok (.iaload, 1) := by decide +kernel
theorem dX12_writes_79 : decode cX12_writes 79 = .ok (.aload_n 0, 1) := by decide +kernel
theorem dX12_writes_80 : decode cX12_writes 80 = .ok (.getfield 49, 3) := by decide +kernel
theorem dX12_writes_83 : decode cX12_writes 83 = .ok (.iload_n 3, 1) := by decide +kernel
theorem dX12_writes_84 : decode cX12_writes 84 = .ok (.aaload, 1) := by decide +kernel
theorem dX12_writes_85 : decode cX12_writes 85 = .ok (.iconst 1, 1) := by decide +kernel
theorem dX12_writes_86 : decode cX12_writes 86 = .ok (.iaload, 1) := by decide +kernel
theorem dX12_writes_87 : decode cX12_writes 87 = .ok (.isub, 1) := by decide +kernel
theorem dX12_writes_88 : decode cX12_writes 88 = .ok (.iastore, 1) := by decide +kernel
theorem dX12_writes_89 : decode cX12_writes 89 = .ok (.iconst 1, 1) := by decide +kernel
theorem dX12_writes_90 : decode cX12_writes 90 = .ok (.ireturn, 1) := by decide +kernel
theorem dX12_slips_0 : decode cX12_slips 0 = .ok (.aload_n 0, 1) := by decide +kernel
theorem dX12_slips_1 : decode cX12_slips 1 = .ok (.getfield 35, 3) := by decide +kernel
theorem dX12_slips_4 : decode cX12_slips 4 = .ok (.aload_n 1, 1) := by decide +kernel
theorem dX12_slips_5 : decode cX12_slips 5 = .ok (.iconst 0, 1) := by decide +kernel
theorem dX12_slips_6 : decode cX12_slips 6 = .ok (.iload_n 2, 1) := by decide +kernel
theorem dX12_slips_7 : decode cX12_slips 7 = .ok (.iadd, 1) := by decide +kernel
theorem dX12_slips_8 : decode cX12_slips 8 = .ok (.iaload, 1) := by decide +kernel
theorem dX12_slips_9 : decode cX12_slips 9 = .ok (.iaload, 1) := by decide +kernel
theorem dX12_slips_10 : decode cX12_slips 10 = .ok (.istore_n 3, 1) := by decide +kernel
theorem dX12_slips_11 : decode cX12_slips 11 = .ok (.iload_n 3, 1) := by decide +kernel
theorem dX12_slips_12 : decode cX12_slips 12 = .ok (.iconst (-1), 1) := by decide +kernel
theorem dX12_slips_13 : decode cX12_slips 13 = .ok (.if_icmp .ne 5, 3) := by decide +kernel
theorem dX12_slips_16 : decode cX12_slips 16 = .ok (.iconst 0, 1) := by decide +kernel
theorem dX12_slips_17 : decode cX12_slips 17 = .ok (.ireturn, 1) := by decide +kernel
theorem dX12_slips_18 : decode cX12_slips 18 = .ok (.aload_n 1, 1) := by decide +kernel
theorem dX12_slips_19 : decode cX12_slips 19 = .ok (.iconst 0, 1) := by decide +kernel
theorem dX12_slips_20 : decode cX12_slips 20 = .ok (.iload_n 2, 1) := by decide +kernel
theorem dX12_slips_21 : decode cX12_slips 21 = .ok (.iadd, 1) := by decide +kernel
theorem dX12_slips_22 : decode cX12_slips 22 = .ok (.iload_n 3, 1) := by decide +kernel
theorem dX12_slips_23 : decode cX12_slips 23 = .ok (.iastore, 1) := by decide +kernel
theorem dX12_slips_24 : decode cX12_slips 24 = .ok (.aload_n 1, 1) := by decide +kernel
theorem dX12_slips_25 : decode cX12_slips 25 = .ok (.bipush 8, 2) := by decide +kernel
theorem dX12_slips_27 : decode cX12_slips 27 = .ok (.iload_n 2, 1) := by decide +kernel
theorem dX12_slips_28 : decode cX12_slips 28 = .ok (.iadd, 1) := by decide +kernel
theorem dX12_slips_29 : decode cX12_slips 29 = .ok (.dup2, 1) := by decide +kernel
theorem dX12_slips_30 : decode cX12_slips 30 = .ok (.iaload, 1) := by decide +kernel
theorem dX12_slips_31 : decode cX12_slips 31 = .ok (.iconst 1, 1) := by decide +kernel
theorem dX12_slips_32 : decode cX12_slips 32 = .ok (.iadd, 1) := by decide +kernel
theorem dX12_slips_33 : decode cX12_slips 33 = .ok (.iastore, 1) := by decide +kernel
theorem dX12_slips_34 : decode cX12_slips 34 = .ok (.iconst 1, 1) := by decide +kernel
theorem dX12_slips_35 : decode cX12_slips 35 = .ok (.ireturn, 1) := by decide +kernel
theorem dX12_rains_0 : decode cX12_rains 0 = .ok (.iconst 0, 1) := by decide +kernel
theorem dX12_rains_1 : decode cX12_rains 1 = .ok (.istore_n 2, 1) := by decide +kernel
theorem dX12_rains_2 : decode cX12_rains 2 = .ok (.iconst 0, 1) := by decide +kernel
theorem dX12_rains_3 : decode cX12_rains 3 = .ok (.istore_n 3, 1) := by decide +kernel
theorem dX12_rains_4 : decode cX12_rains 4 = .ok (.iload_n 3, 1) := by decide +kernel
theorem dX12_rains_5 : decode cX12_rains 5 = .ok (.aload_n 0, 1) := by decide +kernel
theorem dX12_rains_6 : decode cX12_rains 6 = .ok (.bipush 23, 2) := by decide +kernel
theorem dX12_rains_8 : decode cX12_rains 8 = .ok (.iaload, 1) := by decide +kernel
theorem dX12_rains_9 : decode cX12_rains 9 = .ok (.if_icmp .ge 58, 3) := by decide +kernel
theorem dX12_rains_12 : decode cX12_rains 12 = .ok (.aload_n 0, 1) := by decide +kernel
theorem dX12_rains_13 : decode cX12_rains 13 = .ok (.iload_n 3, 1) := by decide +kernel
theorem dX12_rains_14 : decode cX12_rains 14 = .ok (.iconst 2, 1) := by decide +kernel
theorem dX12_rains_15 : decode cX12_rains 15 = .ok (.invokestatic 282, 3) := by decide +kernel
theorem dX12_rains_18 : decode cX12_rains 18 = .ok (.iload_n 1, 1) := by decide +kernel
theorem dX12_rains_19 : decode cX12_rains 19 = .ok (.if_icmp .ge 6, 3) := by decide +kernel
theorem dX12_rains_22 : decode cX12_rains 22 = .ok (.goto 39, 3) := by decide +kernel
theorem dX12_rains_25 : decode cX12_rains 25 = .ok (.iconst 0, 1) := by decide +kernel
theorem dX12_rains_26 : decode cX12_rains 26 = .ok (.istore 4, 2) := by decide +kernel
theorem dX12_rains_28 : decode cX12_rains 28 = .ok (.iload 4, 2) := by decide +kernel
theorem dX12_rains_30 : decode cX12_rains 30 = .ok (.iconst 4, 1) := by decide +kernel
theorem dX12_rains_31 : decode cX12_rains 31 = .ok (.if_icmp .ge 27, 3) := by decide +kernel
theorem dX12_rains_34 : decode cX12_rains 34 = .ok (.aload_n 0, 1) := by decide +kernel
theorem dX12_rains_35 : decode cX12_rains 35 = .ok (.bipush 25, 2) := by decide +kernel
theorem dX12_rains_37 : decode cX12_rains 37 = .ok (.iconst 4, 1) := by decide +kernel
theorem dX12_rains_38 : decode cX12_rains 38 = .ok (.iload_n 2, 1) := by decide +kernel
theorem dX12_rains_39 : decode cX12_rains 39 = .ok (.imul, 1) := by decide +kernel
theorem dX12_rains_40 : decode cX12_rains 40 = .ok (.iadd, 1) := by decide +kernel
theorem dX12_rains_41 : decode cX12_rains 41 = .ok (.iload 4, 2) := by decide +kernel
theorem dX12_rains_43 : decode cX12_rains 43 = .ok (.iadd, 1) := by decide +kernel
theorem dX12_rains_44 : decode cX12_rains 44 = .ok (.aload_n 0, 1) := by decide +kernel
theorem dX12_rains_45 : decode cX12_rains 45 = .ok (.iload_n 3, 1) := by decide +kernel
theorem dX12_rains_46 : decode cX12_rains 46 = .ok (.iload 4, 2) := by decide +kernel
theorem dX12_rains_48 : decode cX12_rains 48 = .ok (.invokestatic 282, 3) := by decide +kernel
theorem dX12_rains_51 : decode cX12_rains 51 = .ok (.iastore, 1) := by decide +kernel
theorem dX12_rains_52 : decode cX12_rains 52 = .ok (.iinc 4 1, 3) := by decide +kernel
theorem dX12_rains_55 : decode cX12_rains 55 = .ok (.goto (-27), 3) := by decide +kernel
theorem dX12_rains_58 : decode cX12_rains 58 = .ok (.iinc 2 1, 3) := by decide +kernel
theorem dX12_rains_61 : decode cX12_rains 61 = .ok (.iinc 3 1, 3) := by decide +kernel
theorem dX12_rains_64 : decode cX12_rains 64 = .ok (.goto (-60), 3) := by decide +kernel
theorem dX12_rains_67 : decode cX12_rains 67 = .ok (.iload_n 2, 1) := by decide +kernel
theorem dX12_rains_68 : decode cX12_rains 68 = .ok (.aload_n 0, 1) := by decide +kernel
theorem dX12_rains_69 : decode cX12_rains 69 = .ok (.bipush 23, 2) := by decide +kernel
theorem dX12_rains_71 : decode cX12_rains 71 = .ok (.iaload, 1) := by decide +kernel
theorem dX12_rains_72 : decode cX12_rains 72 = .ok (.if_icmp .ge 7, 3) := by decide +kernel
theorem dX12_rains_75 : decode cX12_rains 75 = .ok (.iconst 1, 1) := by decide +kernel
theorem dX12_rains_76 : decode cX12_rains 76 = .ok (.goto 4, 3) := by decide +kernel
theorem dX12_rains_79 : decode cX12_rains 79 = .ok (.iconst 0, 1) := by decide +kernel
theorem dX12_rains_80 : decode cX12_rains 80 = .ok (.istore_n 3, 1) := by decide +kernel
theorem dX12_rains_81 : decode cX12_rains 81 = .ok (.aload_n 0, 1) := by decide +kernel
theorem dX12_rains_82 : decode cX12_rains 82 = .ok (.bipush 23, 2) := by decide +kernel
theorem dX12_rains_84 : decode cX12_rains 84 = .ok (.iload_n 2, 1) := by decide +kernel
theorem dX12_rains_85 : decode cX12_rains 85 = .ok (.iastore, 1) := by decide +kernel
theorem dX12_rains_86 : decode cX12_rains 86 = .ok (.iload_n 3, 1) := by decide +kernel
theorem dX12_rains_87 : decode cX12_rains 87 = .ok (.ireturn, 1) := by decide +kernel
theorem dX12_nightEnds_0 : decode cX12_nightEnds 0 = .ok (.aload_n 1, 1) := by decide +kernel
theorem dX12_nightEnds_1 : decode cX12_nightEnds 1 = .ok (.bipush 23, 2) := by decide +kernel
theorem dX12_nightEnds_3 : decode cX12_nightEnds 3 = .ok (.iconst 0, 1) := by decide +kernel
theorem dX12_nightEnds_4 : decode cX12_nightEnds 4 = .ok (.iastore, 1) := by decide +kernel
theorem dX12_nightEnds_5 : decode cX12_nightEnds 5 = .ok (.aload_n 1, 1) := by decide +kernel
theorem dX12_nightEnds_6 : decode cX12_nightEnds 6 = .ok (.bipush 22, 2) := by decide +kernel
theorem dX12_nightEnds_8 : decode cX12_nightEnds 8 = .ok (.dup2, 1) := by decide +kernel
theorem dX12_nightEnds_9 : decode cX12_nightEnds 9 = .ok (.iaload, 1) := by decide +kernel
theorem dX12_nightEnds_10 : decode cX12_nightEnds 10 = .ok (.iconst 1, 1) := by decide +kernel
theorem dX12_nightEnds_11 : decode cX12_nightEnds 11 = .ok (.iadd, 1) := by decide +kernel
theorem dX12_nightEnds_12 : decode cX12_nightEnds 12 = .ok (.iastore, 1) := by decide +kernel
theorem dX12_nightEnds_13 : decode cX12_nightEnds 13 = .ok (.aload_n 0, 1) := by decide +kernel
theorem dX12_nightEnds_14 : decode cX12_nightEnds 14 = .ok (.aload_n 1, 1) := by decide +kernel
theorem dX12_nightEnds_15 : decode cX12_nightEnds 15 = .ok (.invokevirtual 209, 3) := by decide +kernel
theorem dX12_nightEnds_18 : decode cX12_nightEnds 18 = .ok (.return_, 1) := by decide +kernel
theorem dX12_does_0 : decode cX12_does 0 = .ok (.aload_n 2, 1) := by decide +kernel
theorem dX12_does_1 : decode cX12_does 1 = .ok (.iconst 0, 1) := by decide +kernel
theorem dX12_does_2 : decode cX12_does 2 = .ok (.iaload, 1) := by decide +kernel
theorem dX12_does_3 : decode cX12_does 3 = .ok (.tableswitch 57 0 2 #[25, 40, 49], 25) := by decide +kernel
theorem dX12_does_28 : decode cX12_does 28 = .ok (.aload_n 0, 1) := by decide +kernel
theorem dX12_does_29 : decode cX12_does 29 = .ok (.aload_n 1, 1) := by decide +kernel
theorem dX12_does_30 : decode cX12_does 30 = .ok (.aload_n 2, 1) := by decide +kernel
theorem dX12_does_31 : decode cX12_does 31 = .ok (.iconst 1, 1) := by decide +kernel
theorem dX12_does_32 : decode cX12_does 32 = .ok (.iaload, 1) := by decide +kernel
theorem dX12_does_33 : decode cX12_does 33 = .ok (.aload_n 2, 1) := by decide +kernel
theorem dX12_does_34 : decode cX12_does 34 = .ok (.iconst 2, 1) := by decide +kernel
theorem dX12_does_35 : decode cX12_does 35 = .ok (.iaload, 1) := by decide +kernel
theorem dX12_does_36 : decode cX12_does 36 = .ok (.aload_n 2, 1) := by decide +kernel
theorem dX12_does_37 : decode cX12_does 37 = .ok (.iconst 3, 1) := by decide +kernel
theorem dX12_does_38 : decode cX12_does 38 = .ok (.iaload, 1) := by decide +kernel
theorem dX12_does_39 : decode cX12_does 39 = .ok (.invokevirtual 294, 3) := by decide +kernel
theorem dX12_does_42 : decode cX12_does 42 = .ok (.ireturn, 1) := by decide +kernel
theorem dX12_does_43 : decode cX12_does 43 = .ok (.aload_n 0, 1) := by decide +kernel
theorem dX12_does_44 : decode cX12_does 44 = .ok (.aload_n 1, 1) := by decide +kernel
theorem dX12_does_45 : decode cX12_does 45 = .ok (.aload_n 2, 1) := by decide +kernel
theorem dX12_does_46 : decode cX12_does 46 = .ok (.iconst 2, 1) := by decide +kernel
theorem dX12_does_47 : decode cX12_does 47 = .ok (.iaload, 1) := by decide +kernel
theorem dX12_does_48 : decode cX12_does 48 = .ok (.invokevirtual 297, 3) := by decide +kernel
theorem dX12_does_51 : decode cX12_does 51 = .ok (.ireturn, 1) := by decide +kernel
theorem dX12_does_52 : decode cX12_does 52 = .ok (.aload_n 1, 1) := by decide +kernel
theorem dX12_does_53 : decode cX12_does 53 = .ok (.aload_n 2, 1) := by decide +kernel
theorem dX12_does_54 : decode cX12_does 54 = .ok (.iconst 1, 1) := by decide +kernel
theorem dX12_does_55 : decode cX12_does 55 = .ok (.iaload, 1) := by decide +kernel
theorem dX12_does_56 : decode cX12_does 56 = .ok (.invokestatic 301, 3) := by decide +kernel
theorem dX12_does_59 : decode cX12_does 59 = .ok (.ireturn, 1) := by decide +kernel
theorem dX12_does_60 : decode cX12_does 60 = .ok (.aload_n 1, 1) := by decide +kernel
theorem dX12_does_61 : decode cX12_does 61 = .ok (.bipush 22, 2) := by decide +kernel
theorem dX12_does_63 : decode cX12_does 63 = .ok (.iaload, 1) := by decide +kernel
theorem dX12_does_64 : decode cX12_does 64 = .ok (.sipush 500, 3) := by decide +kernel
theorem dX12_does_67 : decode cX12_does 67 = .ok (.if_icmp .lt 5, 3) := by decide +kernel
theorem dX12_does_70 : decode cX12_does 70 = .ok (.iconst 0, 1) := by decide +kernel
theorem dX12_does_71 : decode cX12_does 71 = .ok (.ireturn, 1) := by decide +kernel
theorem dX12_does_72 : decode cX12_does 72 = .ok (.aload_n 0, 1) := by decide +kernel
theorem dX12_does_73 : decode cX12_does 73 = .ok (.aload_n 1, 1) := by decide +kernel
theorem dX12_does_74 : decode cX12_does 74 = .ok (.invokevirtual 304, 3) := by decide +kernel
theorem dX12_does_77 : decode cX12_does 77 = .ok (.iconst 1, 1) := by decide +kernel
theorem dX12_does_78 : decode cX12_does 78 = .ok (.ireturn, 1) := by decide +kernel
theorem dX12_goes_0 : decode cX12_goes 0 = .ok (.iload_n 1, 1) := by decide +kernel
theorem dX12_goes_1 : decode cX12_goes 1 = .ok (.istore_n 3, 1) := by decide +kernel
theorem dX12_goes_2 : decode cX12_goes 2 = .ok (.iload_n 3, 1) := by decide +kernel
theorem dX12_goes_3 : decode cX12_goes 3 = .ok (.iload_n 2, 1) := by decide +kernel
theorem dX12_goes_4 : decode cX12_goes 4 = .ok (.if_icmp .ge 151, 3) := by decide +kernel
theorem dX12_goes_7 : decode cX12_goes 7 = .ok (.aload_n 0, 1) := by decide +kernel
theorem dX12_goes_8 : decode cX12_goes 8 = .ok (.getfield 307, 3) := by decide +kernel
theorem dX12_goes_11 : decode cX12_goes 11 = .ok (.sipush 200, 3) := by decide +kernel
theorem dX12_goes_14 : decode cX12_goes 14 = .ok (.if_icmp .ge 141, 3) := by decide +kernel
theorem dX12_goes_17 : decode cX12_goes 17 = .ok (.aload_n 0, 1) := by decide +kernel
theorem dX12_goes_18 : decode cX12_goes 18 = .ok (.dup, 1) := by decide +kernel
theorem dX12_goes_19 : decode cX12_goes 19 = .ok (.getfield 307, 3) := by decide +kernel
theorem dX12_goes_22 : decode cX12_goes 22 = .ok (.iconst 1, 1) := by decide +kernel
theorem dX12_goes_23 : decode cX12_goes 23 = .ok (.iadd, 1) := by decide +kernel
theorem dX12_goes_24 : decode cX12_goes 24 = .ok (.putfield 307, 3) := by decide +kernel
theorem dX12_goes_27 : decode cX12_goes 27 = .ok (.aload_n 0, 1) := by decide +kernel
theorem dX12_goes_28 : decode cX12_goes 28 = .ok (.getfield 76, 3) := by decide +kernel
theorem dX12_goes_31 : decode cX12_goes 31 = .ok (.iload_n 3, 1) := by decide +kernel
theorem dX12_goes_32 : decode cX12_goes 32 = .ok (.aaload, 1) := by decide +kernel
theorem dX12_goes_33 : decode cX12_goes 33 = .ok (.iconst 0, 1) := by decide +kernel
theorem dX12_goes_34 : decode cX12_goes 34 = .ok (.iaload, 1) := by decide +kernel
theorem dX12_goes_35 : decode cX12_goes 35 = .ok (.iconst 4, 1) := by decide +kernel
theorem dX12_goes_36 : decode cX12_goes 36 = .ok (.if_icmp .ne 53, 3) := by decide +kernel
theorem dX12_goes_39 : decode cX12_goes 39 = .ok (.iconst 0, 1) := by decide +kernel
theorem dX12_goes_40 : decode cX12_goes 40 = .ok (.istore 4, 2) := by decide +kernel
theorem dX12_goes_42 : decode cX12_goes 42 = .ok (.iload 4, 2) := by decide +kernel
theorem dX12_goes_44 : decode cX12_goes 44 = .ok (.aload_n 0, 1) := by decide +kernel
theorem dX12_goes_45 : decode cX12_goes 45 = .ok (.getfield 76, 3) := by decide +kernel
theorem dX12_goes_48 : decode cX12_goes 48 = .ok (.iload_n 3, 1) := by decide +kernel
theorem dX12_goes_49 : decode cX12_goes 49 = .ok (.aaload, 1) := by decide +kernel
theorem dX12_goes_50 : decode cX12_goes 50 = .ok (.iconst 1, 1) := by decide +kernel
theorem dX12_goes_51 : decode cX12_goes 51 = .ok (.iaload, 1) := by decide +kernel
theorem dX12_goes_52 : decode cX12_goes 52 = .ok (.if_icmp .ge 34, 3) := by decide +kernel
theorem dX12_goes_55 : decode cX12_goes 55 = .ok (.aload_n 0, 1) := by decide +kernel
theorem dX12_goes_56 : decode cX12_goes 56 = .ok (.getfield 307, 3) := by decide +kernel
theorem dX12_goes_59 : decode cX12_goes 59 = .ok (.sipush 200, 3) := by decide +kernel
theorem dX12_goes_62 : decode cX12_goes 62 = .ok (.if_icmp .ge 24, 3) := by decide +kernel
theorem dX12_goes_65 : decode cX12_goes 65 = .ok (.aload_n 0, 1) := by decide +kernel
theorem dX12_goes_66 : decode cX12_goes 66 = .ok (.iload_n 3, 1) := by decide +kernel
theorem dX12_goes_67 : decode cX12_goes 67 = .ok (.iconst 1, 1) := by decide +kernel
theorem dX12_goes_68 : decode cX12_goes 68 = .ok (.iadd, 1) := by decide +kernel
theorem dX12_goes_69 : decode cX12_goes 69 = .ok (.aload_n 0, 1) := by decide +kernel
theorem dX12_goes_70 : decode cX12_goes 70 = .ok (.getfield 76, 3) := by decide +kernel
theorem dX12_goes_73 : decode cX12_goes 73 = .ok (.iload_n 3, 1) := by decide +kernel
theorem dX12_goes_74 : decode cX12_goes 74 = .ok (.aaload, 1) := by decide +kernel
theorem dX12_goes_75 : decode cX12_goes 75 = .ok (.iconst 4, 1) := by decide +kernel
theorem dX12_goes_76 : decode cX12_goes 76 = .ok (.iaload, 1) := by decide +kernel
theorem dX12_goes_77 : decode cX12_goes 77 = .ok (.invokevirtual 310, 3) := by decide +kernel
theorem dX12_goes_80 : decode cX12_goes 80 = .ok (.iinc 4 1, 3) := by decide +kernel
theorem dX12_goes_83 : decode cX12_goes 83 = .ok (.goto (-41), 3) := by decide +kernel
theorem dX12_goes_86 : decode cX12_goes 86 = .ok (.goto 57, 3) := by decide +kernel
theorem dX12_goes_89 : decode cX12_goes 89 = .ok (.aload_n 0, 1) := by decide +kernel
theorem dX12_goes_90 : decode cX12_goes 90 = .ok (.aload_n 0, 1) := by decide +kernel
theorem dX12_goes_91 : decode cX12_goes 91 = .ok (.getfield 79, 3) := by decide +kernel
theorem dX12_goes_94 : decode cX12_goes 94 = .ok (.aload_n 0, 1) := by decide +kernel
theorem dX12_goes_95 : decode cX12_goes 95 = .ok (.getfield 76, 3) := by decide +kernel
theorem dX12_goes_98 : decode cX12_goes 98 = .ok (.iload_n 3, 1) := by decide +kernel
theorem dX12_goes_99 : decode cX12_goes 99 = .ok (.aaload, 1) := by decide +kernel
theorem dX12_goes_100 : decode cX12_goes 100 = .ok (.invokevirtual 313, 3) := by decide +kernel
theorem dX12_goes_103 : decode cX12_goes 103 = .ok (.istore 4, 2) := by decide +kernel
theorem dX12_goes_105 : decode cX12_goes 105 = .ok (.aload_n 0, 1) := by decide +kernel
theorem dX12_goes_106 : decode cX12_goes 106 = .ok (.dup, 1) := by decide +kernel
theorem dX12_goes_107 : decode cX12_goes 107 = .ok (.getfield 317, 3) := by decide +kernel
theorem dX12_goes_110 : decode cX12_goes 110 = .ok (.iload 4, 2) := by decide +kernel
theorem dX12_goes_112 : decode cX12_goes 112 = .ok (.ifCond .eq 7, 3) := by decide +kernel
theorem dX12_goes_115 : decode cX12_goes 115 = .ok (.iconst 1, 1) := by decide +kernel
theorem dX12_goes_116 : decode cX12_goes 116 = .ok (.goto 4, 3) := by decide +kernel
theorem dX12_goes_119 : decode cX12_goes 119 = .ok (.iconst 0, 1) := by decide +kernel
theorem dX12_goes_120 : decode cX12_goes 120 = .ok (.iadd, 1) := by decide +kernel
theorem dX12_goes_121 : decode cX12_goes 121 = .ok (.putfield 317, 3) := by decide +kernel
theorem dX12_goes_124 : decode cX12_goes 124 = .ok (.aload_n 0, 1) := by decide +kernel
theorem dX12_goes_125 : decode cX12_goes 125 = .ok (.dup, 1) := by decide +kernel
theorem dX12_goes_126 : decode cX12_goes 126 = .ok (.getfield 222, 3) := by decide +kernel
theorem dX12_goes_129 : decode cX12_goes 129 = .ok (.iload 4, 2) := by decide +kernel
theorem dX12_goes_131 : decode cX12_goes 131 = .ok (.ifCond .eq 7, 3) := by decide +kernel
theorem dX12_goes_134 : decode cX12_goes 134 = .ok (.iconst 0, 1) := by decide +kernel
theorem dX12_goes_135 : decode cX12_goes 135 = .ok (.goto 4, 3) := by decide +kernel
theorem dX12_goes_138 : decode cX12_goes 138 = .ok (.iconst 1, 1) := by decide +kernel
theorem dX12_goes_139 : decode cX12_goes 139 = .ok (.iadd, 1) := by decide +kernel
theorem dX12_goes_140 : decode cX12_goes 140 = .ok (.putfield 222, 3) := by decide +kernel
theorem dX12_goes_143 : decode cX12_goes 143 = .ok (.aload_n 0, 1) := by decide +kernel
theorem dX12_goes_144 : decode cX12_goes 144 = .ok (.getfield 76, 3) := by decide +kernel
theorem dX12_goes_147 : decode cX12_goes 147 = .ok (.iload_n 3, 1) := by decide +kernel
theorem dX12_goes_148 : decode cX12_goes 148 = .ok (.aaload, 1) := by decide +kernel
theorem dX12_goes_149 : decode cX12_goes 149 = .ok (.iconst 4, 1) := by decide +kernel
theorem dX12_goes_150 : decode cX12_goes 150 = .ok (.iaload, 1) := by decide +kernel
theorem dX12_goes_151 : decode cX12_goes 151 = .ok (.istore_n 3, 1) := by decide +kernel
theorem dX12_goes_152 : decode cX12_goes 152 = .ok (.goto (-150), 3) := by decide +kernel
theorem dX12_goes_155 : decode cX12_goes 155 = .ok (.return_, 1) := by decide +kernel
theorem dX12_work_0 : decode cX12_work 0 = .ok (.aload_n 0, 1) := by decide +kernel
theorem dX12_work_1 : decode cX12_work 1 = .ok (.iconst 0, 1) := by decide +kernel
theorem dX12_work_2 : decode cX12_work 2 = .ok (.putfield 116, 3) := by decide +kernel
theorem dX12_work_5 : decode cX12_work 5 = .ok (.aload_n 0, 1) := by decide +kernel
theorem dX12_work_6 : decode cX12_work 6 = .ok (.iload_n 1, 1) := by decide +kernel
theorem dX12_work_7 : decode cX12_work 7 = .ok (.iconst 0, 1) := by decide +kernel
theorem dX12_work_8 : decode cX12_work 8 = .ok (.aload_n 0, 1) := by decide +kernel
theorem dX12_work_9 : decode cX12_work 9 = .ok (.getfield 119, 3) := by decide +kernel
theorem dX12_work_12 : decode cX12_work 12 = .ok (.invokestatic 150, 3) := by decide +kernel
theorem dX12_work_15 : decode cX12_work 15 = .ok (.ifCond .eq 10, 3) := by decide +kernel
theorem dX12_work_18 : decode cX12_work 18 = .ok (.iload_n 1, 1) := by decide +kernel
theorem dX12_work_19 : decode cX12_work 19 = .ok (.sipush 150, 3) := by decide +kernel
theorem dX12_work_22 : decode cX12_work 22 = .ok (.if_icmp .le 7, 3) := by decide +kernel
theorem dX12_work_25 : decode cX12_work 25 = .ok (.iconst 1, 1) := by decide +kernel
theorem dX12_work_26 : decode cX12_work 26 = .ok (.goto 4, 3) := by decide +kernel
theorem dX12_work_29 : decode cX12_work 29 = .ok (.iconst 0, 1) := by decide +kernel
theorem dX12_work_30 : decode cX12_work 30 = .ok (.iconst 1, 1) := by decide +kernel
theorem dX12_work_31 : decode cX12_work 31 = .ok (.iconst 1, 1) := by decide +kernel
theorem dX12_work_32 : decode cX12_work 32 = .ok (.invokevirtual 192, 3) := by decide +kernel
theorem dX12_work_35 : decode cX12_work 35 = .ok (.ifCond .eq 5, 3) := by decide +kernel
theorem dX12_work_38 : decode cX12_work 38 = .ok (.iconst 0, 1) := by decide +kernel
theorem dX12_work_39 : decode cX12_work 39 = .ok (.ireturn, 1) := by decide +kernel
theorem dX12_work_40 : decode cX12_work 40 = .ok (.aload_n 0, 1) := by decide +kernel
theorem dX12_work_41 : decode cX12_work 41 = .ok (.getfield 219, 3) := by decide +kernel
theorem dX12_work_44 : decode cX12_work 44 = .ok (.bipush 16, 2) := by decide +kernel
theorem dX12_work_46 : decode cX12_work 46 = .ok (.if_icmp .ne 16, 3) := by decide +kernel
theorem dX12_work_49 : decode cX12_work 49 = .ok (.aload_n 0, 1) := by decide +kernel
theorem dX12_work_50 : decode cX12_work 50 = .ok (.iconst 0, 1) := by decide +kernel
theorem dX12_work_51 : decode cX12_work 51 = .ok (.putfield 119, 3) := by decide +kernel
theorem dX12_work_54 : decode cX12_work 54 = .ok (.aload_n 0, 1) := by decide +kernel
theorem dX12_work_55 : decode cX12_work 55 = .ok (.iconst (-1), 1) := by decide +kernel
theorem dX12_work_56 : decode cX12_work 56 = .ok (.putfield 9, 3) := by decide +kernel
theorem dX12_work_59 : decode cX12_work 59 = .ok (.bipush (-20), 2) := by decide +kernel
theorem dX12_work_61 : decode cX12_work 61 = .ok (.ireturn, 1) := by decide +kernel
theorem dX12_work_62 : decode cX12_work 62 = .ok (.aload_n 0, 1) := by decide +kernel
theorem dX12_work_63 : decode cX12_work 63 = .ok (.iload_n 1, 1) := by decide +kernel
theorem dX12_work_64 : decode cX12_work 64 = .ok (.invokevirtual 196, 3) := by decide +kernel
theorem dX12_work_67 : decode cX12_work 67 = .ok (.aload_n 0, 1) := by decide +kernel
theorem dX12_work_68 : decode cX12_work 68 = .ok (.iconst 0, 1) := by decide +kernel
theorem dX12_work_69 : decode cX12_work 69 = .ok (.putfield 272, 3) := by decide +kernel
theorem dX12_work_72 : decode cX12_work 72 = .ok (.aload_n 0, 1) := by decide +kernel
theorem dX12_work_73 : decode cX12_work 73 = .ok (.getfield 132, 3) := by decide +kernel
theorem dX12_work_76 : decode cX12_work 76 = .ok (.ifCond .ne 25, 3) := by decide +kernel
theorem dX12_work_79 : decode cX12_work 79 = .ok (.aload_n 0, 1) := by decide +kernel
theorem dX12_work_80 : decode cX12_work 80 = .ok (.getfield 125, 3) := by decide +kernel
theorem dX12_work_83 : decode cX12_work 83 = .ok (.aload_n 0, 1) := by decide +kernel
theorem dX12_work_84 : decode cX12_work 84 = .ok (.getfield 122, 3) := by decide +kernel
theorem dX12_work_87 : decode cX12_work 87 = .ok (.if_icmp .ge 14, 3) := by decide +kernel
theorem dX12_work_90 : decode cX12_work 90 = .ok (.aload_n 0, 1) := by decide +kernel
theorem dX12_work_91 : decode cX12_work 91 = .ok (.invokevirtual 275, 3) := by decide +kernel
theorem dX12_work_94 : decode cX12_work 94 = .ok (.aload_n 0, 1) := by decide +kernel
theorem dX12_work_95 : decode cX12_work 95 = .ok (.invokevirtual 138, 3) := by decide +kernel
theorem dX12_work_98 : decode cX12_work 98 = .ok (.goto (-26), 3) := by decide +kernel
theorem dX12_work_101 : decode cX12_work 101 = .ok (.aload_n 0, 1) := by decide +kernel
theorem dX12_work_102 : decode cX12_work 102 = .ok (.getfield 132, 3) := by decide +kernel
theorem dX12_work_105 : decode cX12_work 105 = .ok (.ifCond .eq 8, 3) := by decide +kernel
theorem dX12_work_108 : decode cX12_work 108 = .ok (.aload_n 0, 1) := by decide +kernel
theorem dX12_work_109 : decode cX12_work 109 = .ok (.invokevirtual 202, 3) := by decide +kernel
theorem dX12_work_112 : decode cX12_work 112 = .ok (.ireturn, 1) := by decide +kernel
theorem dX12_work_113 : decode cX12_work 113 = .ok (.aload_n 0, 1) := by decide +kernel
theorem dX12_work_114 : decode cX12_work 114 = .ok (.iconst (-1), 1) := by decide +kernel
theorem dX12_work_115 : decode cX12_work 115 = .ok (.putfield 9, 3) := by decide +kernel
theorem dX12_work_118 : decode cX12_work 118 = .ok (.aload_n 0, 1) := by decide +kernel
theorem dX12_work_119 : decode cX12_work 119 = .ok (.getfield 79, 3) := by decide +kernel
theorem dX12_work_122 : decode cX12_work 122 = .ok (.aload_n 0, 1) := by decide +kernel
theorem dX12_work_123 : decode cX12_work 123 = .ok (.getfield 85, 3) := by decide +kernel
theorem dX12_work_126 : decode cX12_work 126 = .ok (.aload_n 0, 1) := by decide +kernel
theorem dX12_work_127 : decode cX12_work 127 = .ok (.getfield 219, 3) := by decide +kernel
theorem dX12_work_130 : decode cX12_work 130 = .ok (.aaload, 1) := by decide +kernel
theorem dX12_work_131 : decode cX12_work 131 = .ok (.invokestatic 320, 3) := by decide +kernel
theorem dX12_work_134 : decode cX12_work 134 = .ok (.aload_n 0, 1) := by decide +kernel
theorem dX12_work_135 : decode cX12_work 135 = .ok (.dup, 1) := by decide +kernel
theorem dX12_work_136 : decode cX12_work 136 = .ok (.getfield 219, 3) := by decide +kernel
theorem dX12_work_139 : decode cX12_work 139 = .ok (.iconst 1, 1) := by decide +kernel
theorem dX12_work_140 : decode cX12_work 140 = .ok (.iadd, 1) := by decide +kernel
theorem dX12_work_141 : decode cX12_work 141 = .ok (.putfield 219, 3) := by decide +kernel
theorem dX12_work_144 : decode cX12_work 144 = .ok (.aload_n 0, 1) := by decide +kernel
theorem dX12_work_145 : decode cX12_work 145 = .ok (.iconst 0, 1) := by decide +kernel
theorem dX12_work_146 : decode cX12_work 146 = .ok (.putfield 307, 3) := by decide +kernel
theorem dX12_work_149 : decode cX12_work 149 = .ok (.aload_n 0, 1) := by decide +kernel
theorem dX12_work_150 : decode cX12_work 150 = .ok (.iconst 0, 1) := by decide +kernel
theorem dX12_work_151 : decode cX12_work 151 = .ok (.putfield 317, 3) := by decide +kernel
theorem dX12_work_154 : decode cX12_work 154 = .ok (.aload_n 0, 1) := by decide +kernel
theorem dX12_work_155 : decode cX12_work 155 = .ok (.iconst 0, 1) := by decide +kernel
theorem dX12_work_156 : decode cX12_work 156 = .ok (.putfield 222, 3) := by decide +kernel
theorem dX12_work_159 : decode cX12_work 159 = .ok (.aload_n 0, 1) := by decide +kernel
theorem dX12_work_160 : decode cX12_work 160 = .ok (.iconst 0, 1) := by decide +kernel
theorem dX12_work_161 : decode cX12_work 161 = .ok (.aload_n 0, 1) := by decide +kernel
theorem dX12_work_162 : decode cX12_work 162 = .ok (.getfield 272, 3) := by decide +kernel
theorem dX12_work_165 : decode cX12_work 165 = .ok (.invokevirtual 310, 3) := by decide +kernel
theorem dX12_work_168 : decode cX12_work 168 = .ok (.aload_n 0, 1) := by decide +kernel
theorem dX12_work_169 : decode cX12_work 169 = .ok (.getfield 317, 3) := by decide +kernel
theorem dX12_work_172 : decode cX12_work 172 = .ok (.ireturn, 1) := by decide +kernel
theorem dX12_undo_0 : decode cX12_undo 0 = .ok (.aload_n 0, 1) := by decide +kernel
theorem dX12_undo_1 : decode cX12_undo 1 = .ok (.iconst 0, 1) := by decide +kernel
theorem dX12_undo_2 : decode cX12_undo 2 = .ok (.putfield 116, 3) := by decide +kernel
theorem dX12_undo_5 : decode cX12_undo 5 = .ok (.aload_n 0, 1) := by decide +kernel
theorem dX12_undo_6 : decode cX12_undo 6 = .ok (.getfield 219, 3) := by decide +kernel
theorem dX12_undo_9 : decode cX12_undo 9 = .ok (.ifCond .ne 5, 3) := by decide +kernel
theorem dX12_undo_12 : decode cX12_undo 12 = .ok (.iconst (-1), 1) := by decide +kernel
theorem dX12_undo_13 : decode cX12_undo 13 = .ok (.ireturn, 1) := by decide +kernel
theorem dX12_undo_14 : decode cX12_undo 14 = .ok (.aload_n 0, 1) := by decide +kernel
theorem dX12_undo_15 : decode cX12_undo 15 = .ok (.dup, 1) := by decide +kernel
theorem dX12_undo_16 : decode cX12_undo 16 = .ok (.getfield 219, 3) := by decide +kernel
theorem dX12_undo_19 : decode cX12_undo 19 = .ok (.iconst 1, 1) := by decide +kernel
theorem dX12_undo_20 : decode cX12_undo 20 = .ok (.isub, 1) := by decide +kernel
theorem dX12_undo_21 : decode cX12_undo 21 = .ok (.putfield 219, 3) := by decide +kernel
theorem dX12_undo_24 : decode cX12_undo 24 = .ok (.aload_n 0, 1) := by decide +kernel
theorem dX12_undo_25 : decode cX12_undo 25 = .ok (.getfield 85, 3) := by decide +kernel
theorem dX12_undo_28 : decode cX12_undo 28 = .ok (.aload_n 0, 1) := by decide +kernel
theorem dX12_undo_29 : decode cX12_undo 29 = .ok (.getfield 219, 3) := by decide +kernel
theorem dX12_undo_32 : decode cX12_undo 32 = .ok (.aaload, 1) := by decide +kernel
theorem dX12_undo_33 : decode cX12_undo 33 = .ok (.aload_n 0, 1) := by decide +kernel
theorem dX12_undo_34 : decode cX12_undo 34 = .ok (.getfield 79, 3) := by decide +kernel
theorem dX12_undo_37 : decode cX12_undo 37 = .ok (.invokestatic 320, 3) := by decide +kernel
theorem dX12_undo_40 : decode cX12_undo 40 = .ok (.aload_n 0, 1) := by decide +kernel
theorem dX12_undo_41 : decode cX12_undo 41 = .ok (.iconst 0, 1) := by decide +kernel
theorem dX12_undo_42 : decode cX12_undo 42 = .ok (.putfield 222, 3) := by decide +kernel
theorem dX12_undo_45 : decode cX12_undo 45 = .ok (.aload_n 0, 1) := by decide +kernel
theorem dX12_undo_46 : decode cX12_undo 46 = .ok (.getfield 219, 3) := by decide +kernel
theorem dX12_undo_49 : decode cX12_undo 49 = .ok (.ireturn, 1) := by decide +kernel
theorem dX12_forceBy_0 : decode cX12_forceBy 0 = .ok (.aload_n 0, 1) := by decide +kernel
theorem dX12_forceBy_1 : decode cX12_forceBy 1 = .ok (.getfield 73, 3) := by decide +kernel
theorem dX12_forceBy_4 : decode cX12_forceBy 4 = .ok (.iconst 0, 1) := by decide +kernel
theorem dX12_forceBy_5 : decode cX12_forceBy 5 = .ok (.iload_n 1, 1) := by decide +kernel
theorem dX12_forceBy_6 : decode cX12_forceBy 6 = .ok (.iastore, 1) := by decide +kernel
theorem dX12_forceBy_7 : decode cX12_forceBy 7 = .ok (.aload_n 0, 1) := by decide +kernel
theorem dX12_forceBy_8 : decode cX12_forceBy 8 = .ok (.getfield 73, 3) := by decide +kernel
theorem dX12_forceBy_11 : decode cX12_forceBy 11 = .ok (.iconst 1, 1) := by decide +kernel
theorem dX12_forceBy_12 : decode cX12_forceBy 12 = .ok (.iload_n 2, 1) := by decide +kernel
theorem dX12_forceBy_13 : decode cX12_forceBy 13 = .ok (.iastore, 1) := by decide +kernel
theorem dX12_forceBy_14 : decode cX12_forceBy 14 = .ok (.aload_n 0, 1) := by decide +kernel
theorem dX12_forceBy_15 : decode cX12_forceBy 15 = .ok (.getfield 73, 3) := by decide +kernel
theorem dX12_forceBy_18 : decode cX12_forceBy 18 = .ok (.iconst 2, 1) := by decide +kernel
theorem dX12_forceBy_19 : decode cX12_forceBy 19 = .ok (.iload_n 3, 1) := by decide +kernel
theorem dX12_forceBy_20 : decode cX12_forceBy 20 = .ok (.iastore, 1) := by decide +kernel
theorem dX12_forceBy_21 : decode cX12_forceBy 21 = .ok (.aload_n 0, 1) := by decide +kernel
theorem dX12_forceBy_22 : decode cX12_forceBy 22 = .ok (.getfield 73, 3) := by decide +kernel
theorem dX12_forceBy_25 : decode cX12_forceBy 25 = .ok (.iconst 3, 1) := by decide +kernel
theorem dX12_forceBy_26 : decode cX12_forceBy 26 = .ok (.iload 4, 2) := by decide +kernel
theorem dX12_forceBy_28 : decode cX12_forceBy 28 = .ok (.iastore, 1) := by decide +kernel
theorem dX12_forceBy_29 : decode cX12_forceBy 29 = .ok (.aload_n 0, 1) := by decide +kernel
theorem dX12_forceBy_30 : decode cX12_forceBy 30 = .ok (.getfield 73, 3) := by decide +kernel
theorem dX12_forceBy_33 : decode cX12_forceBy 33 = .ok (.iconst 4, 1) := by decide +kernel
theorem dX12_forceBy_34 : decode cX12_forceBy 34 = .ok (.iload 5, 2) := by decide +kernel
theorem dX12_forceBy_36 : decode cX12_forceBy 36 = .ok (.iastore, 1) := by decide +kernel
theorem dX12_forceBy_37 : decode cX12_forceBy 37 = .ok (.aload_n 0, 1) := by decide +kernel
theorem dX12_forceBy_38 : decode cX12_forceBy 38 = .ok (.getfield 73, 3) := by decide +kernel
theorem dX12_forceBy_41 : decode cX12_forceBy 41 = .ok (.iconst 5, 1) := by decide +kernel
theorem dX12_forceBy_42 : decode cX12_forceBy 42 = .ok (.iload 6, 2) := by decide +kernel
theorem dX12_forceBy_44 : decode cX12_forceBy 44 = .ok (.iastore, 1) := by decide +kernel
theorem dX12_forceBy_45 : decode cX12_forceBy 45 = .ok (.aload_n 0, 1) := by decide +kernel
theorem dX12_forceBy_46 : decode cX12_forceBy 46 = .ok (.getfield 73, 3) := by decide +kernel
theorem dX12_forceBy_49 : decode cX12_forceBy 49 = .ok (.bipush 6, 2) := by decide +kernel
theorem dX12_forceBy_51 : decode cX12_forceBy 51 = .ok (.iload 7, 2) := by decide +kernel
theorem dX12_forceBy_53 : decode cX12_forceBy 53 = .ok (.iastore, 1) := by decide +kernel
theorem dX12_forceBy_54 : decode cX12_forceBy 54 = .ok (.aload_n 0, 1) := by decide +kernel
theorem dX12_forceBy_55 : decode cX12_forceBy 55 = .ok (.getfield 73, 3) := by decide +kernel
theorem dX12_forceBy_58 : decode cX12_forceBy 58 = .ok (.bipush 7, 2) := by decide +kernel
theorem dX12_forceBy_60 : decode cX12_forceBy 60 = .ok (.iload 8, 2) := by decide +kernel
theorem dX12_forceBy_62 : decode cX12_forceBy 62 = .ok (.iastore, 1) := by decide +kernel
theorem dX12_forceBy_63 : decode cX12_forceBy 63 = .ok (.aload_n 0, 1) := by decide +kernel
theorem dX12_forceBy_64 : decode cX12_forceBy 64 = .ok (.invokevirtual 324, 3) := by decide +kernel
theorem dX12_forceBy_67 : decode cX12_forceBy 67 = .ok (.ireturn, 1) := by decide +kernel
theorem dX12_forceOf_0 : decode cX12_forceOf 0 = .ok (.aload_n 0, 1) := by decide +kernel
theorem dX12_forceOf_1 : decode cX12_forceOf 1 = .ok (.getfield 79, 3) := by decide +kernel
theorem dX12_forceOf_4 : decode cX12_forceOf 4 = .ok (.iload_n 1, 1) := by decide +kernel
theorem dX12_forceOf_5 : decode cX12_forceOf 5 = .ok (.iconst 2, 1) := by decide +kernel
theorem dX12_forceOf_6 : decode cX12_forceOf 6 = .ok (.invokestatic 282, 3) := by decide +kernel
theorem dX12_forceOf_9 : decode cX12_forceOf 9 = .ok (.istore_n 2, 1) := by decide +kernel
theorem dX12_forceOf_10 : decode cX12_forceOf 10 = .ok (.aload_n 0, 1) := by decide +kernel
theorem dX12_forceOf_11 : decode cX12_forceOf 11 = .ok (.getfield 79, 3) := by decide +kernel
theorem dX12_forceOf_14 : decode cX12_forceOf 14 = .ok (.iload_n 1, 1) := by decide +kernel
theorem dX12_forceOf_15 : decode cX12_forceOf 15 = .ok (.iconst 3, 1) := by decide +kernel
theorem dX12_forceOf_16 : decode cX12_forceOf 16 = .ok (.invokestatic 282, 3) := by decide +kernel
theorem dX12_forceOf_19 : decode cX12_forceOf 19 = .ok (.istore_n 3, 1) := by decide +kernel
theorem dX12_forceOf_20 : decode cX12_forceOf 20 = .ok (.iconst 0, 1) := by decide +kernel
theorem dX12_forceOf_21 : decode cX12_forceOf 21 = .ok (.istore 4, 2) := by decide +kernel
theorem dX12_forceOf_23 : decode cX12_forceOf 23 = .ok (.iconst 0, 1) := by decide +kernel
theorem dX12_forceOf_24 : decode cX12_forceOf 24 = .ok (.istore 5, 2) := by decide +kernel
theorem dX12_forceOf_26 : decode cX12_forceOf 26 = .ok (.iload 5, 2) := by decide +kernel
theorem dX12_forceOf_28 : decode cX12_forceOf 28 = .ok (.iload_n 1, 1) := by decide +kernel
theorem dX12_forceOf_29 : decode cX12_forceOf 29 = .ok (.if_icmp .ge 33, 3) := by decide +kernel
theorem dX12_forceOf_32 : decode cX12_forceOf 32 = .ok (.iload 4, 2) := by decide +kernel
theorem dX12_forceOf_34 : decode cX12_forceOf 34 = .ok (.aload_n 0, 1) := by decide +kernel
theorem dX12_forceOf_35 : decode cX12_forceOf 35 = .ok (.getfield 79, 3) := by decide +kernel
theorem dX12_forceOf_38 : decode cX12_forceOf 38 = .ok (.iload 5, 2) := by decide +kernel
theorem dX12_forceOf_40 : decode cX12_forceOf 40 = .ok (.iconst 2, 1) := by decide +kernel
theorem dX12_forceOf_41 : decode cX12_forceOf 41 = .ok (.invokestatic 282, 3) := by decide +kernel
theorem dX12_forceOf_44 : decode cX12_forceOf 44 = .ok (.iload_n 2, 1) := by decide +kernel
theorem dX12_forceOf_45 : decode cX12_forceOf 45 = .ok (.if_icmp .ne 7, 3) := by decide +kernel
theorem dX12_forceOf_48 : decode cX12_forceOf 48 = .ok (.iconst 1, 1) := by decide +kernel
theorem dX12_forceOf_49 : decode cX12_forceOf 49 = .ok (.goto 4, 3) := by decide +kernel
theorem dX12_forceOf_52 : decode cX12_forceOf 52 = .ok (.iconst 0, 1) := by decide +kernel
theorem dX12_forceOf_53 : decode cX12_forceOf 53 = .ok (.iadd, 1) := by decide +kernel
theorem dX12_forceOf_54 : decode cX12_forceOf 54 = .ok (.istore 4, 2) := by decide +kernel
theorem dX12_forceOf_56 : decode cX12_forceOf 56 = .ok (.iinc 5 1, 3) := by decide +kernel
theorem dX12_forceOf_59 : decode cX12_forceOf 59 = .ok (.goto (-33), 3) := by decide +kernel
theorem dX12_forceOf_62 : decode cX12_forceOf 62 = .ok (.aload_n 0, 1) := by decide +kernel
theorem dX12_forceOf_63 : decode cX12_forceOf 63 = .ok (.iload_n 2, 1) := by decide +kernel
theorem dX12_forceOf_64 : decode cX12_forceOf 64 = .ok (.aload_n 0, 1) := by decide +kernel
theorem dX12_forceOf_65 : decode cX12_forceOf 65 = .ok (.getfield 49, 3) := by decide +kernel
theorem dX12_forceOf_68 : decode cX12_forceOf 68 = .ok (.aload_n 0, 1) := by decide +kernel
theorem dX12_forceOf_69 : decode cX12_forceOf 69 = .ok (.getfield 79, 3) := by decide +kernel
theorem dX12_forceOf_72 : decode cX12_forceOf 72 = .ok (.iload_n 1, 1) := by decide +kernel
theorem dX12_forceOf_73 : decode cX12_forceOf 73 = .ok (.iconst 0, 1) := by decide +kernel
theorem dX12_forceOf_74 : decode cX12_forceOf 74 = .ok (.invokestatic 282, 3) := by decide +kernel
theorem dX12_forceOf_77 : decode cX12_forceOf 77 = .ok (.aaload, 1) := by decide +kernel
theorem dX12_forceOf_78 : decode cX12_forceOf 78 = .ok (.iconst 1, 1) := by decide +kernel
theorem dX12_forceOf_79 : decode cX12_forceOf 79 = .ok (.iaload, 1) := by decide +kernel
theorem dX12_forceOf_80 : decode cX12_forceOf 80 = .ok (.iload 4, 2) := by decide +kernel
theorem dX12_forceOf_82 : decode cX12_forceOf 82 = .ok (.iload_n 3, 1) := by decide +kernel
theorem dX12_forceOf_83 : decode cX12_forceOf 83 = .ok (.aload_n 0, 1) := by decide +kernel
theorem dX12_forceOf_84 : decode cX12_forceOf 84 = .ok (.getfield 79, 3) := by decide +kernel
theorem dX12_forceOf_87 : decode cX12_forceOf 87 = .ok (.iload_n 1, 1) := by decide +kernel
theorem dX12_forceOf_88 : decode cX12_forceOf 88 = .ok (.iconst 1, 1) := by decide +kernel
theorem dX12_forceOf_89 : decode cX12_forceOf 89 = .ok (.invokestatic 282, 3) := by decide +kernel
theorem dX12_forceOf_92 : decode cX12_forceOf 92 = .ok (.aload_n 0, 1) := by decide +kernel
theorem dX12_forceOf_93 : decode cX12_forceOf 93 = .ok (.getfield 79, 3) := by decide +kernel
theorem dX12_forceOf_96 : decode cX12_forceOf 96 = .ok (.bipush 22, 2) := by decide +kernel
theorem dX12_forceOf_98 : decode cX12_forceOf 98 = .ok (.iaload, 1) := by decide +kernel
theorem dX12_forceOf_99 : decode cX12_forceOf 99 = .ok (.aload_n 0, 1) := by decide +kernel
theorem dX12_forceOf_100 : decode cX12_forceOf 100 = .ok (.getfield 55, 3) := by decide +kernel
theorem dX12_forceOf_103 : decode cX12_forceOf 103 = .ok (.iload_n 3, 1) := by decide +kernel
theorem dX12_forceOf_104 : decode cX12_forceOf 104 = .ok (.aaload, 1) := by decide +kernel
theorem dX12_forceOf_105 : decode cX12_forceOf 105 = .ok (.iconst 0, 1) := by decide +kernel
theorem dX12_forceOf_106 : decode cX12_forceOf 106 = .ok (.iaload, 1) := by decide +kernel
theorem dX12_forceOf_107 : decode cX12_forceOf 107 = .ok (.iload_n 1, 1) := by decide +kernel
theorem dX12_forceOf_108 : decode cX12_forceOf 108 = .ok (.invokevirtual 327, 3) := by decide +kernel
theorem dX12_forceOf_111 : decode cX12_forceOf 111 = .ok (.ireturn, 1) := by decide +kernel
theorem dX12_ruling_0 : decode cX12_ruling 0 = .ok (.iconst (-1), 1) := by decide +kernel
theorem dX12_ruling_1 : decode cX12_ruling 1 = .ok (.istore_n 2, 1) := by decide +kernel
theorem dX12_ruling_2 : decode cX12_ruling 2 = .ok (.iconst 0, 1) := by decide +kernel
theorem dX12_ruling_3 : decode cX12_ruling 3 = .ok (.istore_n 3, 1) := by decide +kernel
theorem dX12_ruling_4 : decode cX12_ruling 4 = .ok (.iconst 0, 1) := by decide +kernel
theorem dX12_ruling_5 : decode cX12_ruling 5 = .ok (.istore 4, 2) := by decide +kernel
theorem dX12_ruling_7 : decode cX12_ruling 7 = .ok (.iload 4, 2) := by decide +kernel
theorem dX12_ruling_9 : decode cX12_ruling 9 = .ok (.aload_n 0, 1) := by decide +kernel
theorem dX12_ruling_10 : decode cX12_ruling 10 = .ok (.getfield 79, 3) := by decide +kernel
theorem dX12_ruling_13 : decode cX12_ruling 13 = .ok (.bipush 23, 2) := by decide +kernel
theorem dX12_ruling_15 : decode cX12_ruling 15 = .ok (.iaload, 1) := by decide +kernel
theorem dX12_ruling_16 : decode cX12_ruling 16 = .ok (.if_icmp .ge 51, 3) := by decide +kernel
theorem dX12_ruling_19 : decode cX12_ruling 19 = .ok (.aload_n 0, 1) := by decide +kernel
theorem dX12_ruling_20 : decode cX12_ruling 20 = .ok (.getfield 79, 3) := by decide +kernel
theorem dX12_ruling_23 : decode cX12_ruling 23 = .ok (.iload 4, 2) := by decide +kernel
theorem dX12_ruling_25 : decode cX12_ruling 25 = .ok (.iconst 1, 1) := by decide +kernel
theorem dX12_ruling_26 : decode cX12_ruling 26 = .ok (.invokestatic 282, 3) := by decide +kernel
theorem dX12_ruling_29 : decode cX12_ruling 29 = .ok (.iconst 2, 1) := by decide +kernel
theorem dX12_ruling_30 : decode cX12_ruling 30 = .ok (.idiv, 1) := by decide +kernel
theorem dX12_ruling_31 : decode cX12_ruling 31 = .ok (.iload_n 1, 1) := by decide +kernel
theorem dX12_ruling_32 : decode cX12_ruling 32 = .ok (.if_icmp .eq 6, 3) := by decide +kernel
theorem dX12_ruling_35 : decode cX12_ruling 35 = .ok (.goto 26, 3) := by decide +kernel
theorem dX12_ruling_38 : decode cX12_ruling 38 = .ok (.aload_n 0, 1) := by decide +kernel
theorem dX12_ruling_39 : decode cX12_ruling 39 = .ok (.iload 4, 2) := by decide +kernel
theorem dX12_ruling_41 : decode cX12_ruling 41 = .ok (.invokevirtual 331, 3) := by decide +kernel
theorem dX12_ruling_44 : decode cX12_ruling 44 = .ok (.istore 5, 2) := by decide +kernel
theorem dX12_ruling_46 : decode cX12_ruling 46 = .ok (.iload 5, 2) := by decide +kernel
theorem dX12_ruling_48 : decode cX12_ruling 48 = .ok (.iload_n 3, 1) := by decide +kernel
theorem dX12_ruling_49 : decode cX12_ruling 49 = .ok (.if_icmp .gt 6, 3) := by decide +kernel
theorem dX12_ruling_52 : decode cX12_ruling 52 = .ok (.goto 9, 3) := by decide +kernel
theorem dX12_ruling_55 : decode cX12_ruling 55 = .ok (.iload 4, 2) := by decide +kernel
theorem dX12_ruling_57 : decode cX12_ruling 57 = .ok (.istore_n 2, 1) := by decide +kernel
theorem dX12_ruling_58 : decode cX12_ruling 58 = .ok (.iload 5, 2) := by decide +kernel
theorem dX12_ruling_60 : decode cX12_ruling 60 = .ok (.istore_n 3, 1) := by decide +kernel
theorem dX12_ruling_61 : decode cX12_ruling 61 = .ok (.iinc 4 1, 3) := by decide +kernel
theorem dX12_ruling_64 : decode cX12_ruling 64 = .ok (.goto (-57), 3) := by decide +kernel
theorem dX12_ruling_67 : decode cX12_ruling 67 = .ok (.iload_n 2, 1) := by decide +kernel
theorem dX12_ruling_68 : decode cX12_ruling 68 = .ok (.ireturn, 1) := by decide +kernel
theorem dX12_lettersFrom_0 : decode cX12_lettersFrom 0 = .ok (.iconst 0, 1) := by decide +kernel
theorem dX12_lettersFrom_1 : decode cX12_lettersFrom 1 = .ok (.istore_n 2, 1) := by decide +kernel
theorem dX12_lettersFrom_2 : decode cX12_lettersFrom 2 = .ok (.iconst 0, 1) := by decide +kernel
theorem dX12_lettersFrom_3 : decode cX12_lettersFrom 3 = .ok (.istore_n 3, 1) := by decide +kernel
theorem dX12_lettersFrom_4 : decode cX12_lettersFrom 4 = .ok (.iload_n 3, 1) := by decide +kernel
theorem dX12_lettersFrom_5 : decode cX12_lettersFrom 5 = .ok (.aload_n 0, 1) := by decide +kernel
theorem dX12_lettersFrom_6 : decode cX12_lettersFrom 6 = .ok (.getfield 79, 3) := by decide +kernel
theorem dX12_lettersFrom_9 : decode cX12_lettersFrom 9 = .ok (.bipush 23, 2) := by decide +kernel
theorem dX12_lettersFrom_11 : decode cX12_lettersFrom 11 = .ok (.iaload, 1) := by decide +kernel
theorem dX12_lettersFrom_12 : decode cX12_lettersFrom 12 = .ok (.if_icmp .ge 45, 3) := by decide +kernel
theorem dX12_lettersFrom_15 : decode cX12_lettersFrom 15 = .ok (.iload_n 2, 1) := by decide +kernel
theorem dX12_lettersFrom_16 : decode cX12_lettersFrom 16 = .ok (.aload_n 0, 1) := by decide +kernel
theorem dX12_lettersFrom_17 : decode cX12_lettersFrom 17 = .ok (.getfield 79, 3) := by decide +kernel
theorem dX12_lettersFrom_20 : decode cX12_lettersFrom 20 = .ok (.iload_n 3, 1) := by decide +kernel
theorem dX12_lettersFrom_21 : decode cX12_lettersFrom 21 = .ok (.iconst 2, 1) := by decide +kernel
theorem dX12_lettersFrom_22 : decode cX12_lettersFrom 22 = .ok (.invokestatic 282, 3) := by decide +kernel
theorem dX12_lettersFrom_25 : decode cX12_lettersFrom 25 = .ok (.iload_n 1, 1) := by decide +kernel
theorem dX12_lettersFrom_26 : decode cX12_lettersFrom 26 = .ok (.if_icmp .lt 22, 3) := by decide +kernel
theorem dX12_lettersFrom_29 : decode cX12_lettersFrom 29 = .ok (.aload_n 0, 1) := by decide +kernel
theorem dX12_lettersFrom_30 : decode cX12_lettersFrom 30 = .ok (.getfield 49, 3) := by decide +kernel
theorem dX12_lettersFrom_33 : decode cX12_lettersFrom 33 = .ok (.aload_n 0, 1) := by decide +kernel
theorem dX12_lettersFrom_34 : decode cX12_lettersFrom 34 = .ok (.getfield 79, 3) := by decide +kernel
theorem dX12_lettersFrom_37 : decode cX12_lettersFrom 37 = .ok (.iload_n 3, 1) := by decide +kernel
theorem dX12_lettersFrom_38 : decode cX12_lettersFrom 38 = .ok (.iconst 0, 1) := by decide +kernel
theorem dX12_lettersFrom_39 : decode cX12_lettersFrom 39 = .ok (.invokestatic 282, 3) := by decide +kernel
theorem dX12_lettersFrom_42 : decode cX12_lettersFrom 42 = .ok (.aaload, 1) := by decide +kernel
theorem dX12_lettersFrom_43 : decode cX12_lettersFrom 43 = .ok (.iconst 1, 1) := by decide +kernel
theorem dX12_lettersFrom_44 : decode cX12_lettersFrom 44 = .ok (.iaload, 1) := by decide +kernel
theorem dX12_lettersFrom_45 : decode cX12_lettersFrom 45 = .ok (.goto 4, 3) := by decide +kernel
theorem dX12_lettersFrom_48 : decode cX12_lettersFrom 48 = .ok (.iconst 0, 1) := by decide +kernel
theorem dX12_lettersFrom_49 : decode cX12_lettersFrom 49 = .ok (.iadd, 1) := by decide +kernel
theorem dX12_lettersFrom_50 : decode cX12_lettersFrom 50 = .ok (.istore_n 2, 1) := by decide +kernel
theorem dX12_lettersFrom_51 : decode cX12_lettersFrom 51 = .ok (.iinc 3 1, 3) := by decide +kernel
theorem dX12_lettersFrom_54 : decode cX12_lettersFrom 54 = .ok (.goto (-50), 3) := by decide +kernel
theorem dX12_lettersFrom_57 : decode cX12_lettersFrom 57 = .ok (.iload_n 2, 1) := by decide +kernel
theorem dX12_lettersFrom_58 : decode cX12_lettersFrom 58 = .ok (.ireturn, 1) := by decide +kernel
theorem dX12_told_0 : decode cX12_told 0 = .ok (.aload_n 0, 1) := by decide +kernel
theorem dX12_told_1 : decode cX12_told 1 = .ok (.iconst 0, 1) := by decide +kernel
theorem dX12_told_2 : decode cX12_told 2 = .ok (.putfield 116, 3) := by decide +kernel
theorem dX12_told_5 : decode cX12_told 5 = .ok (.aload_n 0, 1) := by decide +kernel
theorem dX12_told_6 : decode cX12_told 6 = .ok (.iload_n 1, 1) := by decide +kernel
theorem dX12_told_7 : decode cX12_told 7 = .ok (.iconst 0, 1) := by decide +kernel
theorem dX12_told_8 : decode cX12_told 8 = .ok (.bipush 9, 2) := by decide +kernel
theorem dX12_told_10 : decode cX12_told 10 = .ok (.invokestatic 150, 3) := by decide +kernel
theorem dX12_told_13 : decode cX12_told 13 = .ok (.ifCond .ne 7, 3) := by decide +kernel
theorem dX12_told_16 : decode cX12_told 16 = .ok (.iconst 1, 1) := by decide +kernel
theorem dX12_told_17 : decode cX12_told 17 = .ok (.goto 4, 3) := by decide +kernel
theorem dX12_told_20 : decode cX12_told 20 = .ok (.iconst 0, 1) := by decide +kernel
theorem dX12_told_21 : decode cX12_told 21 = .ok (.iconst 1, 1) := by decide +kernel
theorem dX12_told_22 : decode cX12_told 22 = .ok (.iconst 1, 1) := by decide +kernel
theorem dX12_told_23 : decode cX12_told 23 = .ok (.invokevirtual 192, 3) := by decide +kernel
theorem dX12_told_26 : decode cX12_told 26 = .ok (.ifCond .eq 5, 3) := by decide +kernel
theorem dX12_told_29 : decode cX12_told 29 = .ok (.iconst 0, 1) := by decide +kernel
theorem dX12_told_30 : decode cX12_told 30 = .ok (.ireturn, 1) := by decide +kernel
theorem dX12_told_31 : decode cX12_told 31 = .ok (.iload_n 1, 1) := by decide +kernel
theorem dX12_told_32 : decode cX12_told 32 = .ok (.tableswitch 139 0 8 #[52, 52, 52, 59, 67, 75, 81, 129, 134], 52) := by decide +kernel
theorem dX12_told_84 : decode cX12_told 84 = .ok (.aload_n 0, 1) := by decide +kernel
theorem dX12_told_85 : decode cX12_told 85 = .ok (.getfield 23, 3) := by decide +kernel
theorem dX12_told_88 : decode cX12_told 88 = .ok (.iload_n 1, 1) := by decide +kernel
theorem dX12_told_89 : decode cX12_told 89 = .ok (.iaload, 1) := by decide +kernel
theorem dX12_told_90 : decode cX12_told 90 = .ok (.ireturn, 1) := by decide +kernel
theorem dX12_told_91 : decode cX12_told 91 = .ok (.aload_n 0, 1) := by decide +kernel
theorem dX12_told_92 : decode cX12_told 92 = .ok (.getfield 79, 3) := by decide +kernel
theorem dX12_told_95 : decode cX12_told 95 = .ok (.bipush 22, 2) := by decide +kernel
theorem dX12_told_97 : decode cX12_told 97 = .ok (.iaload, 1) := by decide +kernel
theorem dX12_told_98 : decode cX12_told 98 = .ok (.ireturn, 1) := by decide +kernel
theorem dX12_told_99 : decode cX12_told 99 = .ok (.aload_n 0, 1) := by decide +kernel
theorem dX12_told_100 : decode cX12_told 100 = .ok (.getfield 79, 3) := by decide +kernel
theorem dX12_told_103 : decode cX12_told 103 = .ok (.bipush 23, 2) := by decide +kernel
theorem dX12_told_105 : decode cX12_told 105 = .ok (.iaload, 1) := by decide +kernel
theorem dX12_told_106 : decode cX12_told 106 = .ok (.ireturn, 1) := by decide +kernel
theorem dX12_told_107 : decode cX12_told 107 = .ok (.aload_n 0, 1) := by decide +kernel
theorem dX12_told_108 : decode cX12_told 108 = .ok (.iconst 0, 1) := by decide +kernel
theorem dX12_told_109 : decode cX12_told 109 = .ok (.invokevirtual 334, 3) := by decide +kernel
theorem dX12_told_112 : decode cX12_told 112 = .ok (.ireturn, 1) := by decide +kernel
theorem dX12_told_113 : decode cX12_told 113 = .ok (.iconst 0, 1) := by decide +kernel
theorem dX12_told_114 : decode cX12_told 114 = .ok (.istore_n 2, 1) := by decide +kernel
theorem dX12_told_115 : decode cX12_told 115 = .ok (.iconst 0, 1) := by decide +kernel
theorem dX12_told_116 : decode cX12_told 116 = .ok (.istore_n 3, 1) := by decide +kernel
theorem dX12_told_117 : decode cX12_told 117 = .ok (.iload_n 3, 1) := by decide +kernel
theorem dX12_told_118 : decode cX12_told 118 = .ok (.iconst 5, 1) := by decide +kernel
theorem dX12_told_119 : decode cX12_told 119 = .ok (.if_icmp .ge 40, 3) := by decide +kernel
theorem dX12_told_122 : decode cX12_told 122 = .ok (.iload_n 2, 1) := by decide +kernel
theorem dX12_told_123 : decode cX12_told 123 = .ok (.aload_n 0, 1) := by decide +kernel
theorem dX12_told_124 : decode cX12_told 124 = .ok (.iload_n 3, 1) := by decide +kernel
theorem dX12_told_125 : decode cX12_told 125 = .ok (.invokevirtual 337, 3) := by decide +kernel
theorem dX12_told_128 : decode cX12_told 128 = .ok (.iconst (-1), 1) := by decide +kernel
theorem dX12_told_129 : decode cX12_told 129 = .ok (.if_icmp .ne 7, 3) := by decide +kernel
theorem dX12_told_132 : decode cX12_told 132 = .ok (.iconst 0, 1) := by decide +kernel
theorem dX12_told_133 : decode cX12_told 133 = .ok (.goto 18, 3) := by decide +kernel
theorem dX12_told_136 : decode cX12_told 136 = .ok (.iconst 1, 1) := by decide +kernel
theorem dX12_told_137 : decode cX12_told 137 = .ok (.aload_n 0, 1) := by decide +kernel
theorem dX12_told_138 : decode cX12_told 138 = .ok (.getfield 79, 3) := by decide +kernel
theorem dX12_told_141 : decode cX12_told 141 = .ok (.aload_n 0, 1) := by decide +kernel
theorem dX12_told_142 : decode cX12_told 142 = .ok (.iload_n 3, 1) := by decide +kernel
theorem dX12_told_143 : decode cX12_told 143 = .ok (.invokevirtual 337, 3) := by decide +kernel
theorem dX12_told_146 : decode cX12_told 146 = .ok (.iconst 1, 1) := by decide +kernel
theorem dX12_told_147 : decode cX12_told 147 = .ok (.invokestatic 282, 3) := by decide +kernel
theorem dX12_told_150 : decode cX12_told 150 = .ok (.ishl, 1) := by decide +kernel
theorem dX12_told_151 : decode cX12_told 151 = .ok (.ior, 1) := by decide +kernel
theorem dX12_told_152 : decode cX12_told 152 = .ok (.istore_n 2, 1) := by decide +kernel
theorem dX12_told_153 : decode cX12_told 153 = .ok (.iinc 3 1, 3) := by decide +kernel
theorem dX12_told_156 : decode cX12_told 156 = .ok (.goto (-39), 3) := by decide +kernel
theorem dX12_told_159 : decode cX12_told 159 = .ok (.iload_n 2, 1) := by decide +kernel
theorem dX12_told_160 : decode cX12_told 160 = .ok (.ireturn, 1) := by decide +kernel
theorem dX12_told_161 : decode cX12_told 161 = .ok (.aload_n 0, 1) := by decide +kernel
theorem dX12_told_162 : decode cX12_told 162 = .ok (.getfield 216, 3) := by decide +kernel
theorem dX12_told_165 : decode cX12_told 165 = .ok (.ireturn, 1) := by decide +kernel
theorem dX12_told_166 : decode cX12_told 166 = .ok (.aload_n 0, 1) := by decide +kernel
theorem dX12_told_167 : decode cX12_told 167 = .ok (.getfield 222, 3) := by decide +kernel
theorem dX12_told_170 : decode cX12_told 170 = .ok (.ireturn, 1) := by decide +kernel
theorem dX12_told_171 : decode cX12_told 171 = .ok (.aload_n 0, 1) := by decide +kernel
theorem dX12_told_172 : decode cX12_told 172 = .ok (.getfield 79, 3) := by decide +kernel
theorem dX12_told_175 : decode cX12_told 175 = .ok (.bipush 24, 2) := by decide +kernel
theorem dX12_told_177 : decode cX12_told 177 = .ok (.iaload, 1) := by decide +kernel
theorem dX12_told_178 : decode cX12_told 178 = .ok (.ireturn, 1) := by decide +kernel
theorem dX12_isRow_0 : decode cX12_isRow 0 = .ok (.iload_n 1, 1) := by decide +kernel
theorem dX12_isRow_1 : decode cX12_isRow 1 = .ok (.iconst 0, 1) := by decide +kernel
theorem dX12_isRow_2 : decode cX12_isRow 2 = .ok (.aload_n 0, 1) := by decide +kernel
theorem dX12_isRow_3 : decode cX12_isRow 3 = .ok (.getfield 23, 3) := by decide +kernel
theorem dX12_isRow_6 : decode cX12_isRow 6 = .ok (.iconst 0, 1) := by decide +kernel
theorem dX12_isRow_7 : decode cX12_isRow 7 = .ok (.iaload, 1) := by decide +kernel
theorem dX12_isRow_8 : decode cX12_isRow 8 = .ok (.iconst 1, 1) := by decide +kernel
theorem dX12_isRow_9 : decode cX12_isRow 9 = .ok (.isub, 1) := by decide +kernel
theorem dX12_isRow_10 : decode cX12_isRow 10 = .ok (.invokestatic 150, 3) := by decide +kernel
theorem dX12_isRow_13 : decode cX12_isRow 13 = .ok (.ireturn, 1) := by decide +kernel
theorem dX12_isBid_0 : decode cX12_isBid 0 = .ok (.iload_n 1, 1) := by decide +kernel
theorem dX12_isBid_1 : decode cX12_isBid 1 = .ok (.iconst 0, 1) := by decide +kernel
theorem dX12_isBid_2 : decode cX12_isBid 2 = .ok (.aload_n 0, 1) := by decide +kernel
theorem dX12_isBid_3 : decode cX12_isBid 3 = .ok (.getfield 23, 3) := by decide +kernel
theorem dX12_isBid_6 : decode cX12_isBid 6 = .ok (.iconst 1, 1) := by decide +kernel
theorem dX12_isBid_7 : decode cX12_isBid 7 = .ok (.iaload, 1) := by decide +kernel
theorem dX12_isBid_8 : decode cX12_isBid 8 = .ok (.iconst 1, 1) := by decide +kernel
theorem dX12_isBid_9 : decode cX12_isBid 9 = .ok (.isub, 1) := by decide +kernel
theorem dX12_isBid_10 : decode cX12_isBid 10 = .ok (.invokestatic 150, 3) := by decide +kernel
theorem dX12_isBid_13 : decode cX12_isBid 13 = .ok (.ireturn, 1) := by decide +kernel
theorem dX12_isWriter_0 : decode cX12_isWriter 0 = .ok (.iload_n 1, 1) := by decide +kernel
theorem dX12_isWriter_1 : decode cX12_isWriter 1 = .ok (.iconst 0, 1) := by decide +kernel
theorem dX12_isWriter_2 : decode cX12_isWriter 2 = .ok (.aload_n 0, 1) := by decide +kernel
theorem dX12_isWriter_3 : decode cX12_isWriter 3 = .ok (.getfield 23, 3) := by decide +kernel
theorem dX12_isWriter_6 : decode cX12_isWriter 6 = .ok (.iconst 2, 1) := by decide +kernel
theorem dX12_isWriter_7 : decode cX12_isWriter 7 = .ok (.iaload, 1) := by decide +kernel
theorem dX12_isWriter_8 : decode cX12_isWriter 8 = .ok (.iconst 1, 1) := by decide +kernel
theorem dX12_isWriter_9 : decode cX12_isWriter 9 = .ok (.isub, 1) := by decide +kernel
theorem dX12_isWriter_10 : decode cX12_isWriter 10 = .ok (.invokestatic 150, 3) := by decide +kernel
theorem dX12_isWriter_13 : decode cX12_isWriter 13 = .ok (.ireturn, 1) := by decide +kernel
theorem dX12_areBids_0 : decode cX12_areBids 0 = .ok (.iload_n 1, 1) := by decide +kernel
theorem dX12_areBids_1 : decode cX12_areBids 1 = .ok (.iconst 0, 1) := by decide +kernel
theorem dX12_areBids_2 : decode cX12_areBids 2 = .ok (.iconst 1, 1) := by decide +kernel
theorem dX12_areBids_3 : decode cX12_areBids 3 = .ok (.aload_n 0, 1) := by decide +kernel
theorem dX12_areBids_4 : decode cX12_areBids 4 = .ok (.getfield 23, 3) := by decide +kernel
theorem dX12_areBids_7 : decode cX12_areBids 7 = .ok (.iconst 1, 1) := by decide +kernel
theorem dX12_areBids_8 : decode cX12_areBids 8 = .ok (.iaload, 1) := by decide +kernel
theorem dX12_areBids_9 : decode cX12_areBids 9 = .ok (.ishl, 1) := by decide +kernel
theorem dX12_areBids_10 : decode cX12_areBids 10 = .ok (.iconst 1, 1) := by decide +kernel
theorem dX12_areBids_11 : decode cX12_areBids 11 = .ok (.isub, 1) := by decide +kernel
theorem dX12_areBids_12 : decode cX12_areBids 12 = .ok (.invokestatic 150, 3) := by decide +kernel
theorem dX12_areBids_15 : decode cX12_areBids 15 = .ok (.ireturn, 1) := by decide +kernel
theorem dX12_isAct_0 : decode cX12_isAct 0 = .ok (.iload_n 0, 1) := by decide +kernel
theorem dX12_isAct_1 : decode cX12_isAct 1 = .ok (.iconst 0, 1) := by decide +kernel
theorem dX12_isAct_2 : decode cX12_isAct 2 = .ok (.bipush 9, 2) := by decide +kernel
theorem dX12_isAct_4 : decode cX12_isAct 4 = .ok (.invokestatic 150, 3) := by decide +kernel
theorem dX12_isAct_7 : decode cX12_isAct 7 = .ok (.ireturn, 1) := by decide +kernel
theorem dX12_linesWith_0 : decode cX12_linesWith 0 = .ok (.iconst 0, 1) := by decide +kernel
theorem dX12_linesWith_1 : decode cX12_linesWith 1 = .ok (.istore_n 3, 1) := by decide +kernel
theorem dX12_linesWith_2 : decode cX12_linesWith 2 = .ok (.iconst 0, 1) := by decide +kernel
theorem dX12_linesWith_3 : decode cX12_linesWith 3 = .ok (.istore 4, 2) := by decide +kernel
theorem dX12_linesWith_5 : decode cX12_linesWith 5 = .ok (.iload 4, 2) := by decide +kernel
theorem dX12_linesWith_7 : decode cX12_linesWith 7 = .ok (.aload_n 0, 1) := by decide +kernel
theorem dX12_linesWith_8 : decode cX12_linesWith 8 = .ok (.getfield 79, 3) := by decide +kernel
theorem dX12_linesWith_11 : decode cX12_linesWith 11 = .ok (.bipush 23, 2) := by decide +kernel
theorem dX12_linesWith_13 : decode cX12_linesWith 13 = .ok (.iaload, 1) := by decide +kernel
theorem dX12_linesWith_14 : decode cX12_linesWith 14 = .ok (.if_icmp .ge 31, 3) := by decide +kernel
theorem dX12_linesWith_17 : decode cX12_linesWith 17 = .ok (.iload_n 3, 1) := by decide +kernel
theorem dX12_linesWith_18 : decode cX12_linesWith 18 = .ok (.aload_n 0, 1) := by decide +kernel
theorem dX12_linesWith_19 : decode cX12_linesWith 19 = .ok (.getfield 79, 3) := by decide +kernel
theorem dX12_linesWith_22 : decode cX12_linesWith 22 = .ok (.iload 4, 2) := by decide +kernel
theorem dX12_linesWith_24 : decode cX12_linesWith 24 = .ok (.iload_n 1, 1) := by decide +kernel
theorem dX12_linesWith_25 : decode cX12_linesWith 25 = .ok (.invokestatic 282, 3) := by decide +kernel
theorem dX12_linesWith_28 : decode cX12_linesWith 28 = .ok (.iload_n 2, 1) := by decide +kernel
theorem dX12_linesWith_29 : decode cX12_linesWith 29 = .ok (.if_icmp .ne 7, 3) := by decide +kernel
theorem dX12_linesWith_32 : decode cX12_linesWith 32 = .ok (.iconst 1, 1) := by decide +kernel
theorem dX12_linesWith_33 : decode cX12_linesWith 33 = .ok (.goto 4, 3) := by decide +kernel
theorem dX12_linesWith_36 : decode cX12_linesWith 36 = .ok (.iconst 0, 1) := by decide +kernel
theorem dX12_linesWith_37 : decode cX12_linesWith 37 = .ok (.iadd, 1) := by decide +kernel
theorem dX12_linesWith_38 : decode cX12_linesWith 38 = .ok (.istore_n 3, 1) := by decide +kernel
theorem dX12_linesWith_39 : decode cX12_linesWith 39 = .ok (.iinc 4 1, 3) := by decide +kernel
theorem dX12_linesWith_42 : decode cX12_linesWith 42 = .ok (.goto (-37), 3) := by decide +kernel
theorem dX12_linesWith_45 : decode cX12_linesWith 45 = .ok (.iload_n 3, 1) := by decide +kernel
theorem dX12_linesWith_46 : decode cX12_linesWith 46 = .ok (.ireturn, 1) := by decide +kernel
theorem dX12_row_0 : decode cX12_row 0 = .ok (.aload_n 0, 1) := by decide +kernel
theorem dX12_row_1 : decode cX12_row 1 = .ok (.iconst 0, 1) := by decide +kernel
theorem dX12_row_2 : decode cX12_row 2 = .ok (.putfield 116, 3) := by decide +kernel
theorem dX12_row_5 : decode cX12_row 5 = .ok (.aload_n 0, 1) := by decide +kernel
theorem dX12_row_6 : decode cX12_row 6 = .ok (.aload_n 0, 1) := by decide +kernel
theorem dX12_row_7 : decode cX12_row 7 = .ok (.iload_n 1, 1) := by decide +kernel
theorem dX12_row_8 : decode cX12_row 8 = .ok (.invokevirtual 340, 3) := by decide +kernel
theorem dX12_row_11 : decode cX12_row 11 = .ok (.ifCond .ne 7, 3) := by decide +kernel
theorem dX12_row_14 : decode cX12_row 14 = .ok (.iconst 1, 1) := by decide +kernel
theorem dX12_row_15 : decode cX12_row 15 = .ok (.goto 4, 3) := by decide +kernel
theorem dX12_row_18 : decode cX12_row 18 = .ok (.iconst 0, 1) := by decide +kernel
theorem dX12_row_19 : decode cX12_row 19 = .ok (.iconst 1, 1) := by decide +kernel
theorem dX12_row_20 : decode cX12_row 20 = .ok (.iconst 0, 1) := by decide +kernel
theorem dX12_row_21 : decode cX12_row 21 = .ok (.invokevirtual 192, 3) := by decide +kernel
theorem dX12_row_24 : decode cX12_row 24 = .ok (.ifCond .ne 26, 3) := by decide +kernel
theorem dX12_row_27 : decode cX12_row 27 = .ok (.aload_n 0, 1) := by decide +kernel
theorem dX12_row_28 : decode cX12_row 28 = .ok (.iload_n 2, 1) := by decide +kernel
theorem dX12_row_29 : decode cX12_row 29 = .ok (.iconst 0, 1) := by decide +kernel
theorem dX12_row_30 : decode cX12_row 30 = .ok (.iconst 3, 1) := by decide +kernel
theorem dX12_row_31 : decode cX12_row 31 = .ok (.invokestatic 150, 3) := by decide +kernel
theorem dX12_row_34 : decode cX12_row 34 = .ok (.ifCond .ne 7, 3) := by decide +kernel
theorem dX12_row_37 : decode cX12_row 37 = .ok (.iconst 1, 1) := by decide +kernel
theorem dX12_row_38 : decode cX12_row 38 = .ok (.goto 4, 3) := by decide +kernel
theorem dX12_row_41 : decode cX12_row 41 = .ok (.iconst 0, 1) := by decide +kernel
theorem dX12_row_42 : decode cX12_row 42 = .ok (.iconst 2, 1) := by decide +kernel
theorem dX12_row_43 : decode cX12_row 43 = .ok (.iconst 1, 1) := by decide +kernel
theorem dX12_row_44 : decode cX12_row 44 = .ok (.invokevirtual 192, 3) := by decide +kernel
theorem dX12_row_47 : decode cX12_row 47 = .ok (.ifCond .eq 5, 3) := by decide +kernel
theorem dX12_row_50 : decode cX12_row 50 = .ok (.iconst 0, 1) := by decide +kernel
theorem dX12_row_51 : decode cX12_row 51 = .ok (.ireturn, 1) := by decide +kernel
theorem dX12_row_52 : decode cX12_row 52 = .ok (.iconst 0, 1) := by decide +kernel
theorem dX12_row_53 : decode cX12_row 53 = .ok (.istore_n 3, 1) := by decide +kernel
theorem dX12_row_54 : decode cX12_row 54 = .ok (.iconst 0, 1) := by decide +kernel
theorem dX12_row_55 : decode cX12_row 55 = .ok (.istore 4, 2) := by decide +kernel
theorem dX12_row_57 : decode cX12_row 57 = .ok (.iload 4, 2) := by decide +kernel
theorem dX12_row_59 : decode cX12_row 59 = .ok (.aload_n 0, 1) := by decide +kernel
theorem dX12_row_60 : decode cX12_row 60 = .ok (.getfield 79, 3) := by decide +kernel
theorem dX12_row_63 : decode cX12_row 63 = .ok (.bipush 23, 2) := by decide +kernel
theorem dX12_row_65 : decode cX12_row 65 = .ok (.iaload, 1) := by decide +kernel
theorem dX12_row_66 : decode cX12_row 66 = .ok (.if_icmp .ge 42, 3) := by decide +kernel
theorem dX12_row_69 : decode cX12_row 69 = .ok (.iload_n 3, 1) := by decide +kernel
theorem dX12_row_70 : decode cX12_row 70 = .ok (.aload_n 0, 1) := by decide +kernel
theorem dX12_row_71 : decode cX12_row 71 = .ok (.getfield 79, 3) := by decide +kernel
theorem dX12_row_74 : decode cX12_row 74 = .ok (.iload 4, 2) := by decide +kernel
theorem dX12_row_76 : decode cX12_row 76 = .ok (.iconst 2, 1) := by decide +kernel
theorem dX12_row_77 : decode cX12_row 77 = .ok (.invokestatic 282, 3) := by decide +kernel
theorem dX12_row_80 : decode cX12_row 80 = .ok (.iload_n 1, 1) := by decide +kernel
theorem dX12_row_81 : decode cX12_row 81 = .ok (.if_icmp .ne 18, 3) := by decide +kernel
theorem dX12_row_84 : decode cX12_row 84 = .ok (.iconst 1, 1) := by decide +kernel
theorem dX12_row_85 : decode cX12_row 85 = .ok (.aload_n 0, 1) := by decide +kernel
theorem dX12_row_86 : decode cX12_row 86 = .ok (.getfield 79, 3) := by decide +kernel
theorem dX12_row_89 : decode cX12_row 89 = .ok (.iload 4, 2) := by decide +kernel
theorem dX12_row_91 : decode cX12_row 91 = .ok (.iconst 1, 1) := by decide +kernel
theorem dX12_row_92 : decode cX12_row 92 = .ok (.invokestatic 282, 3) := by decide +kernel
theorem dX12_row_95 : decode cX12_row 95 = .ok (.ishl, 1) := by decide +kernel
theorem dX12_row_96 : decode cX12_row 96 = .ok (.goto 4, 3) := by decide +kernel
theorem dX12_row_99 : decode cX12_row 99 = .ok (.iconst 0, 1) := by decide +kernel
theorem dX12_row_100 : decode cX12_row 100 = .ok (.ior, 1) := by decide +kernel
theorem dX12_row_101 : decode cX12_row 101 = .ok (.istore_n 3, 1) := by decide +kernel
theorem dX12_row_102 : decode cX12_row 102 = .ok (.iinc 4 1, 3) := by decide +kernel
theorem dX12_row_105 : decode cX12_row 105 = .ok (.goto (-48), 3) := by decide +kernel
theorem dX12_row_108 : decode cX12_row 108 = .ok (.iload_n 2, 1) := by decide +kernel
theorem dX12_row_109 : decode cX12_row 109 = .ok (.ifCond .ne 12, 3) := by decide +kernel
theorem dX12_row_112 : decode cX12_row 112 = .ok (.aload_n 0, 1) := by decide +kernel
theorem dX12_row_113 : decode cX12_row 113 = .ok (.getfield 29, 3) := by decide +kernel
theorem dX12_row_116 : decode cX12_row 116 = .ok (.iload_n 1, 1) := by decide +kernel
theorem dX12_row_117 : decode cX12_row 117 = .ok (.iaload, 1) := by decide +kernel
theorem dX12_row_118 : decode cX12_row 118 = .ok (.goto 35, 3) := by decide +kernel
theorem dX12_row_121 : decode cX12_row 121 = .ok (.iload_n 2, 1) := by decide +kernel
theorem dX12_row_122 : decode cX12_row 122 = .ok (.iconst 1, 1) := by decide +kernel
theorem dX12_row_123 : decode cX12_row 123 = .ok (.if_icmp .ne 15, 3) := by decide +kernel
theorem dX12_row_126 : decode cX12_row 126 = .ok (.aload_n 0, 1) := by decide +kernel
theorem dX12_row_127 : decode cX12_row 127 = .ok (.aload_n 0, 1) := by decide +kernel
theorem dX12_row_128 : decode cX12_row 128 = .ok (.getfield 79, 3) := by decide +kernel
theorem dX12_row_131 : decode cX12_row 131 = .ok (.iload_n 1, 1) := by decide +kernel
theorem dX12_row_132 : decode cX12_row 132 = .ok (.invokevirtual 286, 3) := by decide +kernel
theorem dX12_row_135 : decode cX12_row 135 = .ok (.goto 18, 3) := by decide +kernel
theorem dX12_row_138 : decode cX12_row 138 = .ok (.iload_n 2, 1) := by decide +kernel
theorem dX12_row_139 : decode cX12_row 139 = .ok (.iconst 2, 1) := by decide +kernel
theorem dX12_row_140 : decode cX12_row 140 = .ok (.if_icmp .ne 12, 3) := by decide +kernel
theorem dX12_row_143 : decode cX12_row 143 = .ok (.aload_n 0, 1) := by decide +kernel
theorem dX12_row_144 : decode cX12_row 144 = .ok (.iconst 2, 1) := by decide +kernel
theorem dX12_row_145 : decode cX12_row 145 = .ok (.iload_n 1, 1) := by decide +kernel
theorem dX12_row_146 : decode cX12_row 146 = .ok (.invokevirtual 343, 3) := by decide +kernel
theorem dX12_row_149 : decode cX12_row 149 = .ok (.goto 4, 3) := by decide +kernel
theorem dX12_row_152 : decode cX12_row 152 = .ok (.iload_n 3, 1) := by decide +kernel
theorem dX12_row_153 : decode cX12_row 153 = .ok (.ireturn, 1) := by decide +kernel
theorem dX12_bid_0 : decode cX12_bid 0 = .ok (.aload_n 0, 1) := by decide +kernel
theorem dX12_bid_1 : decode cX12_bid 1 = .ok (.iconst 0, 1) := by decide +kernel
theorem dX12_bid_2 : decode cX12_bid 2 = .ok (.putfield 116, 3) := by decide +kernel
theorem dX12_bid_5 : decode cX12_bid 5 = .ok (.aload_n 0, 1) := by decide +kernel
theorem dX12_bid_6 : decode cX12_bid 6 = .ok (.aload_n 0, 1) := by decide +kernel
theorem dX12_bid_7 : decode cX12_bid 7 = .ok (.iload_n 1, 1) := by decide +kernel
theorem dX12_bid_8 : decode cX12_bid 8 = .ok (.invokevirtual 346, 3) := by decide +kernel
theorem dX12_bid_11 : decode cX12_bid 11 = .ok (.ifCond .ne 7, 3) := by decide +kernel
theorem dX12_bid_14 : decode cX12_bid 14 = .ok (.iconst 1, 1) := by decide +kernel
theorem dX12_bid_15 : decode cX12_bid 15 = .ok (.goto 4, 3) := by decide +kernel
theorem dX12_bid_18 : decode cX12_bid 18 = .ok (.iconst 0, 1) := by decide +kernel
theorem dX12_bid_19 : decode cX12_bid 19 = .ok (.iconst 1, 1) := by decide +kernel
theorem dX12_bid_20 : decode cX12_bid 20 = .ok (.iconst 0, 1) := by decide +kernel
theorem dX12_bid_21 : decode cX12_bid 21 = .ok (.invokevirtual 192, 3) := by decide +kernel
theorem dX12_bid_24 : decode cX12_bid 24 = .ok (.ifCond .ne 26, 3) := by decide +kernel
theorem dX12_bid_27 : decode cX12_bid 27 = .ok (.aload_n 0, 1) := by decide +kernel
theorem dX12_bid_28 : decode cX12_bid 28 = .ok (.iload_n 2, 1) := by decide +kernel
theorem dX12_bid_29 : decode cX12_bid 29 = .ok (.iconst 0, 1) := by decide +kernel
theorem dX12_bid_30 : decode cX12_bid 30 = .ok (.iconst 5, 1) := by decide +kernel
theorem dX12_bid_31 : decode cX12_bid 31 = .ok (.invokestatic 150, 3) := by decide +kernel
theorem dX12_bid_34 : decode cX12_bid 34 = .ok (.ifCond .ne 7, 3) := by decide +kernel
theorem dX12_bid_37 : decode cX12_bid 37 = .ok (.iconst 1, 1) := by decide +kernel
theorem dX12_bid_38 : decode cX12_bid 38 = .ok (.goto 4, 3) := by decide +kernel
theorem dX12_bid_41 : decode cX12_bid 41 = .ok (.iconst 0, 1) := by decide +kernel
theorem dX12_bid_42 : decode cX12_bid 42 = .ok (.iconst 2, 1) := by decide +kernel
theorem dX12_bid_43 : decode cX12_bid 43 = .ok (.iconst 1, 1) := by decide +kernel
theorem dX12_bid_44 : decode cX12_bid 44 = .ok (.invokevirtual 192, 3) := by decide +kernel
theorem dX12_bid_47 : decode cX12_bid 47 = .ok (.ifCond .eq 5, 3) := by decide +kernel
theorem dX12_bid_50 : decode cX12_bid 50 = .ok (.iconst 0, 1) := by decide +kernel
theorem dX12_bid_51 : decode cX12_bid 51 = .ok (.ireturn, 1) := by decide +kernel
theorem dX12_bid_52 : decode cX12_bid 52 = .ok (.iconst 0, 1) := by decide +kernel
theorem dX12_bid_53 : decode cX12_bid 53 = .ok (.istore_n 3, 1) := by decide +kernel
theorem dX12_bid_54 : decode cX12_bid 54 = .ok (.iconst 0, 1) := by decide +kernel
theorem dX12_bid_55 : decode cX12_bid 55 = .ok (.istore 4, 2) := by decide +kernel
theorem dX12_bid_57 : decode cX12_bid 57 = .ok (.iload 4, 2) := by decide +kernel
theorem dX12_bid_59 : decode cX12_bid 59 = .ok (.aload_n 0, 1) := by decide +kernel
theorem dX12_bid_60 : decode cX12_bid 60 = .ok (.getfield 23, 3) := by decide +kernel
theorem dX12_bid_63 : decode cX12_bid 63 = .ok (.iconst 2, 1) := by decide +kernel
theorem dX12_bid_64 : decode cX12_bid 64 = .ok (.iaload, 1) := by decide +kernel
theorem dX12_bid_65 : decode cX12_bid 65 = .ok (.if_icmp .ge 34, 3) := by decide +kernel
theorem dX12_bid_68 : decode cX12_bid 68 = .ok (.iload_n 3, 1) := by decide +kernel
theorem dX12_bid_69 : decode cX12_bid 69 = .ok (.aload_n 0, 1) := by decide +kernel
theorem dX12_bid_70 : decode cX12_bid 70 = .ok (.getfield 41, 3) := by decide +kernel
theorem dX12_bid_73 : decode cX12_bid 73 = .ok (.iload 4, 2) := by decide +kernel
theorem dX12_bid_75 : decode cX12_bid 75 = .ok (.iaload, 1) := by decide +kernel
theorem dX12_bid_76 : decode cX12_bid 76 = .ok (.iload_n 1, 1) := by decide +kernel
theorem dX12_bid_77 : decode cX12_bid 77 = .ok (.invokestatic 278, 3) := by decide +kernel
theorem dX12_bid_80 : decode cX12_bid 80 = .ok (.ifCond .eq 10, 3) := by decide +kernel
theorem dX12_bid_83 : decode cX12_bid 83 = .ok (.iconst 1, 1) := by decide +kernel
theorem dX12_bid_84 : decode cX12_bid 84 = .ok (.iload 4, 2) := by decide +kernel
theorem dX12_bid_86 : decode cX12_bid 86 = .ok (.ishl, 1) := by decide +kernel
theorem dX12_bid_87 : decode cX12_bid 87 = .ok (.goto 4, 3) := by decide +kernel
theorem dX12_bid_90 : decode cX12_bid 90 = .ok (.iconst 0, 1) := by decide +kernel
theorem dX12_bid_91 : decode cX12_bid 91 = .ok (.ior, 1) := by decide +kernel
theorem dX12_bid_92 : decode cX12_bid 92 = .ok (.istore_n 3, 1) := by decide +kernel
theorem dX12_bid_93 : decode cX12_bid 93 = .ok (.iinc 4 1, 3) := by decide +kernel
theorem dX12_bid_96 : decode cX12_bid 96 = .ok (.goto (-39), 3) := by decide +kernel
theorem dX12_bid_99 : decode cX12_bid 99 = .ok (.iload_n 2, 1) := by decide +kernel
theorem dX12_bid_100 : decode cX12_bid 100 = .ok (.tableswitch 75 0 4 #[36, 45, 54, 63, 73], 36) := by decide +kernel
theorem dX12_bid_136 : decode cX12_bid 136 = .ok (.aload_n 0, 1) := by decide +kernel
theorem dX12_bid_137 : decode cX12_bid 137 = .ok (.getfield 79, 3) := by decide +kernel
theorem dX12_bid_140 : decode cX12_bid 140 = .ok (.iconst 0, 1) := by decide +kernel
theorem dX12_bid_141 : decode cX12_bid 141 = .ok (.iload_n 1, 1) := by decide +kernel
theorem dX12_bid_142 : decode cX12_bid 142 = .ok (.iadd, 1) := by decide +kernel
theorem dX12_bid_143 : decode cX12_bid 143 = .ok (.iaload, 1) := by decide +kernel
theorem dX12_bid_144 : decode cX12_bid 144 = .ok (.ireturn, 1) := by decide +kernel
theorem dX12_bid_145 : decode cX12_bid 145 = .ok (.aload_n 0, 1) := by decide +kernel
theorem dX12_bid_146 : decode cX12_bid 146 = .ok (.getfield 49, 3) := by decide +kernel
theorem dX12_bid_149 : decode cX12_bid 149 = .ok (.iload_n 1, 1) := by decide +kernel
theorem dX12_bid_150 : decode cX12_bid 150 = .ok (.aaload, 1) := by decide +kernel
theorem dX12_bid_151 : decode cX12_bid 151 = .ok (.iconst 1, 1) := by decide +kernel
theorem dX12_bid_152 : decode cX12_bid 152 = .ok (.iaload, 1) := by decide +kernel
theorem dX12_bid_153 : decode cX12_bid 153 = .ok (.ireturn, 1) := by decide +kernel
theorem dX12_bid_154 : decode cX12_bid 154 = .ok (.aload_n 0, 1) := by decide +kernel
theorem dX12_bid_155 : decode cX12_bid 155 = .ok (.getfield 49, 3) := by decide +kernel
theorem dX12_bid_158 : decode cX12_bid 158 = .ok (.iload_n 1, 1) := by decide +kernel
theorem dX12_bid_159 : decode cX12_bid 159 = .ok (.aaload, 1) := by decide +kernel
theorem dX12_bid_160 : decode cX12_bid 160 = .ok (.iconst 0, 1) := by decide +kernel
theorem dX12_bid_161 : decode cX12_bid 161 = .ok (.iaload, 1) := by decide +kernel
theorem dX12_bid_162 : decode cX12_bid 162 = .ok (.ireturn, 1) := by decide +kernel
theorem dX12_bid_163 : decode cX12_bid 163 = .ok (.aload_n 0, 1) := by decide +kernel
theorem dX12_bid_164 : decode cX12_bid 164 = .ok (.getfield 79, 3) := by decide +kernel
theorem dX12_bid_167 : decode cX12_bid 167 = .ok (.bipush 8, 2) := by decide +kernel
theorem dX12_bid_169 : decode cX12_bid 169 = .ok (.iload_n 1, 1) := by decide +kernel
theorem dX12_bid_170 : decode cX12_bid 170 = .ok (.iadd, 1) := by decide +kernel
theorem dX12_bid_171 : decode cX12_bid 171 = .ok (.iaload, 1) := by decide +kernel
theorem dX12_bid_172 : decode cX12_bid 172 = .ok (.ireturn, 1) := by decide +kernel
theorem dX12_bid_173 : decode cX12_bid 173 = .ok (.iload_n 3, 1) := by decide +kernel
theorem dX12_bid_174 : decode cX12_bid 174 = .ok (.ireturn, 1) := by decide +kernel
theorem dX12_bid_175 : decode cX12_bid 175 = .ok (.aload_n 0, 1) := by decide +kernel
theorem dX12_bid_176 : decode cX12_bid 176 = .ok (.iconst 0, 1) := by decide +kernel
theorem dX12_bid_177 : decode cX12_bid 177 = .ok (.iload_n 1, 1) := by decide +kernel
theorem dX12_bid_178 : decode cX12_bid 178 = .ok (.invokevirtual 343, 3) := by decide +kernel
theorem dX12_bid_181 : decode cX12_bid 181 = .ok (.ireturn, 1) := by decide +kernel
theorem dX12_writer_0 : decode cX12_writer 0 = .ok (.aload_n 0, 1) := by decide +kernel
theorem dX12_writer_1 : decode cX12_writer 1 = .ok (.iconst 0, 1) := by decide +kernel
theorem dX12_writer_2 : decode cX12_writer 2 = .ok (.putfield 116, 3) := by decide +kernel
theorem dX12_writer_5 : decode cX12_writer 5 = .ok (.aload_n 0, 1) := by decide +kernel
theorem dX12_writer_6 : decode cX12_writer 6 = .ok (.aload_n 0, 1) := by decide +kernel
theorem dX12_writer_7 : decode cX12_writer 7 = .ok (.iload_n 1, 1) := by decide +kernel
theorem dX12_writer_8 : decode cX12_writer 8 = .ok (.invokevirtual 349, 3) := by decide +kernel
theorem dX12_writer_11 : decode cX12_writer 11 = .ok (.ifCond .ne 7, 3) := by decide +kernel
theorem dX12_writer_14 : decode cX12_writer 14 = .ok (.iconst 1, 1) := by decide +kernel
theorem dX12_writer_15 : decode cX12_writer 15 = .ok (.goto 4, 3) := by decide +kernel
theorem dX12_writer_18 : decode cX12_writer 18 = .ok (.iconst 0, 1) := by decide +kernel
theorem dX12_writer_19 : decode cX12_writer 19 = .ok (.iconst 1, 1) := by decide +kernel
theorem dX12_writer_20 : decode cX12_writer 20 = .ok (.iconst 0, 1) := by decide +kernel
theorem dX12_writer_21 : decode cX12_writer 21 = .ok (.invokevirtual 192, 3) := by decide +kernel
theorem dX12_writer_24 : decode cX12_writer 24 = .ok (.ifCond .ne 26, 3) := by decide +kernel
theorem dX12_writer_27 : decode cX12_writer 27 = .ok (.aload_n 0, 1) := by decide +kernel
theorem dX12_writer_28 : decode cX12_writer 28 = .ok (.iload_n 2, 1) := by decide +kernel
theorem dX12_writer_29 : decode cX12_writer 29 = .ok (.iconst 0, 1) := by decide +kernel
theorem dX12_writer_30 : decode cX12_writer 30 = .ok (.iconst 4, 1) := by decide +kernel
theorem dX12_writer_31 : decode cX12_writer 31 = .ok (.invokestatic 150, 3) := by decide +kernel
theorem dX12_writer_34 : decode cX12_writer 34 = .ok (.ifCond .ne 7, 3) := by decide +kernel
theorem dX12_writer_37 : decode cX12_writer 37 = .ok (.iconst 1, 1) := by decide +kernel
theorem dX12_writer_38 : decode cX12_writer 38 = .ok (.goto 4, 3) := by decide +kernel
theorem dX12_writer_41 : decode cX12_writer 41 = .ok (.iconst 0, 1) := by decide +kernel
theorem dX12_writer_42 : decode cX12_writer 42 = .ok (.iconst 2, 1) := by decide +kernel
theorem dX12_writer_43 : decode cX12_writer 43 = .ok (.iconst 1, 1) := by decide +kernel
theorem dX12_writer_44 : decode cX12_writer 44 = .ok (.invokevirtual 192, 3) := by decide +kernel
theorem dX12_writer_47 : decode cX12_writer 47 = .ok (.ifCond .eq 5, 3) := by decide +kernel
theorem dX12_writer_50 : decode cX12_writer 50 = .ok (.iconst 0, 1) := by decide +kernel
theorem dX12_writer_51 : decode cX12_writer 51 = .ok (.ireturn, 1) := by decide +kernel
theorem dX12_writer_52 : decode cX12_writer 52 = .ok (.iload_n 2, 1) := by decide +kernel
theorem dX12_writer_53 : decode cX12_writer 53 = .ok (.tableswitch 51 2 4 #[27, 37, 44], 27) := by decide +kernel
theorem dX12_writer_80 : decode cX12_writer 80 = .ok (.aload_n 0, 1) := by decide +kernel
theorem dX12_writer_81 : decode cX12_writer 81 = .ok (.getfield 79, 3) := by decide +kernel
theorem dX12_writer_84 : decode cX12_writer 84 = .ok (.bipush 16, 2) := by decide +kernel
theorem dX12_writer_86 : decode cX12_writer 86 = .ok (.iload_n 1, 1) := by decide +kernel
theorem dX12_writer_87 : decode cX12_writer 87 = .ok (.iadd, 1) := by decide +kernel
theorem dX12_writer_88 : decode cX12_writer 88 = .ok (.iaload, 1) := by decide +kernel
theorem dX12_writer_89 : decode cX12_writer 89 = .ok (.ireturn, 1) := by decide +kernel
theorem dX12_writer_90 : decode cX12_writer 90 = .ok (.aload_n 0, 1) := by decide +kernel
theorem dX12_writer_91 : decode cX12_writer 91 = .ok (.getfield 41, 3) := by decide +kernel
theorem dX12_writer_94 : decode cX12_writer 94 = .ok (.iload_n 1, 1) := by decide +kernel
theorem dX12_writer_95 : decode cX12_writer 95 = .ok (.iaload, 1) := by decide +kernel
theorem dX12_writer_96 : decode cX12_writer 96 = .ok (.ireturn, 1) := by decide +kernel
theorem dX12_writer_97 : decode cX12_writer 97 = .ok (.aload_n 0, 1) := by decide +kernel
theorem dX12_writer_98 : decode cX12_writer 98 = .ok (.iconst 3, 1) := by decide +kernel
theorem dX12_writer_99 : decode cX12_writer 99 = .ok (.iload_n 1, 1) := by decide +kernel
theorem dX12_writer_100 : decode cX12_writer 100 = .ok (.invokevirtual 343, 3) := by decide +kernel
theorem dX12_writer_103 : decode cX12_writer 103 = .ok (.ireturn, 1) := by decide +kernel
theorem dX12_writer_104 : decode cX12_writer 104 = .ok (.aload_n 0, 1) := by decide +kernel
theorem dX12_writer_105 : decode cX12_writer 105 = .ok (.getfield 55, 3) := by decide +kernel
theorem dX12_writer_108 : decode cX12_writer 108 = .ok (.iload_n 1, 1) := by decide +kernel
theorem dX12_writer_109 : decode cX12_writer 109 = .ok (.aaload, 1) := by decide +kernel
theorem dX12_writer_110 : decode cX12_writer 110 = .ok (.iload_n 2, 1) := by decide +kernel
theorem dX12_writer_111 : decode cX12_writer 111 = .ok (.iaload, 1) := by decide +kernel
theorem dX12_writer_112 : decode cX12_writer 112 = .ok (.ireturn, 1) := by decide +kernel
theorem dX12_line_0 : decode cX12_line 0 = .ok (.aload_n 0, 1) := by decide +kernel
theorem dX12_line_1 : decode cX12_line 1 = .ok (.iconst 0, 1) := by decide +kernel
theorem dX12_line_2 : decode cX12_line 2 = .ok (.putfield 116, 3) := by decide +kernel
theorem dX12_line_5 : decode cX12_line 5 = .ok (.aload_n 0, 1) := by decide +kernel
theorem dX12_line_6 : decode cX12_line 6 = .ok (.iload_n 1, 1) := by decide +kernel
theorem dX12_line_7 : decode cX12_line 7 = .ok (.iconst 0, 1) := by decide +kernel
theorem dX12_line_8 : decode cX12_line 8 = .ok (.aload_n 0, 1) := by decide +kernel
theorem dX12_line_9 : decode cX12_line 9 = .ok (.getfield 79, 3) := by decide +kernel
theorem dX12_line_12 : decode cX12_line 12 = .ok (.bipush 23, 2) := by decide +kernel
theorem dX12_line_14 : decode cX12_line 14 = .ok (.iaload, 1) := by decide +kernel
theorem dX12_line_15 : decode cX12_line 15 = .ok (.iconst 1, 1) := by decide +kernel
theorem dX12_line_16 : decode cX12_line 16 = .ok (.isub, 1) := by decide +kernel
theorem dX12_line_17 : decode cX12_line 17 = .ok (.invokestatic 150, 3) := by decide +kernel
theorem dX12_line_20 : decode cX12_line 20 = .ok (.ifCond .ne 7, 3) := by decide +kernel
theorem dX12_line_23 : decode cX12_line 23 = .ok (.iconst 1, 1) := by decide +kernel
theorem dX12_line_24 : decode cX12_line 24 = .ok (.goto 4, 3) := by decide +kernel
theorem dX12_line_27 : decode cX12_line 27 = .ok (.iconst 0, 1) := by decide +kernel
theorem dX12_line_28 : decode cX12_line 28 = .ok (.iconst 1, 1) := by decide +kernel
theorem dX12_line_29 : decode cX12_line 29 = .ok (.iconst 0, 1) := by decide +kernel
theorem dX12_line_30 : decode cX12_line 30 = .ok (.invokevirtual 192, 3) := by decide +kernel
theorem dX12_line_33 : decode cX12_line 33 = .ok (.ifCond .ne 26, 3) := by decide +kernel
theorem dX12_line_36 : decode cX12_line 36 = .ok (.aload_n 0, 1) := by decide +kernel
theorem dX12_line_37 : decode cX12_line 37 = .ok (.iload_n 2, 1) := by decide +kernel
theorem dX12_line_38 : decode cX12_line 38 = .ok (.iconst 0, 1) := by decide +kernel
theorem dX12_line_39 : decode cX12_line 39 = .ok (.iconst 4, 1) := by decide +kernel
theorem dX12_line_40 : decode cX12_line 40 = .ok (.invokestatic 150, 3) := by decide +kernel
theorem dX12_line_43 : decode cX12_line 43 = .ok (.ifCond .ne 7, 3) := by decide +kernel
theorem dX12_line_46 : decode cX12_line 46 = .ok (.iconst 1, 1) := by decide +kernel
theorem dX12_line_47 : decode cX12_line 47 = .ok (.goto 4, 3) := by decide +kernel
theorem dX12_line_50 : decode cX12_line 50 = .ok (.iconst 0, 1) := by decide +kernel
theorem dX12_line_51 : decode cX12_line 51 = .ok (.iconst 2, 1) := by decide +kernel
theorem dX12_line_52 : decode cX12_line 52 = .ok (.iconst 1, 1) := by decide +kernel
theorem dX12_line_53 : decode cX12_line 53 = .ok (.invokevirtual 192, 3) := by decide +kernel
theorem dX12_line_56 : decode cX12_line 56 = .ok (.ifCond .eq 5, 3) := by decide +kernel
theorem dX12_line_59 : decode cX12_line 59 = .ok (.iconst 0, 1) := by decide +kernel
theorem dX12_line_60 : decode cX12_line 60 = .ok (.ireturn, 1) := by decide +kernel
theorem dX12_line_61 : decode cX12_line 61 = .ok (.iload_n 2, 1) := by decide +kernel
theorem dX12_line_62 : decode cX12_line 62 = .ok (.iconst 4, 1) := by decide +kernel
theorem dX12_line_63 : decode cX12_line 63 = .ok (.if_icmp .ge 15, 3) := by decide +kernel
theorem dX12_line_66 : decode cX12_line 66 = .ok (.aload_n 0, 1) := by decide +kernel
theorem dX12_line_67 : decode cX12_line 67 = .ok (.getfield 79, 3) := by decide +kernel
theorem dX12_line_70 : decode cX12_line 70 = .ok (.iload_n 1, 1) := by decide +kernel
theorem dX12_line_71 : decode cX12_line 71 = .ok (.iload_n 2, 1) := by decide +kernel
theorem dX12_line_72 : decode cX12_line 72 = .ok (.invokestatic 282, 3) := by decide +kernel
theorem dX12_line_75 : decode cX12_line 75 = .ok (.goto 8, 3) := by decide +kernel
theorem dX12_line_78 : decode cX12_line 78 = .ok (.aload_n 0, 1) := by decide +kernel
theorem dX12_line_79 : decode cX12_line 79 = .ok (.iload_n 1, 1) := by decide +kernel
theorem dX12_line_80 : decode cX12_line 80 = .ok (.invokevirtual 331, 3) := by decide +kernel
theorem dX12_line_83 : decode cX12_line 83 = .ok (.ireturn, 1) := by decide +kernel
theorem dX12_kin_0 : decode cX12_kin 0 = .ok (.aload_n 0, 1) := by decide +kernel
theorem dX12_kin_1 : decode cX12_kin 1 = .ok (.iconst 0, 1) := by decide +kernel
theorem dX12_kin_2 : decode cX12_kin 2 = .ok (.putfield 116, 3) := by decide +kernel
theorem dX12_kin_5 : decode cX12_kin 5 = .ok (.aload_n 0, 1) := by decide +kernel
theorem dX12_kin_6 : decode cX12_kin 6 = .ok (.iload_n 1, 1) := by decide +kernel
theorem dX12_kin_7 : decode cX12_kin 7 = .ok (.invokestatic 352, 3) := by decide +kernel
theorem dX12_kin_10 : decode cX12_kin 10 = .ok (.ifCond .ne 7, 3) := by decide +kernel
theorem dX12_kin_13 : decode cX12_kin 13 = .ok (.iconst 1, 1) := by decide +kernel
theorem dX12_kin_14 : decode cX12_kin 14 = .ok (.goto 4, 3) := by decide +kernel
theorem dX12_kin_17 : decode cX12_kin 17 = .ok (.iconst 0, 1) := by decide +kernel
theorem dX12_kin_18 : decode cX12_kin 18 = .ok (.iconst 1, 1) := by decide +kernel
theorem dX12_kin_19 : decode cX12_kin 19 = .ok (.iconst 1, 1) := by decide +kernel
theorem dX12_kin_20 : decode cX12_kin 20 = .ok (.invokevirtual 192, 3) := by decide +kernel
theorem dX12_kin_23 : decode cX12_kin 23 = .ok (.ifCond .eq 5, 3) := by decide +kernel
theorem dX12_kin_26 : decode cX12_kin 26 = .ok (.iconst 0, 1) := by decide +kernel
theorem dX12_kin_27 : decode cX12_kin 27 = .ok (.ireturn, 1) := by decide +kernel
theorem dX12_kin_28 : decode cX12_kin 28 = .ok (.aload_n 0, 1) := by decide +kernel
theorem dX12_kin_29 : decode cX12_kin 29 = .ok (.getfield 35, 3) := by decide +kernel
theorem dX12_kin_32 : decode cX12_kin 32 = .ok (.iload_n 1, 1) := by decide +kernel
theorem dX12_kin_33 : decode cX12_kin 33 = .ok (.iaload, 1) := by decide +kernel
theorem dX12_kin_34 : decode cX12_kin 34 = .ok (.ireturn, 1) := by decide +kernel
theorem dX12_would_0 : decode cX12_would 0 = .ok (.aload_n 0, 1) := by decide +kernel
theorem dX12_would_1 : decode cX12_would 1 = .ok (.iconst 0, 1) := by decide +kernel
theorem dX12_would_2 : decode cX12_would 2 = .ok (.putfield 116, 3) := by decide +kernel
theorem dX12_would_5 : decode cX12_would 5 = .ok (.aload_n 0, 1) := by decide +kernel
theorem dX12_would_6 : decode cX12_would 6 = .ok (.iload_n 1, 1) := by decide +kernel
theorem dX12_would_7 : decode cX12_would 7 = .ok (.iconst 0, 1) := by decide +kernel
theorem dX12_would_8 : decode cX12_would 8 = .ok (.iconst 3, 1) := by decide +kernel
theorem dX12_would_9 : decode cX12_would 9 = .ok (.invokestatic 150, 3) := by decide +kernel
theorem dX12_would_12 : decode cX12_would 12 = .ok (.ifCond .eq 74, 3) := by decide +kernel
theorem dX12_would_15 : decode cX12_would 15 = .ok (.iload_n 2, 1) := by decide +kernel
theorem dX12_would_16 : decode cX12_would 16 = .ok (.iconst 1, 1) := by decide +kernel
theorem dX12_would_17 : decode cX12_would 17 = .ok (.bipush 15, 2) := by decide +kernel
theorem dX12_would_19 : decode cX12_would 19 = .ok (.invokestatic 150, 3) := by decide +kernel
theorem dX12_would_22 : decode cX12_would 22 = .ok (.ifCond .eq 64, 3) := by decide +kernel
theorem dX12_would_25 : decode cX12_would 25 = .ok (.iload_n 3, 1) := by decide +kernel
theorem dX12_would_26 : decode cX12_would 26 = .ok (.iconst 0, 1) := by decide +kernel
theorem dX12_would_27 : decode cX12_would 27 = .ok (.bipush 19, 2) := by decide +kernel
theorem dX12_would_29 : decode cX12_would 29 = .ok (.invokestatic 150, 3) := by decide +kernel
theorem dX12_would_32 : decode cX12_would 32 = .ok (.ifCond .eq 54, 3) := by decide +kernel
theorem dX12_would_35 : decode cX12_would 35 = .ok (.iload 4, 2) := by decide +kernel
theorem dX12_would_37 : decode cX12_would 37 = .ok (.iconst 0, 1) := by decide +kernel
theorem dX12_would_38 : decode cX12_would 38 = .ok (.iconst 5, 1) := by decide +kernel
theorem dX12_would_39 : decode cX12_would 39 = .ok (.invokestatic 150, 3) := by decide +kernel
theorem dX12_would_42 : decode cX12_would 42 = .ok (.ifCond .eq 44, 3) := by decide +kernel
theorem dX12_would_45 : decode cX12_would 45 = .ok (.iload 5, 2) := by decide +kernel
theorem dX12_would_47 : decode cX12_would 47 = .ok (.invokestatic 352, 3) := by decide +kernel
theorem dX12_would_50 : decode cX12_would 50 = .ok (.ifCond .eq 36, 3) := by decide +kernel
theorem dX12_would_53 : decode cX12_would 53 = .ok (.iload 6, 2) := by decide +kernel
theorem dX12_would_55 : decode cX12_would 55 = .ok (.iconst 0, 1) := by decide +kernel
theorem dX12_would_56 : decode cX12_would 56 = .ok (.sipush 500, 3) := by decide +kernel
theorem dX12_would_59 : decode cX12_would 59 = .ok (.invokestatic 150, 3) := by decide +kernel
theorem dX12_would_62 : decode cX12_would 62 = .ok (.ifCond .eq 24, 3) := by decide +kernel
theorem dX12_would_65 : decode cX12_would 65 = .ok (.iload 7, 2) := by decide +kernel
theorem dX12_would_67 : decode cX12_would 67 = .ok (.iconst 0, 1) := by decide +kernel
theorem dX12_would_68 : decode cX12_would 68 = .ok (.iconst 3, 1) := by decide +kernel
theorem dX12_would_69 : decode cX12_would 69 = .ok (.invokestatic 150, 3) := by decide +kernel
theorem dX12_would_72 : decode cX12_would 72 = .ok (.ifCond .eq 14, 3) := by decide +kernel
theorem dX12_would_75 : decode cX12_would 75 = .ok (.iload 8, 2) := by decide +kernel
theorem dX12_would_77 : decode cX12_would 77 = .ok (.iconst 0, 1) := by decide +kernel
theorem dX12_would_78 : decode cX12_would 78 = .ok (.bipush 19, 2) := by decide +kernel
theorem dX12_would_80 : decode cX12_would 80 = .ok (.invokestatic 150, 3) := by decide +kernel
theorem dX12_would_83 : decode cX12_would 83 = .ok (.ifCond .ne 7, 3) := by decide +kernel
theorem dX12_would_86 : decode cX12_would 86 = .ok (.iconst 1, 1) := by decide +kernel
theorem dX12_would_87 : decode cX12_would 87 = .ok (.goto 4, 3) := by decide +kernel
theorem dX12_would_90 : decode cX12_would 90 = .ok (.iconst 0, 1) := by decide +kernel
theorem dX12_would_91 : decode cX12_would 91 = .ok (.iconst 1, 1) := by decide +kernel
theorem dX12_would_92 : decode cX12_would 92 = .ok (.iconst 1, 1) := by decide +kernel
theorem dX12_would_93 : decode cX12_would 93 = .ok (.invokevirtual 192, 3) := by decide +kernel
theorem dX12_would_96 : decode cX12_would 96 = .ok (.ifCond .eq 5, 3) := by decide +kernel
theorem dX12_would_99 : decode cX12_would 99 = .ok (.iconst 0, 1) := by decide +kernel
theorem dX12_would_100 : decode cX12_would 100 = .ok (.ireturn, 1) := by decide +kernel
theorem dX12_would_101 : decode cX12_would 101 = .ok (.aload_n 0, 1) := by decide +kernel
theorem dX12_would_102 : decode cX12_would 102 = .ok (.iload_n 1, 1) := by decide +kernel
theorem dX12_would_103 : decode cX12_would 103 = .ok (.iload_n 2, 1) := by decide +kernel
theorem dX12_would_104 : decode cX12_would 104 = .ok (.iload_n 3, 1) := by decide +kernel
theorem dX12_would_105 : decode cX12_would 105 = .ok (.iload 4, 2) := by decide +kernel
theorem dX12_would_107 : decode cX12_would 107 = .ok (.iload 5, 2) := by decide +kernel
theorem dX12_would_109 : decode cX12_would 109 = .ok (.iload 6, 2) := by decide +kernel
theorem dX12_would_111 : decode cX12_would 111 = .ok (.iload 7, 2) := by decide +kernel
theorem dX12_would_113 : decode cX12_would 113 = .ok (.iload 8, 2) := by decide +kernel
theorem dX12_would_115 : decode cX12_would 115 = .ok (.invokevirtual 327, 3) := by decide +kernel
theorem dX12_would_118 : decode cX12_would 118 = .ok (.ireturn, 1) := by decide +kernel
theorem dX12_force_0 : decode cX12_force 0 = .ok (.aload_n 0, 1) := by decide +kernel
theorem dX12_force_1 : decode cX12_force 1 = .ok (.iconst 0, 1) := by decide +kernel
theorem dX12_force_2 : decode cX12_force 2 = .ok (.putfield 116, 3) := by decide +kernel
theorem dX12_force_5 : decode cX12_force 5 = .ok (.aload_n 0, 1) := by decide +kernel
theorem dX12_force_6 : decode cX12_force 6 = .ok (.iload_n 1, 1) := by decide +kernel
theorem dX12_force_7 : decode cX12_force 7 = .ok (.iconst 0, 1) := by decide +kernel
theorem dX12_force_8 : decode cX12_force 8 = .ok (.iconst 4, 1) := by decide +kernel
theorem dX12_force_9 : decode cX12_force 9 = .ok (.invokestatic 150, 3) := by decide +kernel
theorem dX12_force_12 : decode cX12_force 12 = .ok (.ifCond .eq 12, 3) := by decide +kernel
theorem dX12_force_15 : decode cX12_force 15 = .ok (.iload_n 2, 1) := by decide +kernel
theorem dX12_force_16 : decode cX12_force 16 = .ok (.iconst 0, 1) := by decide +kernel
theorem dX12_force_17 : decode cX12_force 17 = .ok (.iconst 1, 1) := by decide +kernel
theorem dX12_force_18 : decode cX12_force 18 = .ok (.invokestatic 150, 3) := by decide +kernel
theorem dX12_force_21 : decode cX12_force 21 = .ok (.ifCond .ne 7, 3) := by decide +kernel
theorem dX12_force_24 : decode cX12_force 24 = .ok (.iconst 1, 1) := by decide +kernel
theorem dX12_force_25 : decode cX12_force 25 = .ok (.goto 4, 3) := by decide +kernel
theorem dX12_force_28 : decode cX12_force 28 = .ok (.iconst 0, 1) := by decide +kernel
theorem dX12_force_29 : decode cX12_force 29 = .ok (.iconst 1, 1) := by decide +kernel
theorem dX12_force_30 : decode cX12_force 30 = .ok (.iconst 1, 1) := by decide +kernel
theorem dX12_force_31 : decode cX12_force 31 = .ok (.invokevirtual 192, 3) := by decide +kernel
theorem dX12_force_34 : decode cX12_force 34 = .ok (.ifCond .eq 5, 3) := by decide +kernel
theorem dX12_force_37 : decode cX12_force 37 = .ok (.iconst 0, 1) := by decide +kernel
theorem dX12_force_38 : decode cX12_force 38 = .ok (.ireturn, 1) := by decide +kernel
theorem dX12_force_39 : decode cX12_force 39 = .ok (.aload_n 0, 1) := by decide +kernel
theorem dX12_force_40 : decode cX12_force 40 = .ok (.iload_n 1, 1) := by decide +kernel
theorem dX12_force_41 : decode cX12_force 41 = .ok (.invokevirtual 337, 3) := by decide +kernel
theorem dX12_force_44 : decode cX12_force 44 = .ok (.istore_n 3, 1) := by decide +kernel
theorem dX12_force_45 : decode cX12_force 45 = .ok (.iload_n 2, 1) := by decide +kernel
theorem dX12_force_46 : decode cX12_force 46 = .ok (.iconst 1, 1) := by decide +kernel
theorem dX12_force_47 : decode cX12_force 47 = .ok (.if_icmp .eq 8, 3) := by decide +kernel
theorem dX12_force_50 : decode cX12_force 50 = .ok (.iload_n 3, 1) := by decide +kernel
theorem dX12_force_51 : decode cX12_force 51 = .ok (.iconst (-1), 1) := by decide +kernel
theorem dX12_force_52 : decode cX12_force 52 = .ok (.if_icmp .ne 7, 3) := by decide +kernel
theorem dX12_force_55 : decode cX12_force 55 = .ok (.iload_n 3, 1) := by decide +kernel
theorem dX12_force_56 : decode cX12_force 56 = .ok (.goto 12, 3) := by decide +kernel
theorem dX12_force_59 : decode cX12_force 59 = .ok (.aload_n 0, 1) := by decide +kernel
theorem dX12_force_60 : decode cX12_force 60 = .ok (.getfield 79, 3) := by decide +kernel
theorem dX12_force_63 : decode cX12_force 63 = .ok (.iload_n 3, 1) := by decide +kernel
theorem dX12_force_64 : decode cX12_force 64 = .ok (.iconst 1, 1) := by decide +kernel
theorem dX12_force_65 : decode cX12_force 65 = .ok (.invokestatic 282, 3) := by decide +kernel
theorem dX12_force_68 : decode cX12_force 68 = .ok (.ireturn, 1) := by decide +kernel
theorem dX12_torn_0 : decode cX12_torn 0 = .ok (.aload_n 0, 1) := by decide +kernel
theorem dX12_torn_1 : decode cX12_torn 1 = .ok (.iconst 0, 1) := by decide +kernel
theorem dX12_torn_2 : decode cX12_torn 2 = .ok (.putfield 116, 3) := by decide +kernel
theorem dX12_torn_5 : decode cX12_torn 5 = .ok (.iconst 0, 1) := by decide +kernel
theorem dX12_torn_6 : decode cX12_torn 6 = .ok (.istore_n 1, 1) := by decide +kernel
theorem dX12_torn_7 : decode cX12_torn 7 = .ok (.iconst 0, 1) := by decide +kernel
theorem dX12_torn_8 : decode cX12_torn 8 = .ok (.istore_n 2, 1) := by decide +kernel
theorem dX12_torn_9 : decode cX12_torn 9 = .ok (.iload_n 2, 1) := by decide +kernel
theorem dX12_torn_10 : decode cX12_torn 10 = .ok (.iconst 5, 1) := by decide +kernel
theorem dX12_torn_11 : decode cX12_torn 11 = .ok (.if_icmp .ge 43, 3) := by decide +kernel
theorem dX12_torn_14 : decode cX12_torn 14 = .ok (.iload_n 1, 1) := by decide +kernel
theorem dX12_torn_15 : decode cX12_torn 15 = .ok (.aload_n 0, 1) := by decide +kernel
theorem dX12_torn_16 : decode cX12_torn 16 = .ok (.iconst 1, 1) := by decide +kernel
theorem dX12_torn_17 : decode cX12_torn 17 = .ok (.iconst 2, 1) := by decide +kernel
theorem dX12_torn_18 : decode cX12_torn 18 = .ok (.iload_n 2, 1) := by decide +kernel
theorem dX12_torn_19 : decode cX12_torn 19 = .ok (.imul, 1) := by decide +kernel
theorem dX12_torn_20 : decode cX12_torn 20 = .ok (.invokevirtual 343, 3) := by decide +kernel
theorem dX12_torn_23 : decode cX12_torn 23 = .ok (.ifCond .le 22, 3) := by decide +kernel
theorem dX12_torn_26 : decode cX12_torn 26 = .ok (.aload_n 0, 1) := by decide +kernel
theorem dX12_torn_27 : decode cX12_torn 27 = .ok (.iconst 1, 1) := by decide +kernel
theorem dX12_torn_28 : decode cX12_torn 28 = .ok (.iconst 2, 1) := by decide +kernel
theorem dX12_torn_29 : decode cX12_torn 29 = .ok (.iload_n 2, 1) := by decide +kernel
theorem dX12_torn_30 : decode cX12_torn 30 = .ok (.imul, 1) := by decide +kernel
theorem dX12_torn_31 : decode cX12_torn 31 = .ok (.iconst 1, 1) := by decide +kernel
theorem dX12_torn_32 : decode cX12_torn 32 = .ok (.iadd, 1) := by decide +kernel
theorem dX12_torn_33 : decode cX12_torn 33 = .ok (.invokevirtual 343, 3) := by decide +kernel
theorem dX12_torn_36 : decode cX12_torn 36 = .ok (.ifCond .le 9, 3) := by decide +kernel
theorem dX12_torn_39 : decode cX12_torn 39 = .ok (.iconst 1, 1) := by decide +kernel
theorem dX12_torn_40 : decode cX12_torn 40 = .ok (.iload_n 2, 1) := by decide +kernel
theorem dX12_torn_41 : decode cX12_torn 41 = .ok (.ishl, 1) := by decide +kernel
theorem dX12_torn_42 : decode cX12_torn 42 = .ok (.goto 4, 3) := by decide +kernel
theorem dX12_torn_45 : decode cX12_torn 45 = .ok (.iconst 0, 1) := by decide +kernel
theorem dX12_torn_46 : decode cX12_torn 46 = .ok (.ior, 1) := by decide +kernel
theorem dX12_torn_47 : decode cX12_torn 47 = .ok (.istore_n 1, 1) := by decide +kernel
theorem dX12_torn_48 : decode cX12_torn 48 = .ok (.iinc 2 1, 3) := by decide +kernel
theorem dX12_torn_51 : decode cX12_torn 51 = .ok (.goto (-42), 3) := by decide +kernel
theorem dX12_torn_54 : decode cX12_torn 54 = .ok (.iload_n 1, 1) := by decide +kernel
theorem dX12_torn_55 : decode cX12_torn 55 = .ok (.ireturn, 1) := by decide +kernel
theorem dX12_can_0 : decode cX12_can 0 = .ok (.aload_n 0, 1) := by decide +kernel
theorem dX12_can_1 : decode cX12_can 1 = .ok (.iconst 0, 1) := by decide +kernel
theorem dX12_can_2 : decode cX12_can 2 = .ok (.putfield 116, 3) := by decide +kernel
theorem dX12_can_5 : decode cX12_can 5 = .ok (.aload_n 0, 1) := by decide +kernel
theorem dX12_can_6 : decode cX12_can 6 = .ok (.aload_n 0, 1) := by decide +kernel
theorem dX12_can_7 : decode cX12_can 7 = .ok (.iload_n 1, 1) := by decide +kernel
theorem dX12_can_8 : decode cX12_can 8 = .ok (.invokevirtual 349, 3) := by decide +kernel
theorem dX12_can_11 : decode cX12_can 11 = .ok (.ifCond .eq 19, 3) := by decide +kernel
theorem dX12_can_14 : decode cX12_can 14 = .ok (.aload_n 0, 1) := by decide +kernel
theorem dX12_can_15 : decode cX12_can 15 = .ok (.iload_n 2, 1) := by decide +kernel
theorem dX12_can_16 : decode cX12_can 16 = .ok (.invokevirtual 346, 3) := by decide +kernel
theorem dX12_can_19 : decode cX12_can 19 = .ok (.ifCond .eq 11, 3) := by decide +kernel
theorem dX12_can_22 : decode cX12_can 22 = .ok (.aload_n 0, 1) := by decide +kernel
theorem dX12_can_23 : decode cX12_can 23 = .ok (.iload_n 3, 1) := by decide +kernel
theorem dX12_can_24 : decode cX12_can 24 = .ok (.invokevirtual 340, 3) := by decide +kernel
theorem dX12_can_27 : decode cX12_can 27 = .ok (.ifCond .ne 7, 3) := by decide +kernel
theorem dX12_can_30 : decode cX12_can 30 = .ok (.iconst 1, 1) := by decide +kernel
theorem dX12_can_31 : decode cX12_can 31 = .ok (.goto 4, 3) := by decide +kernel
theorem dX12_can_34 : decode cX12_can 34 = .ok (.iconst 0, 1) := by decide +kernel
theorem dX12_can_35 : decode cX12_can 35 = .ok (.iconst 1, 1) := by decide +kernel
theorem dX12_can_36 : decode cX12_can 36 = .ok (.iconst 0, 1) := by decide +kernel
theorem dX12_can_37 : decode cX12_can 37 = .ok (.invokevirtual 192, 3) := by decide +kernel
theorem dX12_can_40 : decode cX12_can 40 = .ok (.ifCond .eq 5, 3) := by decide +kernel
theorem dX12_can_43 : decode cX12_can 43 = .ok (.iconst 0, 1) := by decide +kernel
theorem dX12_can_44 : decode cX12_can 44 = .ok (.ireturn, 1) := by decide +kernel
theorem dX12_can_45 : decode cX12_can 45 = .ok (.aload_n 0, 1) := by decide +kernel
theorem dX12_can_46 : decode cX12_can 46 = .ok (.aload_n 0, 1) := by decide +kernel
theorem dX12_can_47 : decode cX12_can 47 = .ok (.getfield 79, 3) := by decide +kernel
theorem dX12_can_50 : decode cX12_can 50 = .ok (.iload_n 1, 1) := by decide +kernel
theorem dX12_can_51 : decode cX12_can 51 = .ok (.iload_n 2, 1) := by decide +kernel
theorem dX12_can_52 : decode cX12_can 52 = .ok (.iload_n 3, 1) := by decide +kernel
theorem dX12_can_53 : decode cX12_can 53 = .ok (.invokevirtual 290, 3) := by decide +kernel
theorem dX12_can_56 : decode cX12_can 56 = .ok (.ireturn, 1) := by decide +kernel
theorem dX12_ones_0 : decode cX12_ones 0 = .ok (.iconst 0, 1) := by decide +kernel
theorem dX12_ones_1 : decode cX12_ones 1 = .ok (.istore_n 1, 1) := by decide +kernel
theorem dX12_ones_2 : decode cX12_ones 2 = .ok (.iconst 0, 1) := by decide +kernel
theorem dX12_ones_3 : decode cX12_ones 3 = .ok (.istore_n 2, 1) := by decide +kernel
theorem dX12_ones_4 : decode cX12_ones 4 = .ok (.iload_n 2, 1) := by decide +kernel
theorem dX12_ones_5 : decode cX12_ones 5 = .ok (.bipush 8, 2) := by decide +kernel
theorem dX12_ones_7 : decode cX12_ones 7 = .ok (.if_icmp .ge 17, 3) := by decide +kernel
theorem dX12_ones_10 : decode cX12_ones 10 = .ok (.iload_n 1, 1) := by decide +kernel
theorem dX12_ones_11 : decode cX12_ones 11 = .ok (.iload_n 0, 1) := by decide +kernel
theorem dX12_ones_12 : decode cX12_ones 12 = .ok (.iload_n 2, 1) := by decide +kernel
theorem dX12_ones_13 : decode cX12_ones 13 = .ok (.ishr, 1) := by decide +kernel
theorem dX12_ones_14 : decode cX12_ones 14 = .ok (.iconst 1, 1) := by decide +kernel
theorem dX12_ones_15 : decode cX12_ones 15 = .ok (.iand, 1) := by decide +kernel
theorem dX12_ones_16 : decode cX12_ones 16 = .ok (.iadd, 1) := by decide +kernel
theorem dX12_ones_17 : decode cX12_ones 17 = .ok (.istore_n 1, 1) := by decide +kernel
theorem dX12_ones_18 : decode cX12_ones 18 = .ok (.iinc 2 1, 3) := by decide +kernel
theorem dX12_ones_21 : decode cX12_ones 21 = .ok (.goto (-17), 3) := by decide +kernel
theorem dX12_ones_24 : decode cX12_ones 24 = .ok (.iload_n 1, 1) := by decide +kernel
theorem dX12_ones_25 : decode cX12_ones 25 = .ok (.ireturn, 1) := by decide +kernel
theorem dX12_knownBy_0 : decode cX12_knownBy 0 = .ok (.iconst 0, 1) := by decide +kernel
theorem dX12_knownBy_1 : decode cX12_knownBy 1 = .ok (.istore_n 2, 1) := by decide +kernel
theorem dX12_knownBy_2 : decode cX12_knownBy 2 = .ok (.iconst 0, 1) := by decide +kernel
theorem dX12_knownBy_3 : decode cX12_knownBy 3 = .ok (.istore_n 3, 1) := by decide +kernel
theorem dX12_knownBy_4 : decode cX12_knownBy 4 = .ok (.iload_n 3, 1) := by decide +kernel
theorem dX12_knownBy_5 : decode cX12_knownBy 5 = .ok (.aload_n 0, 1) := by decide +kernel
theorem dX12_knownBy_6 : decode cX12_knownBy 6 = .ok (.getfield 23, 3) := by decide +kernel
theorem dX12_knownBy_9 : decode cX12_knownBy 9 = .ok (.iconst 2, 1) := by decide +kernel
theorem dX12_knownBy_10 : decode cX12_knownBy 10 = .ok (.iaload, 1) := by decide +kernel
theorem dX12_knownBy_11 : decode cX12_knownBy 11 = .ok (.if_icmp .ge 30, 3) := by decide +kernel
theorem dX12_knownBy_14 : decode cX12_knownBy 14 = .ok (.iload_n 2, 1) := by decide +kernel
theorem dX12_knownBy_15 : decode cX12_knownBy 15 = .ok (.iload_n 1, 1) := by decide +kernel
theorem dX12_knownBy_16 : decode cX12_knownBy 16 = .ok (.iload_n 3, 1) := by decide +kernel
theorem dX12_knownBy_17 : decode cX12_knownBy 17 = .ok (.invokestatic 278, 3) := by decide +kernel
theorem dX12_knownBy_20 : decode cX12_knownBy 20 = .ok (.ifCond .eq 12, 3) := by decide +kernel
theorem dX12_knownBy_23 : decode cX12_knownBy 23 = .ok (.aload_n 0, 1) := by decide +kernel
theorem dX12_knownBy_24 : decode cX12_knownBy 24 = .ok (.getfield 41, 3) := by decide +kernel
theorem dX12_knownBy_27 : decode cX12_knownBy 27 = .ok (.iload_n 3, 1) := by decide +kernel
theorem dX12_knownBy_28 : decode cX12_knownBy 28 = .ok (.iaload, 1) := by decide +kernel
theorem dX12_knownBy_29 : decode cX12_knownBy 29 = .ok (.goto 4, 3) := by decide +kernel
theorem dX12_knownBy_32 : decode cX12_knownBy 32 = .ok (.iconst 0, 1) := by decide +kernel
theorem dX12_knownBy_33 : decode cX12_knownBy 33 = .ok (.ior, 1) := by decide +kernel
theorem dX12_knownBy_34 : decode cX12_knownBy 34 = .ok (.istore_n 2, 1) := by decide +kernel
theorem dX12_knownBy_35 : decode cX12_knownBy 35 = .ok (.iinc 3 1, 3) := by decide +kernel
theorem dX12_knownBy_38 : decode cX12_knownBy 38 = .ok (.goto (-34), 3) := by decide +kernel
theorem dX12_knownBy_41 : decode cX12_knownBy 41 = .ok (.iload_n 2, 1) := by decide +kernel
theorem dX12_knownBy_42 : decode cX12_knownBy 42 = .ok (.ireturn, 1) := by decide +kernel
theorem dX12_send_0 : decode cX12_send 0 = .ok (.aload_n 0, 1) := by decide +kernel
theorem dX12_send_1 : decode cX12_send 1 = .ok (.iconst 0, 1) := by decide +kernel
theorem dX12_send_2 : decode cX12_send 2 = .ok (.putfield 116, 3) := by decide +kernel
theorem dX12_send_5 : decode cX12_send 5 = .ok (.aload_n 0, 1) := by decide +kernel
theorem dX12_send_6 : decode cX12_send 6 = .ok (.aload_n 0, 1) := by decide +kernel
theorem dX12_send_7 : decode cX12_send 7 = .ok (.iload_n 1, 1) := by decide +kernel
theorem dX12_send_8 : decode cX12_send 8 = .ok (.invokevirtual 355, 3) := by decide +kernel
theorem dX12_send_11 : decode cX12_send 11 = .ok (.ifCond .ne 7, 3) := by decide +kernel
