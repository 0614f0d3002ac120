theorem dL_arePortsSo_0 : decode cL_arePortsSo 0 = .ok (.iconst 0, 1) := by decide +kernel
theorem dL_arePortsSo_1 : decode cL_arePortsSo 1 = .ok (.istore_n 1, 1) := by decide +kernel
theorem dL_arePortsSo_2 : decode cL_arePortsSo 2 = .ok (.iconst 0, 1) := by decide +kernel
theorem dL_arePortsSo_3 : decode cL_arePortsSo 3 = .ok (.istore_n 2, 1) := by decide +kernel
theorem dL_arePortsSo_4 : decode cL_arePortsSo 4 = .ok (.iconst 0, 1) := by decide +kernel
theorem dL_arePortsSo_5 : decode cL_arePortsSo 5 = .ok (.istore_n 3, 1) := by decide +kernel
theorem dL_arePortsSo_6 : decode cL_arePortsSo 6 = .ok (.iload_n 3, 1) := by decide +kernel
theorem dL_arePortsSo_7 : decode cL_arePortsSo 7 = .ok (.aload_n 0, 1) := by decide +kernel
theorem dL_arePortsSo_8 : decode cL_arePortsSo 8 = .ok (.invokevirtual 52, 3) := by decide +kernel
theorem dL_arePortsSo_11 : decode cL_arePortsSo 11 = .ok (.if_icmp .ge 186, 3) := by decide +kernel
theorem dL_arePortsSo_14 : decode cL_arePortsSo 14 = .ok (.aload_n 0, 1) := by decide +kernel
theorem dL_arePortsSo_15 : decode cL_arePortsSo 15 = .ok (.iload_n 3, 1) := by decide +kernel
theorem dL_arePortsSo_16 : decode cL_arePortsSo 16 = .ok (.invokevirtual 83, 3) := by decide +kernel
theorem dL_arePortsSo_19 : decode cL_arePortsSo 19 = .ok (.istore 4, 2) := by decide +kernel
theorem dL_arePortsSo_21 : decode cL_arePortsSo 21 = .ok (.aload_n 0, 1) := by decide +kernel
theorem dL_arePortsSo_22 : decode cL_arePortsSo 22 = .ok (.iload_n 3, 1) := by decide +kernel
theorem dL_arePortsSo_23 : decode cL_arePortsSo 23 = .ok (.invokevirtual 86, 3) := by decide +kernel
theorem dL_arePortsSo_26 : decode cL_arePortsSo 26 = .ok (.istore 5, 2) := by decide +kernel
theorem dL_arePortsSo_28 : decode cL_arePortsSo 28 = .ok (.iload 4, 2) := by decide +kernel
theorem dL_arePortsSo_30 : decode cL_arePortsSo 30 = .ok (.ifCond .ge 19, 3) := by decide +kernel
theorem dL_arePortsSo_33 : decode cL_arePortsSo 33 = .ok (.aload_n 0, 1) := by decide +kernel
theorem dL_arePortsSo_34 : decode cL_arePortsSo 34 = .ok (.iload_n 3, 1) := by decide +kernel
theorem dL_arePortsSo_35 : decode cL_arePortsSo 35 = .ok (.invokevirtual 89, 3) := by decide +kernel
theorem dL_arePortsSo_38 : decode cL_arePortsSo 38 = .ok (.ifCond .ne 7, 3) := by decide +kernel
theorem dL_arePortsSo_41 : decode cL_arePortsSo 41 = .ok (.iconst 1, 1) := by decide +kernel
theorem dL_arePortsSo_42 : decode cL_arePortsSo 42 = .ok (.goto 60, 3) := by decide +kernel
theorem dL_arePortsSo_45 : decode cL_arePortsSo 45 = .ok (.iconst 0, 1) := by decide +kernel
theorem dL_arePortsSo_46 : decode cL_arePortsSo 46 = .ok (.goto 56, 3) := by decide +kernel
theorem dL_arePortsSo_49 : decode cL_arePortsSo 49 = .ok (.iload 4, 2) := by decide +kernel
theorem dL_arePortsSo_51 : decode cL_arePortsSo 51 = .ok (.iload_n 3, 1) := by decide +kernel
theorem dL_arePortsSo_52 : decode cL_arePortsSo 52 = .ok (.if_icmp .eq 49, 3) := by decide +kernel
theorem dL_arePortsSo_55 : decode cL_arePortsSo 55 = .ok (.aload_n 0, 1) := by decide +kernel
theorem dL_arePortsSo_56 : decode cL_arePortsSo 56 = .ok (.iload 4, 2) := by decide +kernel
theorem dL_arePortsSo_58 : decode cL_arePortsSo 58 = .ok (.invokevirtual 83, 3) := by decide +kernel
theorem dL_arePortsSo_61 : decode cL_arePortsSo 61 = .ok (.iload_n 3, 1) := by decide +kernel
theorem dL_arePortsSo_62 : decode cL_arePortsSo 62 = .ok (.if_icmp .ne 39, 3) := by decide +kernel
theorem dL_arePortsSo_65 : decode cL_arePortsSo 65 = .ok (.aload_n 0, 1) := by decide +kernel
theorem dL_arePortsSo_66 : decode cL_arePortsSo 66 = .ok (.iload 4, 2) := by decide +kernel
theorem dL_arePortsSo_68 : decode cL_arePortsSo 68 = .ok (.invokevirtual 89, 3) := by decide +kernel
theorem dL_arePortsSo_71 : decode cL_arePortsSo 71 = .ok (.aload_n 0, 1) := by decide +kernel
theorem dL_arePortsSo_72 : decode cL_arePortsSo 72 = .ok (.iload_n 3, 1) := by decide +kernel
theorem dL_arePortsSo_73 : decode cL_arePortsSo 73 = .ok (.invokevirtual 89, 3) := by decide +kernel
theorem dL_arePortsSo_76 : decode cL_arePortsSo 76 = .ok (.if_icmp .ne 25, 3) := by decide +kernel
theorem dL_arePortsSo_79 : decode cL_arePortsSo 79 = .ok (.aload_n 0, 1) := by decide +kernel
theorem dL_arePortsSo_80 : decode cL_arePortsSo 80 = .ok (.iload_n 3, 1) := by decide +kernel
theorem dL_arePortsSo_81 : decode cL_arePortsSo 81 = .ok (.invokevirtual 89, 3) := by decide +kernel
theorem dL_arePortsSo_84 : decode cL_arePortsSo 84 = .ok (.ifCond .le 17, 3) := by decide +kernel
theorem dL_arePortsSo_87 : decode cL_arePortsSo 87 = .ok (.aload_n 0, 1) := by decide +kernel
theorem dL_arePortsSo_88 : decode cL_arePortsSo 88 = .ok (.iload_n 3, 1) := by decide +kernel
theorem dL_arePortsSo_89 : decode cL_arePortsSo 89 = .ok (.invokevirtual 89, 3) := by decide +kernel
theorem dL_arePortsSo_92 : decode cL_arePortsSo 92 = .ok (.bipush 10, 2) := by decide +kernel
theorem dL_arePortsSo_94 : decode cL_arePortsSo 94 = .ok (.if_icmp .ge 7, 3) := by decide +kernel
theorem dL_arePortsSo_97 : decode cL_arePortsSo 97 = .ok (.iconst 1, 1) := by decide +kernel
theorem dL_arePortsSo_98 : decode cL_arePortsSo 98 = .ok (.goto 4, 3) := by decide +kernel
theorem dL_arePortsSo_101 : decode cL_arePortsSo 101 = .ok (.iconst 0, 1) := by decide +kernel
theorem dL_arePortsSo_102 : decode cL_arePortsSo 102 = .ok (.istore 6, 2) := by decide +kernel
theorem dL_arePortsSo_104 : decode cL_arePortsSo 104 = .ok (.iload 5, 2) := by decide +kernel
theorem dL_arePortsSo_106 : decode cL_arePortsSo 106 = .ok (.ifCond .lt 27, 3) := by decide +kernel
theorem dL_arePortsSo_109 : decode cL_arePortsSo 109 = .ok (.aload_n 0, 1) := by decide +kernel
theorem dL_arePortsSo_110 : decode cL_arePortsSo 110 = .ok (.iload 5, 2) := by decide +kernel
theorem dL_arePortsSo_112 : decode cL_arePortsSo 112 = .ok (.invokevirtual 86, 3) := by decide +kernel
theorem dL_arePortsSo_115 : decode cL_arePortsSo 115 = .ok (.iload_n 3, 1) := by decide +kernel
theorem dL_arePortsSo_116 : decode cL_arePortsSo 116 = .ok (.if_icmp .ne 21, 3) := by decide +kernel
theorem dL_arePortsSo_119 : decode cL_arePortsSo 119 = .ok (.aload_n 0, 1) := by decide +kernel
theorem dL_arePortsSo_120 : decode cL_arePortsSo 120 = .ok (.iload 5, 2) := by decide +kernel
theorem dL_arePortsSo_122 : decode cL_arePortsSo 122 = .ok (.invokevirtual 92, 3) := by decide +kernel
theorem dL_arePortsSo_125 : decode cL_arePortsSo 125 = .ok (.aload_n 0, 1) := by decide +kernel
theorem dL_arePortsSo_126 : decode cL_arePortsSo 126 = .ok (.iload_n 3, 1) := by decide +kernel
theorem dL_arePortsSo_127 : decode cL_arePortsSo 127 = .ok (.invokevirtual 92, 3) := by decide +kernel
theorem dL_arePortsSo_130 : decode cL_arePortsSo 130 = .ok (.if_icmp .eq 7, 3) := by decide +kernel
theorem dL_arePortsSo_133 : decode cL_arePortsSo 133 = .ok (.iconst 1, 1) := by decide +kernel
theorem dL_arePortsSo_134 : decode cL_arePortsSo 134 = .ok (.goto 4, 3) := by decide +kernel
theorem dL_arePortsSo_137 : decode cL_arePortsSo 137 = .ok (.iconst 0, 1) := by decide +kernel
theorem dL_arePortsSo_138 : decode cL_arePortsSo 138 = .ok (.istore 7, 2) := by decide +kernel
theorem dL_arePortsSo_140 : decode cL_arePortsSo 140 = .ok (.iload 6, 2) := by decide +kernel
theorem dL_arePortsSo_142 : decode cL_arePortsSo 142 = .ok (.ifCond .eq 28, 3) := by decide +kernel
theorem dL_arePortsSo_145 : decode cL_arePortsSo 145 = .ok (.iload 7, 2) := by decide +kernel
theorem dL_arePortsSo_147 : decode cL_arePortsSo 147 = .ok (.ifCond .eq 23, 3) := by decide +kernel
theorem dL_arePortsSo_150 : decode cL_arePortsSo 150 = .ok (.aload_n 0, 1) := by decide +kernel
theorem dL_arePortsSo_151 : decode cL_arePortsSo 151 = .ok (.iload_n 3, 1) := by decide +kernel
theorem dL_arePortsSo_152 : decode cL_arePortsSo 152 = .ok (.invokevirtual 92, 3) := by decide +kernel
theorem dL_arePortsSo_155 : decode cL_arePortsSo 155 = .ok (.iload_n 2, 1) := by decide +kernel
theorem dL_arePortsSo_156 : decode cL_arePortsSo 156 = .ok (.if_icmp .eq 16, 3) := by decide +kernel
theorem dL_arePortsSo_159 : decode cL_arePortsSo 159 = .ok (.aload_n 0, 1) := by decide +kernel
theorem dL_arePortsSo_160 : decode cL_arePortsSo 160 = .ok (.iload_n 3, 1) := by decide +kernel
theorem dL_arePortsSo_161 : decode cL_arePortsSo 161 = .ok (.invokevirtual 92, 3) := by decide +kernel
theorem dL_arePortsSo_164 : decode cL_arePortsSo 164 = .ok (.iload_n 2, 1) := by decide +kernel
theorem dL_arePortsSo_165 : decode cL_arePortsSo 165 = .ok (.iconst 1, 1) := by decide +kernel
theorem dL_arePortsSo_166 : decode cL_arePortsSo 166 = .ok (.iadd, 1) := by decide +kernel
theorem dL_arePortsSo_167 : decode cL_arePortsSo 167 = .ok (.if_icmp .eq 5, 3) := by decide +kernel
theorem dL_arePortsSo_170 : decode cL_arePortsSo 170 = .ok (.iconst 0, 1) := by decide +kernel
theorem dL_arePortsSo_171 : decode cL_arePortsSo 171 = .ok (.ireturn, 1) := by decide +kernel
theorem dL_arePortsSo_172 : decode cL_arePortsSo 172 = .ok (.iload_n 1, 1) := by decide +kernel
theorem dL_arePortsSo_173 : decode cL_arePortsSo 173 = .ok (.iload 4, 2) := by decide +kernel
theorem dL_arePortsSo_175 : decode cL_arePortsSo 175 = .ok (.ifCond .ge 7, 3) := by decide +kernel
theorem dL_arePortsSo_178 : decode cL_arePortsSo 178 = .ok (.iconst 0, 1) := by decide +kernel
theorem dL_arePortsSo_179 : decode cL_arePortsSo 179 = .ok (.goto 4, 3) := by decide +kernel
theorem dL_arePortsSo_182 : decode cL_arePortsSo 182 = .ok (.iconst 1, 1) := by decide +kernel
theorem dL_arePortsSo_183 : decode cL_arePortsSo 183 = .ok (.iadd, 1) := by decide +kernel
theorem dL_arePortsSo_184 : decode cL_arePortsSo 184 = .ok (.istore_n 1, 1) := by decide +kernel
theorem dL_arePortsSo_185 : decode cL_arePortsSo 185 = .ok (.aload_n 0, 1) := by decide +kernel
theorem dL_arePortsSo_186 : decode cL_arePortsSo 186 = .ok (.iload_n 3, 1) := by decide +kernel
theorem dL_arePortsSo_187 : decode cL_arePortsSo 187 = .ok (.invokevirtual 92, 3) := by decide +kernel
theorem dL_arePortsSo_190 : decode cL_arePortsSo 190 = .ok (.istore_n 2, 1) := by decide +kernel
theorem dL_arePortsSo_191 : decode cL_arePortsSo 191 = .ok (.iinc 3 1, 3) := by decide +kernel
theorem dL_arePortsSo_194 : decode cL_arePortsSo 194 = .ok (.goto (-188), 3) := by decide +kernel
theorem dL_arePortsSo_197 : decode cL_arePortsSo 197 = .ok (.iload_n 1, 1) := by decide +kernel
theorem dL_arePortsSo_198 : decode cL_arePortsSo 198 = .ok (.iconst 2, 1) := by decide +kernel
theorem dL_arePortsSo_199 : decode cL_arePortsSo 199 = .ok (.aload_n 0, 1) := by decide +kernel
theorem dL_arePortsSo_200 : decode cL_arePortsSo 200 = .ok (.invokevirtual 70, 3) := by decide +kernel
theorem dL_arePortsSo_203 : decode cL_arePortsSo 203 = .ok (.imul, 1) := by decide +kernel
theorem dL_arePortsSo_204 : decode cL_arePortsSo 204 = .ok (.if_icmp .ne 32, 3) := by decide +kernel
theorem dL_arePortsSo_207 : decode cL_arePortsSo 207 = .ok (.aload_n 0, 1) := by decide +kernel
theorem dL_arePortsSo_208 : decode cL_arePortsSo 208 = .ok (.invokevirtual 73, 3) := by decide +kernel
theorem dL_arePortsSo_211 : decode cL_arePortsSo 211 = .ok (.aload_n 0, 1) := by decide +kernel
theorem dL_arePortsSo_212 : decode cL_arePortsSo 212 = .ok (.invokevirtual 70, 3) := by decide +kernel
theorem dL_arePortsSo_215 : decode cL_arePortsSo 215 = .ok (.if_icmp .lt 21, 3) := by decide +kernel
theorem dL_arePortsSo_218 : decode cL_arePortsSo 218 = .ok (.aload_n 0, 1) := by decide +kernel
theorem dL_arePortsSo_219 : decode cL_arePortsSo 219 = .ok (.invokevirtual 73, 3) := by decide +kernel
theorem dL_arePortsSo_222 : decode cL_arePortsSo 222 = .ok (.bipush 21, 2) := by decide +kernel
theorem dL_arePortsSo_224 : decode cL_arePortsSo 224 = .ok (.aload_n 0, 1) := by decide +kernel
theorem dL_arePortsSo_225 : decode cL_arePortsSo 225 = .ok (.invokevirtual 70, 3) := by decide +kernel
theorem dL_arePortsSo_228 : decode cL_arePortsSo 228 = .ok (.imul, 1) := by decide +kernel
theorem dL_arePortsSo_229 : decode cL_arePortsSo 229 = .ok (.if_icmp .gt 7, 3) := by decide +kernel
theorem dL_arePortsSo_232 : decode cL_arePortsSo 232 = .ok (.iconst 1, 1) := by decide +kernel
theorem dL_arePortsSo_233 : decode cL_arePortsSo 233 = .ok (.goto 4, 3) := by decide +kernel
theorem dL_arePortsSo_236 : decode cL_arePortsSo 236 = .ok (.iconst 0, 1) := by decide +kernel
theorem dL_arePortsSo_237 : decode cL_arePortsSo 237 = .ok (.istore_n 3, 1) := by decide +kernel
theorem dL_arePortsSo_238 : decode cL_arePortsSo 238 = .ok (.iconst 0, 1) := by decide +kernel
theorem dL_arePortsSo_239 : decode cL_arePortsSo 239 = .ok (.istore 4, 2) := by decide +kernel
theorem dL_arePortsSo_241 : decode cL_arePortsSo 241 = .ok (.iload 4, 2) := by decide +kernel
theorem dL_arePortsSo_243 : decode cL_arePortsSo 243 = .ok (.bipush 12, 2) := by decide +kernel
theorem dL_arePortsSo_245 : decode cL_arePortsSo 245 = .ok (.if_icmp .ge 61, 3) := by decide +kernel
theorem dL_arePortsSo_248 : decode cL_arePortsSo 248 = .ok (.iload_n 3, 1) := by decide +kernel
theorem dL_arePortsSo_249 : decode cL_arePortsSo 249 = .ok (.ifCond .eq 57, 3) := by decide +kernel
theorem dL_arePortsSo_252 : decode cL_arePortsSo 252 = .ok (.aload_n 0, 1) := by decide +kernel
theorem dL_arePortsSo_253 : decode cL_arePortsSo 253 = .ok (.iload 4, 2) := by decide +kernel
theorem dL_arePortsSo_255 : decode cL_arePortsSo 255 = .ok (.invokestatic 99, 3) := by decide +kernel
theorem dL_arePortsSo_258 : decode cL_arePortsSo 258 = .ok (.istore 5, 2) := by decide +kernel
theorem dL_arePortsSo_260 : decode cL_arePortsSo 260 = .ok (.iload 5, 2) := by decide +kernel
theorem dL_arePortsSo_262 : decode cL_arePortsSo 262 = .ok (.ifCond .lt 32, 3) := by decide +kernel
theorem dL_arePortsSo_265 : decode cL_arePortsSo 265 = .ok (.aload_n 0, 1) := by decide +kernel
theorem dL_arePortsSo_266 : decode cL_arePortsSo 266 = .ok (.iload 5, 2) := by decide +kernel
theorem dL_arePortsSo_268 : decode cL_arePortsSo 268 = .ok (.invokevirtual 83, 3) := by decide +kernel
theorem dL_arePortsSo_271 : decode cL_arePortsSo 271 = .ok (.ifCond .ge 27, 3) := by decide +kernel
theorem dL_arePortsSo_274 : decode cL_arePortsSo 274 = .ok (.aload_n 0, 1) := by decide +kernel
theorem dL_arePortsSo_275 : decode cL_arePortsSo 275 = .ok (.iload 5, 2) := by decide +kernel
theorem dL_arePortsSo_277 : decode cL_arePortsSo 277 = .ok (.invokevirtual 86, 3) := by decide +kernel
theorem dL_arePortsSo_280 : decode cL_arePortsSo 280 = .ok (.ifCond .ge 18, 3) := by decide +kernel
theorem dL_arePortsSo_283 : decode cL_arePortsSo 283 = .ok (.aload_n 0, 1) := by decide +kernel
theorem dL_arePortsSo_284 : decode cL_arePortsSo 284 = .ok (.iload 5, 2) := by decide +kernel
theorem dL_arePortsSo_286 : decode cL_arePortsSo 286 = .ok (.invokevirtual 92, 3) := by decide +kernel
theorem dL_arePortsSo_289 : decode cL_arePortsSo 289 = .ok (.iload 4, 2) := by decide +kernel
theorem dL_arePortsSo_291 : decode cL_arePortsSo 291 = .ok (.if_icmp .ne 7, 3) := by decide +kernel
theorem dL_arePortsSo_294 : decode cL_arePortsSo 294 = .ok (.iconst 1, 1) := by decide +kernel
theorem dL_arePortsSo_295 : decode cL_arePortsSo 295 = .ok (.goto 4, 3) := by decide +kernel
theorem dL_arePortsSo_298 : decode cL_arePortsSo 298 = .ok (.iconst 0, 1) := by decide +kernel
theorem dL_arePortsSo_299 : decode cL_arePortsSo 299 = .ok (.istore_n 3, 1) := by decide +kernel
theorem dL_arePortsSo_300 : decode cL_arePortsSo 300 = .ok (.iinc 4 1, 3) := by decide +kernel
theorem dL_arePortsSo_303 : decode cL_arePortsSo 303 = .ok (.goto (-62), 3) := by decide +kernel
theorem dL_arePortsSo_306 : decode cL_arePortsSo 306 = .ok (.iconst 0, 1) := by decide +kernel
theorem dL_arePortsSo_307 : decode cL_arePortsSo 307 = .ok (.istore 4, 2) := by decide +kernel
theorem dL_arePortsSo_309 : decode cL_arePortsSo 309 = .ok (.iload 4, 2) := by decide +kernel
theorem dL_arePortsSo_311 : decode cL_arePortsSo 311 = .ok (.aload_n 0, 1) := by decide +kernel
theorem dL_arePortsSo_312 : decode cL_arePortsSo 312 = .ok (.invokevirtual 67, 3) := by decide +kernel
theorem dL_arePortsSo_315 : decode cL_arePortsSo 315 = .ok (.if_icmp .ge 39, 3) := by decide +kernel
theorem dL_arePortsSo_318 : decode cL_arePortsSo 318 = .ok (.iload_n 3, 1) := by decide +kernel
theorem dL_arePortsSo_319 : decode cL_arePortsSo 319 = .ok (.ifCond .eq 35, 3) := by decide +kernel
theorem dL_arePortsSo_322 : decode cL_arePortsSo 322 = .ok (.aload_n 0, 1) := by decide +kernel
theorem dL_arePortsSo_323 : decode cL_arePortsSo 323 = .ok (.iload 4, 2) := by decide +kernel
theorem dL_arePortsSo_325 : decode cL_arePortsSo 325 = .ok (.invokevirtual 102, 3) := by decide +kernel
theorem dL_arePortsSo_328 : decode cL_arePortsSo 328 = .ok (.ifCond .lt 18, 3) := by decide +kernel
theorem dL_arePortsSo_331 : decode cL_arePortsSo 331 = .ok (.aload_n 0, 1) := by decide +kernel
theorem dL_arePortsSo_332 : decode cL_arePortsSo 332 = .ok (.iload 4, 2) := by decide +kernel
theorem dL_arePortsSo_334 : decode cL_arePortsSo 334 = .ok (.invokevirtual 102, 3) := by decide +kernel
theorem dL_arePortsSo_337 : decode cL_arePortsSo 337 = .ok (.bipush 12, 2) := by decide +kernel
theorem dL_arePortsSo_339 : decode cL_arePortsSo 339 = .ok (.if_icmp .gt 7, 3) := by decide +kernel
theorem dL_arePortsSo_342 : decode cL_arePortsSo 342 = .ok (.iconst 1, 1) := by decide +kernel
theorem dL_arePortsSo_343 : decode cL_arePortsSo 343 = .ok (.goto 4, 3) := by decide +kernel
theorem dL_arePortsSo_346 : decode cL_arePortsSo 346 = .ok (.iconst 0, 1) := by decide +kernel
theorem dL_arePortsSo_347 : decode cL_arePortsSo 347 = .ok (.istore_n 3, 1) := by decide +kernel
theorem dL_arePortsSo_348 : decode cL_arePortsSo 348 = .ok (.iinc 4 1, 3) := by decide +kernel
theorem dL_arePortsSo_351 : decode cL_arePortsSo 351 = .ok (.goto (-42), 3) := by decide +kernel
theorem dL_arePortsSo_354 : decode cL_arePortsSo 354 = .ok (.iload_n 3, 1) := by decide +kernel
theorem dL_arePortsSo_355 : decode cL_arePortsSo 355 = .ok (.ireturn, 1) := by decide +kernel
set_option maxRecDepth 20000 in
theorem ggL_areLinesSo_X3_ports : GoodIn wsL_areLinesSo wsX3_ports := goodIn_r _ [5, 6, 124, 125, 126, 127, 128, 129, 130, 131, 132, 133, 134, 135, 136, 137, 138, 139, 140, 141, 142] (by decide +kernel) (by decide +kernel)
set_option maxRecDepth 20000 in
theorem gL_areLinesSo_X3_ports : GoodIn wsL_areLinesSo (wsV RL 52 RX3 yX3_ports wsX3_ports) := goodIn_app (goodIn_of _ (by decide +kernel)) ggL_areLinesSo_X3_ports
set_option maxRecDepth 20000 in
theorem ggL_areLinesSo_X3_hops : GoodIn wsL_areLinesSo wsX3_hops := goodIn_ca (goodIn_r _ [10, 11, 12, 13, 4, 14, 15, 16, 6, 17, 18, 19, 20, 21, 22, 23, 24, 25, 26, 27, 28, 29, 30, 31, 32, 33, 34, 35, 36, 37, 38, 39, 40, 41, 42, 43, 44, 45, 46, 47, 48, 124, 125, 126, 127, 128, 129, 130, 131, 132, 133, 134, 135, 136, 137, 138, 139, 140, 141, 142, 143, 144, 145] (by decide +kernel) (by decide +kernel)) (goodIn_sub (fun _ h => List.mem_cons_of_mem _ (List.mem_append_right _ h)) (by decide +kernel))
set_option maxRecDepth 20000 in
theorem gL_areLinesSo_X3_hops : GoodIn wsL_areLinesSo (wsV RL 105 RX3 yX3_hops wsX3_hops) := goodIn_app (goodIn_of _ (by decide +kernel)) ggL_areLinesSo_X3_hops
set_option maxRecDepth 20000 in
theorem ggL_areLinesSo_X3_hopTo : GoodIn wsL_areLinesSo wsX3_hopTo := goodIn_ca (goodIn_r _ [52, 15, 16, 25, 11, 12, 13, 4, 14, 6, 17, 18, 19, 20, 21, 22, 23, 24, 26, 27, 28, 29, 30, 31, 32, 33, 34, 35, 36, 37, 38, 39, 40, 41, 42, 43, 44, 45, 46, 47, 48, 124, 125, 126, 127, 128, 129, 130, 131, 132, 133, 134, 135, 136, 137, 138, 139, 140, 141, 142, 143, 144, 145] (by decide +kernel) (by decide +kernel)) (goodIn_sub (fun _ h => List.mem_cons_of_mem _ (List.mem_append_right _ h)) (by decide +kernel))
set_option maxRecDepth 20000 in
theorem gL_areLinesSo_X3_hopTo : GoodIn wsL_areLinesSo (wsV RL 108 RX3 yX3_hopTo wsX3_hopTo) := goodIn_app (goodIn_of _ (by decide +kernel)) ggL_areLinesSo_X3_hopTo
set_option maxRecDepth 20000 in
theorem ggL_areLinesSo_L_low : GoodIn wsL_areLinesSo wsL_low := goodIn_r _ [56, 57] (by decide +kernel) (by decide +kernel)
set_option maxRecDepth 20000 in
theorem gL_areLinesSo_L_low : GoodIn wsL_areLinesSo (va_wsS RL 47 yL_low wsL_low) := goodIn_app (goodIn_of _ (by decide +kernel)) ggL_areLinesSo_L_low
set_option maxRecDepth 20000 in
theorem ggL_areLinesSo_X3_end : GoodIn wsL_areLinesSo wsX3_end := goodIn_ca (goodIn_r _ [61, 11, 12, 13, 4, 14, 15, 16, 6, 17, 18, 19, 20, 21, 22, 23, 24, 25, 26, 27, 28, 29, 30, 31, 32, 33, 34, 35, 36, 37, 38, 39, 40, 41, 42, 43, 44, 45, 46, 47, 48, 62, 63, 64, 65, 124, 125, 126, 127, 128, 129, 130, 131, 132, 133, 134, 135, 136, 137, 138, 139, 140, 141, 142, 143, 144, 145] (by decide +kernel) (by decide +kernel)) (goodIn_sub (fun _ h => List.mem_cons_of_mem _ (List.mem_append_right _ h)) (by decide +kernel))
set_option maxRecDepth 20000 in
theorem gL_areLinesSo_X3_end : GoodIn wsL_areLinesSo (wsV RL 112 RX3 yX3_end wsX3_end) := goodIn_app (goodIn_of _ (by decide +kernel)) ggL_areLinesSo_X3_end
set_option maxRecDepth 20000 in
theorem ggL_areLinesSo_X3_areJoined : GoodIn wsL_areLinesSo wsX3_areJoined := goodIn_ca (goodIn_r _ [69, 11, 12, 13, 4, 14, 15, 16, 6, 17, 18, 19, 20, 21, 22, 23, 24, 25, 26, 27, 28, 29, 30, 31, 32, 33, 34, 35, 36, 37, 38, 39, 40, 41, 42, 43, 44, 45, 46, 47, 48, 70, 71, 72, 73, 124, 125, 126, 127, 128, 129, 130, 131, 132, 133, 134, 135, 136, 137, 138, 139, 140, 141, 142, 143, 144, 145] (by decide +kernel) (by decide +kernel)) (goodIn_sub (fun _ h => List.mem_cons_of_mem _ (List.mem_append_right _ h)) (by decide +kernel))
set_option maxRecDepth 20000 in
theorem gL_areLinesSo_X3_areJoined : GoodIn wsL_areLinesSo (wsV RL 115 RX3 yX3_areJoined wsX3_areJoined) := goodIn_app (goodIn_of _ (by decide +kernel)) ggL_areLinesSo_X3_areJoined
set_option maxRecDepth 20000 in
theorem ggL_areLinesSo_X3_areJoinedBySearch : GoodIn wsL_areLinesSo wsX3_areJoinedBySearch := goodIn_ca (goodIn_r _ [77, 78, 11, 12, 13, 4, 14, 15, 16, 6, 17, 18, 19, 79, 80, 81, 82, 83, 24, 84, 85, 86, 42, 87, 44, 88, 89, 90, 91, 39, 40, 41, 43, 92, 93, 94, 95, 45, 46, 47, 29, 48, 31, 26, 27, 28, 30, 32, 33, 34, 35, 36, 37, 38, 124, 125, 126, 127, 128, 129, 130, 131, 132, 133, 134, 135, 136, 137, 138, 139, 140, 141, 142, 145, 143, 144] (by decide +kernel) (by decide +kernel)) (goodIn_sub (fun _ h => List.mem_cons_of_mem _ (List.mem_append_right _ h)) (by decide +kernel))
set_option maxRecDepth 20000 in
theorem gL_areLinesSo_X3_areJoinedBySearch : GoodIn wsL_areLinesSo (wsV RL 119 RX3 yX3_areJoinedBySearch wsX3_areJoinedBySearch) := goodIn_app (goodIn_of _ (by decide +kernel)) ggL_areLinesSo_X3_areJoinedBySearch
set_option maxRecDepth 20000 in
theorem ggL_areLinesSo_X3_isRing : GoodIn wsL_areLinesSo wsX3_isRing := goodIn_ca (goodIn_r _ [99, 11, 12, 13, 4, 14, 15, 16, 6, 17, 18, 19, 20, 21, 22, 23, 24, 25, 26, 27, 28, 29, 30, 31, 32, 33, 34, 35, 36, 37, 38, 39, 40, 41, 42, 43, 44, 45, 46, 47, 48, 62, 63, 64, 65, 124, 125, 126, 127, 128, 129, 130, 131, 132, 133, 134, 135, 136, 137, 138, 139, 140, 141, 142, 143, 144, 145] (by decide +kernel) (by decide +kernel)) (goodIn_sub (fun _ h => List.mem_cons_of_mem _ (List.mem_append_right _ h)) (by decide +kernel))
set_option maxRecDepth 20000 in
theorem gL_areLinesSo_X3_isRing : GoodIn wsL_areLinesSo (wsV RL 122 RX3 yX3_isRing wsX3_isRing) := goodIn_app (goodIn_of _ (by decide +kernel)) ggL_areLinesSo_X3_isRing
set_option maxRecDepth 20000 in
theorem ggL_areLinesSo_X3_lengthOf : GoodIn wsL_areLinesSo wsX3_lengthOf := goodIn_ca (goodIn_r _ [103, 25, 104, 105, 11, 12, 13, 4, 14, 15, 16, 6, 17, 18, 19, 20, 21, 22, 23, 24, 26, 27, 28, 29, 30, 31, 32, 33, 34, 35, 36, 37, 38, 39, 40, 41, 42, 43, 44, 45, 46, 47, 48, 106, 107, 108, 109, 110, 111, 112, 113, 114, 115, 124, 125, 126, 127, 128, 129, 130, 131, 132, 133, 134, 135, 136, 137, 138, 139, 140, 141, 142, 143, 144, 145] (by decide +kernel) (by decide +kernel)) (goodIn_sub (fun _ h => List.mem_cons_of_mem _ (List.mem_append_right _ h)) (by decide +kernel))
set_option maxRecDepth 20000 in
theorem gL_areLinesSo_X3_lengthOf : GoodIn wsL_areLinesSo (wsV RL 95 RX3 yX3_lengthOf wsX3_lengthOf) := goodIn_app (goodIn_of _ (by decide +kernel)) ggL_areLinesSo_X3_lengthOf
set_option maxRecDepth 20000 in
theorem ggL_areLinesSo_X3_lines : GoodIn wsL_areLinesSo wsX3_lines := goodIn_r _ [119, 78, 6, 84, 85, 86, 42, 87, 44, 39, 40, 41, 43, 92, 93, 94, 95, 20, 21, 22, 4, 23, 24, 25, 26, 27, 28, 29, 30, 31, 32, 33, 34, 35, 36, 37, 38, 45, 46, 47, 48, 120, 121, 122, 123, 124, 125, 126, 127, 128, 129, 130, 131, 132, 133, 134, 135, 136, 137, 138, 139, 140, 141, 142, 145, 143, 144] (by decide +kernel) (by decide +kernel)
set_option maxRecDepth 20000 in
theorem gL_areLinesSo_X3_lines : GoodIn wsL_areLinesSo (wsV RL 76 RX3 yX3_lines wsX3_lines) := goodIn_app (goodIn_of _ (by decide +kernel)) ggL_areLinesSo_X3_lines
theorem dL_areLinesSo_0 : decode cL_areLinesSo 0 = .ok (.iconst 0, 1) := by decide +kernel
theorem dL_areLinesSo_1 : decode cL_areLinesSo 1 = .ok (.istore_n 2, 1) := by decide +kernel
theorem dL_areLinesSo_2 : decode cL_areLinesSo 2 = .ok (.iconst 0, 1) := by decide +kernel
theorem dL_areLinesSo_3 : decode cL_areLinesSo 3 = .ok (.istore_n 3, 1) := by decide +kernel
theorem dL_areLinesSo_4 : decode cL_areLinesSo 4 = .ok (.iload_n 3, 1) := by decide +kernel
theorem dL_areLinesSo_5 : decode cL_areLinesSo 5 = .ok (.aload_n 0, 1) := by decide +kernel
theorem dL_areLinesSo_6 : decode cL_areLinesSo 6 = .ok (.invokevirtual 52, 3) := by decide +kernel
theorem dL_areLinesSo_9 : decode cL_areLinesSo 9 = .ok (.if_icmp .ge 242, 3) := by decide +kernel
theorem dL_areLinesSo_12 : decode cL_areLinesSo 12 = .ok (.iconst 1, 1) := by decide +kernel
theorem dL_areLinesSo_13 : decode cL_areLinesSo 13 = .ok (.istore 4, 2) := by decide +kernel
theorem dL_areLinesSo_15 : decode cL_areLinesSo 15 = .ok (.iconst 0, 1) := by decide +kernel
theorem dL_areLinesSo_16 : decode cL_areLinesSo 16 = .ok (.istore 5, 2) := by decide +kernel
theorem dL_areLinesSo_18 : decode cL_areLinesSo 18 = .ok (.iload 5, 2) := by decide +kernel
theorem dL_areLinesSo_20 : decode cL_areLinesSo 20 = .ok (.iconst 2, 1) := by decide +kernel
theorem dL_areLinesSo_21 : decode cL_areLinesSo 21 = .ok (.if_icmp .ge 73, 3) := by decide +kernel
theorem dL_areLinesSo_24 : decode cL_areLinesSo 24 = .ok (.iconst 0, 1) := by decide +kernel
theorem dL_areLinesSo_25 : decode cL_areLinesSo 25 = .ok (.istore 6, 2) := by decide +kernel
theorem dL_areLinesSo_27 : decode cL_areLinesSo 27 = .ok (.iload 6, 2) := by decide +kernel
theorem dL_areLinesSo_29 : decode cL_areLinesSo 29 = .ok (.aload_n 0, 1) := by decide +kernel
theorem dL_areLinesSo_30 : decode cL_areLinesSo 30 = .ok (.iload_n 3, 1) := by decide +kernel
theorem dL_areLinesSo_31 : decode cL_areLinesSo 31 = .ok (.iload 5, 2) := by decide +kernel
theorem dL_areLinesSo_33 : decode cL_areLinesSo 33 = .ok (.iconst 1, 1) := by decide +kernel
theorem dL_areLinesSo_34 : decode cL_areLinesSo 34 = .ok (.if_icmp .ne 7, 3) := by decide +kernel
theorem dL_areLinesSo_37 : decode cL_areLinesSo 37 = .ok (.iconst 1, 1) := by decide +kernel
theorem dL_areLinesSo_38 : decode cL_areLinesSo 38 = .ok (.goto 4, 3) := by decide +kernel
theorem dL_areLinesSo_41 : decode cL_areLinesSo 41 = .ok (.iconst 0, 1) := by decide +kernel
theorem dL_areLinesSo_42 : decode cL_areLinesSo 42 = .ok (.invokevirtual 105, 3) := by decide +kernel
theorem dL_areLinesSo_45 : decode cL_areLinesSo 45 = .ok (.if_icmp .ge 43, 3) := by decide +kernel
theorem dL_areLinesSo_48 : decode cL_areLinesSo 48 = .ok (.iload 4, 2) := by decide +kernel
theorem dL_areLinesSo_50 : decode cL_areLinesSo 50 = .ok (.ifCond .eq 29, 3) := by decide +kernel
theorem dL_areLinesSo_53 : decode cL_areLinesSo 53 = .ok (.aload_n 0, 1) := by decide +kernel
theorem dL_areLinesSo_54 : decode cL_areLinesSo 54 = .ok (.iload_n 3, 1) := by decide +kernel
theorem dL_areLinesSo_55 : decode cL_areLinesSo 55 = .ok (.iload 5, 2) := by decide +kernel
theorem dL_areLinesSo_57 : decode cL_areLinesSo 57 = .ok (.iconst 1, 1) := by decide +kernel
theorem dL_areLinesSo_58 : decode cL_areLinesSo 58 = .ok (.if_icmp .ne 7, 3) := by decide +kernel
theorem dL_areLinesSo_61 : decode cL_areLinesSo 61 = .ok (.iconst 1, 1) := by decide +kernel
theorem dL_areLinesSo_62 : decode cL_areLinesSo 62 = .ok (.goto 4, 3) := by decide +kernel
theorem dL_areLinesSo_65 : decode cL_areLinesSo 65 = .ok (.iconst 0, 1) := by decide +kernel
theorem dL_areLinesSo_66 : decode cL_areLinesSo 66 = .ok (.iload 6, 2) := by decide +kernel
theorem dL_areLinesSo_68 : decode cL_areLinesSo 68 = .ok (.invokevirtual 108, 3) := by decide +kernel
theorem dL_areLinesSo_71 : decode cL_areLinesSo 71 = .ok (.iload_n 3, 1) := by decide +kernel
theorem dL_areLinesSo_72 : decode cL_areLinesSo 72 = .ok (.if_icmp .lt 7, 3) := by decide +kernel
theorem dL_areLinesSo_75 : decode cL_areLinesSo 75 = .ok (.iconst 1, 1) := by decide +kernel
theorem dL_areLinesSo_76 : decode cL_areLinesSo 76 = .ok (.goto 4, 3) := by decide +kernel
theorem dL_areLinesSo_79 : decode cL_areLinesSo 79 = .ok (.iconst 0, 1) := by decide +kernel
theorem dL_areLinesSo_80 : decode cL_areLinesSo 80 = .ok (.istore 4, 2) := by decide +kernel
theorem dL_areLinesSo_82 : decode cL_areLinesSo 82 = .ok (.iinc 6 1, 3) := by decide +kernel
theorem dL_areLinesSo_85 : decode cL_areLinesSo 85 = .ok (.goto (-58), 3) := by decide +kernel
theorem dL_areLinesSo_88 : decode cL_areLinesSo 88 = .ok (.iinc 5 1, 3) := by decide +kernel
theorem dL_areLinesSo_91 : decode cL_areLinesSo 91 = .ok (.goto (-73), 3) := by decide +kernel
theorem dL_areLinesSo_94 : decode cL_areLinesSo 94 = .ok (.iload_n 2, 1) := by decide +kernel
theorem dL_areLinesSo_95 : decode cL_areLinesSo 95 = .ok (.iload 4, 2) := by decide +kernel
theorem dL_areLinesSo_97 : decode cL_areLinesSo 97 = .ok (.ifCond .eq 7, 3) := by decide +kernel
theorem dL_areLinesSo_100 : decode cL_areLinesSo 100 = .ok (.iconst 1, 1) := by decide +kernel
theorem dL_areLinesSo_101 : decode cL_areLinesSo 101 = .ok (.goto 4, 3) := by decide +kernel
theorem dL_areLinesSo_104 : decode cL_areLinesSo 104 = .ok (.iconst 0, 1) := by decide +kernel
theorem dL_areLinesSo_105 : decode cL_areLinesSo 105 = .ok (.iadd, 1) := by decide +kernel
theorem dL_areLinesSo_106 : decode cL_areLinesSo 106 = .ok (.istore_n 2, 1) := by decide +kernel
theorem dL_areLinesSo_107 : decode cL_areLinesSo 107 = .ok (.iload_n 1, 1) := by decide +kernel
theorem dL_areLinesSo_108 : decode cL_areLinesSo 108 = .ok (.iload_n 3, 1) := by decide +kernel
theorem dL_areLinesSo_109 : decode cL_areLinesSo 109 = .ok (.bipush 16, 2) := by decide +kernel
theorem dL_areLinesSo_111 : decode cL_areLinesSo 111 = .ok (.irem, 1) := by decide +kernel
theorem dL_areLinesSo_112 : decode cL_areLinesSo 112 = .ok (.ishr, 1) := by decide +kernel
theorem dL_areLinesSo_113 : decode cL_areLinesSo 113 = .ok (.aload_n 0, 1) := by decide +kernel
theorem dL_areLinesSo_114 : decode cL_areLinesSo 114 = .ok (.invokevirtual 52, 3) := by decide +kernel
theorem dL_areLinesSo_117 : decode cL_areLinesSo 117 = .ok (.invokestatic 47, 3) := by decide +kernel
theorem dL_areLinesSo_120 : decode cL_areLinesSo 120 = .ok (.istore 5, 2) := by decide +kernel
theorem dL_areLinesSo_122 : decode cL_areLinesSo 122 = .ok (.aload_n 0, 1) := by decide +kernel
theorem dL_areLinesSo_123 : decode cL_areLinesSo 123 = .ok (.iload_n 3, 1) := by decide +kernel
theorem dL_areLinesSo_124 : decode cL_areLinesSo 124 = .ok (.iconst 1, 1) := by decide +kernel
theorem dL_areLinesSo_125 : decode cL_areLinesSo 125 = .ok (.invokevirtual 105, 3) := by decide +kernel
theorem dL_areLinesSo_128 : decode cL_areLinesSo 128 = .ok (.istore 6, 2) := by decide +kernel
theorem dL_areLinesSo_130 : decode cL_areLinesSo 130 = .ok (.iload 6, 2) := by decide +kernel
theorem dL_areLinesSo_132 : decode cL_areLinesSo 132 = .ok (.ifCond .le 17, 3) := by decide +kernel
theorem dL_areLinesSo_135 : decode cL_areLinesSo 135 = .ok (.aload_n 0, 1) := by decide +kernel
theorem dL_areLinesSo_136 : decode cL_areLinesSo 136 = .ok (.iload_n 3, 1) := by decide +kernel
theorem dL_areLinesSo_137 : decode cL_areLinesSo 137 = .ok (.iconst 1, 1) := by decide +kernel
theorem dL_areLinesSo_138 : decode cL_areLinesSo 138 = .ok (.invokevirtual 112, 3) := by decide +kernel
theorem dL_areLinesSo_141 : decode cL_areLinesSo 141 = .ok (.iload_n 3, 1) := by decide +kernel
theorem dL_areLinesSo_142 : decode cL_areLinesSo 142 = .ok (.if_icmp .ne 7, 3) := by decide +kernel
theorem dL_areLinesSo_145 : decode cL_areLinesSo 145 = .ok (.iconst 1, 1) := by decide +kernel
theorem dL_areLinesSo_146 : decode cL_areLinesSo 146 = .ok (.goto 4, 3) := by decide +kernel
theorem dL_areLinesSo_149 : decode cL_areLinesSo 149 = .ok (.iconst 0, 1) := by decide +kernel
theorem dL_areLinesSo_150 : decode cL_areLinesSo 150 = .ok (.istore 7, 2) := by decide +kernel
theorem dL_areLinesSo_152 : decode cL_areLinesSo 152 = .ok (.aload_n 0, 1) := by decide +kernel
theorem dL_areLinesSo_153 : decode cL_areLinesSo 153 = .ok (.iload_n 3, 1) := by decide +kernel
theorem dL_areLinesSo_154 : decode cL_areLinesSo 154 = .ok (.iload 5, 2) := by decide +kernel
theorem dL_areLinesSo_156 : decode cL_areLinesSo 156 = .ok (.invokevirtual 115, 3) := by decide +kernel
theorem dL_areLinesSo_159 : decode cL_areLinesSo 159 = .ok (.aload_n 0, 1) := by decide +kernel
theorem dL_areLinesSo_160 : decode cL_areLinesSo 160 = .ok (.iload_n 3, 1) := by decide +kernel
theorem dL_areLinesSo_161 : decode cL_areLinesSo 161 = .ok (.iload 5, 2) := by decide +kernel
theorem dL_areLinesSo_163 : decode cL_areLinesSo 163 = .ok (.invokevirtual 119, 3) := by decide +kernel
theorem dL_areLinesSo_166 : decode cL_areLinesSo 166 = .ok (.if_icmp .ne 77, 3) := by decide +kernel
theorem dL_areLinesSo_169 : decode cL_areLinesSo 169 = .ok (.aload_n 0, 1) := by decide +kernel
theorem dL_areLinesSo_170 : decode cL_areLinesSo 170 = .ok (.iload_n 3, 1) := by decide +kernel
theorem dL_areLinesSo_171 : decode cL_areLinesSo 171 = .ok (.aload_n 0, 1) := by decide +kernel
theorem dL_areLinesSo_172 : decode cL_areLinesSo 172 = .ok (.iload_n 3, 1) := by decide +kernel
theorem dL_areLinesSo_173 : decode cL_areLinesSo 173 = .ok (.iconst 0, 1) := by decide +kernel
theorem dL_areLinesSo_174 : decode cL_areLinesSo 174 = .ok (.invokevirtual 112, 3) := by decide +kernel
theorem dL_areLinesSo_177 : decode cL_areLinesSo 177 = .ok (.invokevirtual 115, 3) := by decide +kernel
theorem dL_areLinesSo_180 : decode cL_areLinesSo 180 = .ok (.ifCond .eq 63, 3) := by decide +kernel
theorem dL_areLinesSo_183 : decode cL_areLinesSo 183 = .ok (.aload_n 0, 1) := by decide +kernel
theorem dL_areLinesSo_184 : decode cL_areLinesSo 184 = .ok (.iload_n 3, 1) := by decide +kernel
theorem dL_areLinesSo_185 : decode cL_areLinesSo 185 = .ok (.invokevirtual 122, 3) := by decide +kernel
theorem dL_areLinesSo_188 : decode cL_areLinesSo 188 = .ok (.iload 7, 2) := by decide +kernel
theorem dL_areLinesSo_190 : decode cL_areLinesSo 190 = .ok (.if_icmp .ne 53, 3) := by decide +kernel
theorem dL_areLinesSo_193 : decode cL_areLinesSo 193 = .ok (.iload 7, 2) := by decide +kernel
theorem dL_areLinesSo_195 : decode cL_areLinesSo 195 = .ok (.ifCond .eq 37, 3) := by decide +kernel
theorem dL_areLinesSo_198 : decode cL_areLinesSo 198 = .ok (.aload_n 0, 1) := by decide +kernel
theorem dL_areLinesSo_199 : decode cL_areLinesSo 199 = .ok (.iload_n 3, 1) := by decide +kernel
theorem dL_areLinesSo_200 : decode cL_areLinesSo 200 = .ok (.iconst 0, 1) := by decide +kernel
theorem dL_areLinesSo_201 : decode cL_areLinesSo 201 = .ok (.invokevirtual 105, 3) := by decide +kernel
theorem dL_areLinesSo_204 : decode cL_areLinesSo 204 = .ok (.iload 6, 2) := by decide +kernel
theorem dL_areLinesSo_206 : decode cL_areLinesSo 206 = .ok (.if_icmp .ne 37, 3) := by decide +kernel
theorem dL_areLinesSo_209 : decode cL_areLinesSo 209 = .ok (.iload 6, 2) := by decide +kernel
theorem dL_areLinesSo_211 : decode cL_areLinesSo 211 = .ok (.iconst 2, 1) := by decide +kernel
theorem dL_areLinesSo_212 : decode cL_areLinesSo 212 = .ok (.irem, 1) := by decide +kernel
theorem dL_areLinesSo_213 : decode cL_areLinesSo 213 = .ok (.iconst 1, 1) := by decide +kernel
theorem dL_areLinesSo_214 : decode cL_areLinesSo 214 = .ok (.if_icmp .eq 29, 3) := by decide +kernel
theorem dL_areLinesSo_217 : decode cL_areLinesSo 217 = .ok (.aload_n 0, 1) := by decide +kernel
theorem dL_areLinesSo_218 : decode cL_areLinesSo 218 = .ok (.iload_n 3, 1) := by decide +kernel
theorem dL_areLinesSo_219 : decode cL_areLinesSo 219 = .ok (.iconst 0, 1) := by decide +kernel
theorem dL_areLinesSo_220 : decode cL_areLinesSo 220 = .ok (.invokevirtual 95, 3) := by decide +kernel
theorem dL_areLinesSo_223 : decode cL_areLinesSo 223 = .ok (.aload_n 0, 1) := by decide +kernel
theorem dL_areLinesSo_224 : decode cL_areLinesSo 224 = .ok (.iload_n 3, 1) := by decide +kernel
theorem dL_areLinesSo_225 : decode cL_areLinesSo 225 = .ok (.iconst 1, 1) := by decide +kernel
theorem dL_areLinesSo_226 : decode cL_areLinesSo 226 = .ok (.invokevirtual 95, 3) := by decide +kernel
theorem dL_areLinesSo_229 : decode cL_areLinesSo 229 = .ok (.if_icmp .ne 14, 3) := by decide +kernel
theorem dL_areLinesSo_232 : decode cL_areLinesSo 232 = .ok (.aload_n 0, 1) := by decide +kernel
theorem dL_areLinesSo_233 : decode cL_areLinesSo 233 = .ok (.iload_n 3, 1) := by decide +kernel
theorem dL_areLinesSo_234 : decode cL_areLinesSo 234 = .ok (.iconst 1, 1) := by decide +kernel
theorem dL_areLinesSo_235 : decode cL_areLinesSo 235 = .ok (.invokevirtual 95, 3) := by decide +kernel
theorem dL_areLinesSo_238 : decode cL_areLinesSo 238 = .ok (.iload 6, 2) := by decide +kernel
theorem dL_areLinesSo_240 : decode cL_areLinesSo 240 = .ok (.if_icmp .ge 5, 3) := by decide +kernel
theorem dL_areLinesSo_243 : decode cL_areLinesSo 243 = .ok (.iconst 0, 1) := by decide +kernel
theorem dL_areLinesSo_244 : decode cL_areLinesSo 244 = .ok (.ireturn, 1) := by decide +kernel
theorem dL_areLinesSo_245 : decode cL_areLinesSo 245 = .ok (.iinc 3 1, 3) := by decide +kernel
theorem dL_areLinesSo_248 : decode cL_areLinesSo 248 = .ok (.goto (-244), 3) := by decide +kernel
theorem dL_areLinesSo_251 : decode cL_areLinesSo 251 = .ok (.iload_n 2, 1) := by decide +kernel
theorem dL_areLinesSo_252 : decode cL_areLinesSo 252 = .ok (.aload_n 0, 1) := by decide +kernel
theorem dL_areLinesSo_253 : decode cL_areLinesSo 253 = .ok (.invokevirtual 76, 3) := by decide +kernel
theorem dL_areLinesSo_256 : decode cL_areLinesSo 256 = .ok (.if_icmp .ne 7, 3) := by decide +kernel
theorem dL_areLinesSo_259 : decode cL_areLinesSo 259 = .ok (.iconst 1, 1) := by decide +kernel
theorem dL_areLinesSo_260 : decode cL_areLinesSo 260 = .ok (.goto 4, 3) := by decide +kernel
theorem dL_areLinesSo_263 : decode cL_areLinesSo 263 = .ok (.iconst 0, 1) := by decide +kernel
theorem dL_areLinesSo_264 : decode cL_areLinesSo 264 = .ok (.ireturn, 1) := by decide +kernel
set_option maxRecDepth 20000 in
theorem ggL_isPlanSo_X3_cables : GoodIn wsL_isPlanSo wsX3_cables := goodIn_r _ [6, 7, 8, 9, 10, 5, 11, 12, 13, 14, 15, 16, 17, 18, 19, 193, 194, 195, 196, 197, 198, 199, 200, 201, 202, 203, 204, 205, 206, 207, 208, 209, 210, 211, 212, 213] (by decide +kernel) (by decide +kernel)
set_option maxRecDepth 20000 in
theorem gL_isPlanSo_X3_cables : GoodIn wsL_isPlanSo (wsV RL 70 RX3 yX3_cables wsX3_cables) := goodIn_app (goodIn_of _ (by decide +kernel)) ggL_isPlanSo_X3_cables
set_option maxRecDepth 20000 in
theorem ggL_isPlanSo_X3_byCable : GoodIn wsL_isPlanSo wsX3_byCable := goodIn_ca (goodIn_r _ [23, 12, 24, 25, 26, 5, 27, 28, 29, 7, 30, 31, 32, 13, 14, 15, 16, 17, 18, 19, 193, 194, 195, 196, 197, 198, 199, 200, 201, 202, 203, 204, 205, 206, 207, 208, 209, 210, 211, 212, 213] (by decide +kernel) (by decide +kernel)) (goodIn_sub (fun _ h => List.mem_cons_of_mem _ (List.mem_append_left _ (List.mem_append_left _ (List.mem_append_right _ h)))) (by decide +kernel))
set_option maxRecDepth 20000 in
theorem gL_isPlanSo_X3_byCable : GoodIn wsL_isPlanSo (wsV RL 83 RX3 yX3_byCable wsX3_byCable) := goodIn_app (goodIn_of _ (by decide +kernel)) ggL_isPlanSo_X3_byCable
set_option maxRecDepth 20000 in
theorem ggL_isPlanSo_X3_colour : GoodIn wsL_isPlanSo wsX3_colour := goodIn_ca (goodIn_r _ [36, 37, 24, 25, 26, 5, 27, 28, 29, 7, 30, 31, 32, 13, 14, 15, 16, 17, 18, 19, 193, 194, 195, 196, 197, 198, 199, 200, 201, 202, 203, 204, 205, 206, 207, 208, 209, 210, 211, 212, 213] (by decide +kernel) (by decide +kernel)) (goodIn_sub (fun _ h => List.mem_cons_of_mem _ (List.mem_append_left _ (List.mem_append_left _ (List.mem_append_right _ h)))) (by decide +kernel))
set_option maxRecDepth 20000 in
theorem gL_isPlanSo_X3_colour : GoodIn wsL_isPlanSo (wsV RL 89 RX3 yX3_colour wsX3_colour) := goodIn_app (goodIn_of _ (by decide +kernel)) ggL_isPlanSo_X3_colour
set_option maxRecDepth 20000 in
theorem ggL_isPlanSo_X3_dropPlan : GoodIn wsL_isPlanSo wsX3_dropPlan := goodIn_r _ [41, 42, 43, 44, 45, 46, 47, 48, 49, 50, 51, 52, 193, 194, 195, 196, 197, 198, 199, 200, 201, 202, 203, 204, 205, 206, 207, 208, 209, 210, 211, 214, 215, 216, 217, 218] (by decide +kernel) (by decide +kernel)
set_option maxRecDepth 20000 in
theorem gL_isPlanSo_X3_dropPlan : GoodIn wsL_isPlanSo (wsV RL 64 RX3 yX3_dropPlan wsX3_dropPlan) := goodIn_app (goodIn_of _ (by decide +kernel)) ggL_isPlanSo_X3_dropPlan
set_option maxRecDepth 20000 in
theorem ggL_isPlanSo_L_does : GoodIn wsL_isPlanSo wsL_does := goodIn_ca (goodIn_ca (goodIn_ca (goodIn_r _ [56, 57, 58, 59, 1, 60, 61, 62, 5, 63, 28, 29, 64, 65, 66, 67, 68, 69, 70, 71, 72, 30, 31, 32, 13, 14, 15, 16, 17, 18, 19, 73, 74, 75, 76, 77, 78, 79, 80, 81, 82, 83, 84, 85, 86, 87, 88, 89, 90, 24, 25, 26, 27, 7, 91, 92, 93, 94, 12, 95, 96, 97, 98, 37, 99, 100, 101, 102, 103, 104, 105, 106, 107, 108, 109, 110, 111, 112, 113, 114, 115, 116, 117, 118, 119, 120, 121, 122, 123, 124, 42, 43, 44, 45, 46, 47, 48, 125, 126, 127, 128, 129, 130, 131, 132, 133, 134, 135, 136, 137, 138, 139, 140, 141, 142, 143, 144, 145, 146, 147, 148, 149, 150, 151, 152, 153, 154, 155, 156, 157, 158, 159, 160, 161, 162, 163, 164, 165, 166, 167, 168, 169, 170, 171, 172, 173, 174, 175, 176, 177, 178, 179, 180, 181, 182, 183, 184, 185, 186, 187, 188, 49, 50, 51, 52, 193, 194, 195, 196, 197, 198, 199, 200, 201, 202, 203, 204, 205, 206, 207, 208, 209, 210, 211, 212, 213, 219, 214, 215, 216, 217, 218] (by decide +kernel) (by decide +kernel)) (goodIn_sub (fun _ h => List.mem_cons_of_mem _ (List.mem_append_left _ (List.mem_append_left _ (List.mem_append_right _ h)))) (by decide +kernel))) (goodIn_sub (fun _ h => List.mem_cons_of_mem _ (List.mem_append_left _ (List.mem_append_right _ h))) (by decide +kernel))) (goodIn_sub (fun _ h => List.mem_cons_of_mem _ (List.mem_append_right _ h)) (by decide +kernel))
set_option maxRecDepth 20000 in
theorem gL_isPlanSo_L_does : GoodIn wsL_isPlanSo (va_wsS RL 61 yL_does wsL_does) := goodIn_app (goodIn_of _ (by decide +kernel)) ggL_isPlanSo_L_does
set_option maxRecDepth 20000 in
theorem ggL_isPlanSo_X3_canCarryOut : GoodIn wsL_isPlanSo wsX3_canCarryOut := goodIn_r _ [192, 136, 137, 138, 5, 139, 42, 43, 44, 45, 46, 47, 48, 140, 141, 142, 143, 129, 144, 14, 15, 16, 17, 18, 19, 91, 92, 93, 94, 12, 13, 145, 146, 147, 148, 149, 150, 151, 152, 153, 130, 154, 155, 156, 157, 158, 159, 160, 161, 162, 193, 194, 195, 196, 197, 198, 199, 200, 201, 202, 203, 204, 205, 206, 207, 208, 209, 210, 211, 214, 215, 216, 217, 218, 212, 213] (by decide +kernel) (by decide +kernel)
set_option maxRecDepth 20000 in
theorem gL_isPlanSo_X3_canCarryOut : GoodIn wsL_isPlanSo (wsV RL 79 RX3 yX3_canCarryOut wsX3_canCarryOut) := goodIn_app (goodIn_of _ (by decide +kernel)) ggL_isPlanSo_X3_canCarryOut
theorem dL_isPlanSo_0 : decode cL_isPlanSo 0 = .ok (.aload_n 0, 1) := by decide +kernel
theorem dL_isPlanSo_1 : decode cL_isPlanSo 1 = .ok (.invokevirtual 70, 3) := by decide +kernel
theorem dL_isPlanSo_4 : decode cL_isPlanSo 4 = .ok (.istore 4, 2) := by decide +kernel
theorem dL_isPlanSo_6 : decode cL_isPlanSo 6 = .ok (.aload_n 0, 1) := by decide +kernel
theorem dL_isPlanSo_7 : decode cL_isPlanSo 7 = .ok (.iload_n 2, 1) := by decide +kernel
theorem dL_isPlanSo_8 : decode cL_isPlanSo 8 = .ok (.invokevirtual 83, 3) := by decide +kernel
theorem dL_isPlanSo_11 : decode cL_isPlanSo 11 = .ok (.istore 5, 2) := by decide +kernel
theorem dL_isPlanSo_13 : decode cL_isPlanSo 13 = .ok (.aload_n 0, 1) := by decide +kernel
theorem dL_isPlanSo_14 : decode cL_isPlanSo 14 = .ok (.iload_n 2, 1) := by decide +kernel
theorem dL_isPlanSo_15 : decode cL_isPlanSo 15 = .ok (.invokevirtual 89, 3) := by decide +kernel
theorem dL_isPlanSo_18 : decode cL_isPlanSo 18 = .ok (.istore 6, 2) := by decide +kernel
theorem dL_isPlanSo_20 : decode cL_isPlanSo 20 = .ok (.aload_n 0, 1) := by decide +kernel
theorem dL_isPlanSo_21 : decode cL_isPlanSo 21 = .ok (.invokevirtual 64, 3) := by decide +kernel
theorem dL_isPlanSo_24 : decode cL_isPlanSo 24 = .ok (.pop, 1) := by decide +kernel
theorem dL_isPlanSo_25 : decode cL_isPlanSo 25 = .ok (.aload_n 1, 1) := by decide +kernel
theorem dL_isPlanSo_26 : decode cL_isPlanSo 26 = .ok (.invokevirtual 64, 3) := by decide +kernel
theorem dL_isPlanSo_29 : decode cL_isPlanSo 29 = .ok (.pop, 1) := by decide +kernel
theorem dL_isPlanSo_30 : decode cL_isPlanSo 30 = .ok (.aload_n 0, 1) := by decide +kernel
theorem dL_isPlanSo_31 : decode cL_isPlanSo 31 = .ok (.iconst 3, 1) := by decide +kernel
theorem dL_isPlanSo_32 : decode cL_isPlanSo 32 = .ok (.iload_n 2, 1) := by decide +kernel
theorem dL_isPlanSo_33 : decode cL_isPlanSo 33 = .ok (.iload_n 3, 1) := by decide +kernel
theorem dL_isPlanSo_34 : decode cL_isPlanSo 34 = .ok (.iconst 0, 1) := by decide +kernel
theorem dL_isPlanSo_35 : decode cL_isPlanSo 35 = .ok (.invokestatic 61, 3) := by decide +kernel
theorem dL_isPlanSo_38 : decode cL_isPlanSo 38 = .ok (.istore 7, 2) := by decide +kernel
theorem dL_isPlanSo_40 : decode cL_isPlanSo 40 = .ok (.aload_n 1, 1) := by decide +kernel
theorem dL_isPlanSo_41 : decode cL_isPlanSo 41 = .ok (.iconst 3, 1) := by decide +kernel
theorem dL_isPlanSo_42 : decode cL_isPlanSo 42 = .ok (.iload_n 2, 1) := by decide +kernel
theorem dL_isPlanSo_43 : decode cL_isPlanSo 43 = .ok (.iload_n 3, 1) := by decide +kernel
theorem dL_isPlanSo_44 : decode cL_isPlanSo 44 = .ok (.iconst 0, 1) := by decide +kernel
theorem dL_isPlanSo_45 : decode cL_isPlanSo 45 = .ok (.invokestatic 61, 3) := by decide +kernel
theorem dL_isPlanSo_48 : decode cL_isPlanSo 48 = .ok (.iload 7, 2) := by decide +kernel
theorem dL_isPlanSo_50 : decode cL_isPlanSo 50 = .ok (.if_icmp .ne 31, 3) := by decide +kernel
theorem dL_isPlanSo_53 : decode cL_isPlanSo 53 = .ok (.iload 7, 2) := by decide +kernel
theorem dL_isPlanSo_55 : decode cL_isPlanSo 55 = .ok (.iconst 1, 1) := by decide +kernel
theorem dL_isPlanSo_56 : decode cL_isPlanSo 56 = .ok (.if_icmp .ne 7, 3) := by decide +kernel
theorem dL_isPlanSo_59 : decode cL_isPlanSo 59 = .ok (.iconst 1, 1) := by decide +kernel
theorem dL_isPlanSo_60 : decode cL_isPlanSo 60 = .ok (.goto 4, 3) := by decide +kernel
theorem dL_isPlanSo_63 : decode cL_isPlanSo 63 = .ok (.iconst 0, 1) := by decide +kernel
theorem dL_isPlanSo_64 : decode cL_isPlanSo 64 = .ok (.iload_n 2, 1) := by decide +kernel
theorem dL_isPlanSo_65 : decode cL_isPlanSo 65 = .ok (.iload_n 3, 1) := by decide +kernel
theorem dL_isPlanSo_66 : decode cL_isPlanSo 66 = .ok (.if_icmp .eq 7, 3) := by decide +kernel
theorem dL_isPlanSo_69 : decode cL_isPlanSo 69 = .ok (.iconst 1, 1) := by decide +kernel
theorem dL_isPlanSo_70 : decode cL_isPlanSo 70 = .ok (.goto 4, 3) := by decide +kernel
theorem dL_isPlanSo_73 : decode cL_isPlanSo 73 = .ok (.iconst 0, 1) := by decide +kernel
theorem dL_isPlanSo_74 : decode cL_isPlanSo 74 = .ok (.if_icmp .ne 7, 3) := by decide +kernel
theorem dL_isPlanSo_77 : decode cL_isPlanSo 77 = .ok (.iconst 1, 1) := by decide +kernel
theorem dL_isPlanSo_78 : decode cL_isPlanSo 78 = .ok (.goto 4, 3) := by decide +kernel
theorem dL_isPlanSo_81 : decode cL_isPlanSo 81 = .ok (.iconst 0, 1) := by decide +kernel
theorem dL_isPlanSo_82 : decode cL_isPlanSo 82 = .ok (.istore 8, 2) := by decide +kernel
theorem dL_isPlanSo_84 : decode cL_isPlanSo 84 = .ok (.iload_n 2, 1) := by decide +kernel
theorem dL_isPlanSo_85 : decode cL_isPlanSo 85 = .ok (.iload_n 3, 1) := by decide +kernel
theorem dL_isPlanSo_86 : decode cL_isPlanSo 86 = .ok (.if_icmp .eq 20, 3) := by decide +kernel
theorem dL_isPlanSo_89 : decode cL_isPlanSo 89 = .ok (.iload 5, 2) := by decide +kernel
theorem dL_isPlanSo_91 : decode cL_isPlanSo 91 = .ok (.ifCond .lt 15, 3) := by decide +kernel
theorem dL_isPlanSo_94 : decode cL_isPlanSo 94 = .ok (.aload_n 0, 1) := by decide +kernel
theorem dL_isPlanSo_95 : decode cL_isPlanSo 95 = .ok (.iload_n 3, 1) := by decide +kernel
theorem dL_isPlanSo_96 : decode cL_isPlanSo 96 = .ok (.invokevirtual 83, 3) := by decide +kernel
theorem dL_isPlanSo_99 : decode cL_isPlanSo 99 = .ok (.ifCond .ge 7, 3) := by decide +kernel
theorem dL_isPlanSo_102 : decode cL_isPlanSo 102 = .ok (.iconst 1, 1) := by decide +kernel
theorem dL_isPlanSo_103 : decode cL_isPlanSo 103 = .ok (.goto 4, 3) := by decide +kernel
theorem dL_isPlanSo_106 : decode cL_isPlanSo 106 = .ok (.iconst 0, 1) := by decide +kernel
theorem dL_isPlanSo_107 : decode cL_isPlanSo 107 = .ok (.istore 9, 2) := by decide +kernel
theorem dL_isPlanSo_109 : decode cL_isPlanSo 109 = .ok (.iload_n 2, 1) := by decide +kernel
theorem dL_isPlanSo_110 : decode cL_isPlanSo 110 = .ok (.iload_n 3, 1) := by decide +kernel
theorem dL_isPlanSo_111 : decode cL_isPlanSo 111 = .ok (.if_icmp .ne 43, 3) := by decide +kernel
theorem dL_isPlanSo_114 : decode cL_isPlanSo 114 = .ok (.iload 8, 2) := by decide +kernel
theorem dL_isPlanSo_116 : decode cL_isPlanSo 116 = .ok (.ifCond .eq 36, 3) := by decide +kernel
theorem dL_isPlanSo_119 : decode cL_isPlanSo 119 = .ok (.aload_n 0, 1) := by decide +kernel
theorem dL_isPlanSo_120 : decode cL_isPlanSo 120 = .ok (.invokevirtual 79, 3) := by decide +kernel
theorem dL_isPlanSo_123 : decode cL_isPlanSo 123 = .ok (.ifCond .eq 29, 3) := by decide +kernel
theorem dL_isPlanSo_126 : decode cL_isPlanSo 126 = .ok (.aload_n 0, 1) := by decide +kernel
theorem dL_isPlanSo_127 : decode cL_isPlanSo 127 = .ok (.iconst 4, 1) := by decide +kernel
theorem dL_isPlanSo_128 : decode cL_isPlanSo 128 = .ok (.iconst 0, 1) := by decide +kernel
theorem dL_isPlanSo_129 : decode cL_isPlanSo 129 = .ok (.iconst 0, 1) := by decide +kernel
theorem dL_isPlanSo_130 : decode cL_isPlanSo 130 = .ok (.iconst 0, 1) := by decide +kernel
theorem dL_isPlanSo_131 : decode cL_isPlanSo 131 = .ok (.invokestatic 61, 3) := by decide +kernel
theorem dL_isPlanSo_134 : decode cL_isPlanSo 134 = .ok (.ifCond .ne 18, 3) := by decide +kernel
theorem dL_isPlanSo_137 : decode cL_isPlanSo 137 = .ok (.aload_n 1, 1) := by decide +kernel
theorem dL_isPlanSo_138 : decode cL_isPlanSo 138 = .ok (.iconst 4, 1) := by decide +kernel
theorem dL_isPlanSo_139 : decode cL_isPlanSo 139 = .ok (.iconst 0, 1) := by decide +kernel
theorem dL_isPlanSo_140 : decode cL_isPlanSo 140 = .ok (.iconst 0, 1) := by decide +kernel
theorem dL_isPlanSo_141 : decode cL_isPlanSo 141 = .ok (.iconst 0, 1) := by decide +kernel
theorem dL_isPlanSo_142 : decode cL_isPlanSo 142 = .ok (.invokestatic 61, 3) := by decide +kernel
theorem dL_isPlanSo_145 : decode cL_isPlanSo 145 = .ok (.ifCond .ne 7, 3) := by decide +kernel
theorem dL_isPlanSo_148 : decode cL_isPlanSo 148 = .ok (.iconst 1, 1) := by decide +kernel
theorem dL_isPlanSo_149 : decode cL_isPlanSo 149 = .ok (.goto 4, 3) := by decide +kernel
theorem dL_isPlanSo_152 : decode cL_isPlanSo 152 = .ok (.iconst 0, 1) := by decide +kernel
theorem dL_isPlanSo_153 : decode cL_isPlanSo 153 = .ok (.ireturn, 1) := by decide +kernel
theorem dL_isPlanSo_154 : decode cL_isPlanSo 154 = .ok (.iload 8, 2) := by decide +kernel
theorem dL_isPlanSo_156 : decode cL_isPlanSo 156 = .ok (.ifCond .eq 69, 3) := by decide +kernel
theorem dL_isPlanSo_159 : decode cL_isPlanSo 159 = .ok (.aload_n 0, 1) := by decide +kernel
theorem dL_isPlanSo_160 : decode cL_isPlanSo 160 = .ok (.invokevirtual 79, 3) := by decide +kernel
theorem dL_isPlanSo_163 : decode cL_isPlanSo 163 = .ok (.iload 9, 2) := by decide +kernel
theorem dL_isPlanSo_165 : decode cL_isPlanSo 165 = .ok (.if_icmp .ne 60, 3) := by decide +kernel
theorem dL_isPlanSo_168 : decode cL_isPlanSo 168 = .ok (.aload_n 0, 1) := by decide +kernel
theorem dL_isPlanSo_169 : decode cL_isPlanSo 169 = .ok (.iconst 4, 1) := by decide +kernel
theorem dL_isPlanSo_170 : decode cL_isPlanSo 170 = .ok (.iconst 0, 1) := by decide +kernel
theorem dL_isPlanSo_171 : decode cL_isPlanSo 171 = .ok (.iconst 0, 1) := by decide +kernel
theorem dL_isPlanSo_172 : decode cL_isPlanSo 172 = .ok (.iconst 0, 1) := by decide +kernel
theorem dL_isPlanSo_173 : decode cL_isPlanSo 173 = .ok (.invokestatic 61, 3) := by decide +kernel
theorem dL_isPlanSo_176 : decode cL_isPlanSo 176 = .ok (.iload 9, 2) := by decide +kernel
theorem dL_isPlanSo_178 : decode cL_isPlanSo 178 = .ok (.ifCond .eq 7, 3) := by decide +kernel
theorem dL_isPlanSo_181 : decode cL_isPlanSo 181 = .ok (.iconst 1, 1) := by decide +kernel
theorem dL_isPlanSo_182 : decode cL_isPlanSo 182 = .ok (.goto 5, 3) := by decide +kernel
theorem dL_isPlanSo_185 : decode cL_isPlanSo 185 = .ok (.ldc 16, 2) := by decide +kernel
theorem dL_isPlanSo_187 : decode cL_isPlanSo 187 = .ok (.if_icmp .ne 38, 3) := by decide +kernel
theorem dL_isPlanSo_190 : decode cL_isPlanSo 190 = .ok (.aload_n 1, 1) := by decide +kernel
theorem dL_isPlanSo_191 : decode cL_isPlanSo 191 = .ok (.iconst 4, 1) := by decide +kernel
theorem dL_isPlanSo_192 : decode cL_isPlanSo 192 = .ok (.iconst 0, 1) := by decide +kernel
theorem dL_isPlanSo_193 : decode cL_isPlanSo 193 = .ok (.iconst 0, 1) := by decide +kernel
theorem dL_isPlanSo_194 : decode cL_isPlanSo 194 = .ok (.iconst 0, 1) := by decide +kernel
theorem dL_isPlanSo_195 : decode cL_isPlanSo 195 = .ok (.invokestatic 61, 3) := by decide +kernel
theorem dL_isPlanSo_198 : decode cL_isPlanSo 198 = .ok (.iload 9, 2) := by decide +kernel
theorem dL_isPlanSo_200 : decode cL_isPlanSo 200 = .ok (.ifCond .eq 7, 3) := by decide +kernel
theorem dL_isPlanSo_203 : decode cL_isPlanSo 203 = .ok (.iconst 1, 1) := by decide +kernel
theorem dL_isPlanSo_204 : decode cL_isPlanSo 204 = .ok (.goto 5, 3) := by decide +kernel
theorem dL_isPlanSo_207 : decode cL_isPlanSo 207 = .ok (.ldc 16, 2) := by decide +kernel
theorem dL_isPlanSo_209 : decode cL_isPlanSo 209 = .ok (.if_icmp .ne 16, 3) := by decide +kernel
theorem dL_isPlanSo_212 : decode cL_isPlanSo 212 = .ok (.aload_n 0, 1) := by decide +kernel
theorem dL_isPlanSo_213 : decode cL_isPlanSo 213 = .ok (.invokevirtual 70, 3) := by decide +kernel
theorem dL_isPlanSo_216 : decode cL_isPlanSo 216 = .ok (.iload 4, 2) := by decide +kernel
theorem dL_isPlanSo_218 : decode cL_isPlanSo 218 = .ok (.if_icmp .ne 7, 3) := by decide +kernel
theorem dL_isPlanSo_221 : decode cL_isPlanSo 221 = .ok (.iconst 1, 1) := by decide +kernel
theorem dL_isPlanSo_222 : decode cL_isPlanSo 222 = .ok (.goto 4, 3) := by decide +kernel
theorem dL_isPlanSo_225 : decode cL_isPlanSo 225 = .ok (.iconst 0, 1) := by decide +kernel
theorem dL_isPlanSo_226 : decode cL_isPlanSo 226 = .ok (.istore 8, 2) := by decide +kernel
theorem dL_isPlanSo_228 : decode cL_isPlanSo 228 = .ok (.iload 8, 2) := by decide +kernel
theorem dL_isPlanSo_230 : decode cL_isPlanSo 230 = .ok (.ifCond .eq 74, 3) := by decide +kernel
theorem dL_isPlanSo_233 : decode cL_isPlanSo 233 = .ok (.iload 9, 2) := by decide +kernel
theorem dL_isPlanSo_235 : decode cL_isPlanSo 235 = .ok (.ifCond .eq 31, 3) := by decide +kernel
theorem dL_isPlanSo_238 : decode cL_isPlanSo 238 = .ok (.aload_n 0, 1) := by decide +kernel
theorem dL_isPlanSo_239 : decode cL_isPlanSo 239 = .ok (.iload_n 3, 1) := by decide +kernel
theorem dL_isPlanSo_240 : decode cL_isPlanSo 240 = .ok (.invokevirtual 83, 3) := by decide +kernel
theorem dL_isPlanSo_243 : decode cL_isPlanSo 243 = .ok (.iload 5, 2) := by decide +kernel
theorem dL_isPlanSo_245 : decode cL_isPlanSo 245 = .ok (.if_icmp .ne 59, 3) := by decide +kernel
theorem dL_isPlanSo_248 : decode cL_isPlanSo 248 = .ok (.aload_n 0, 1) := by decide +kernel
theorem dL_isPlanSo_249 : decode cL_isPlanSo 249 = .ok (.iload_n 2, 1) := by decide +kernel
theorem dL_isPlanSo_250 : decode cL_isPlanSo 250 = .ok (.invokevirtual 83, 3) := by decide +kernel
theorem dL_isPlanSo_253 : decode cL_isPlanSo 253 = .ok (.ifCond .ge 51, 3) := by decide +kernel
theorem dL_isPlanSo_256 : decode cL_isPlanSo 256 = .ok (.aload_n 0, 1) := by decide +kernel
theorem dL_isPlanSo_257 : decode cL_isPlanSo 257 = .ok (.iload_n 3, 1) := by decide +kernel
theorem dL_isPlanSo_258 : decode cL_isPlanSo 258 = .ok (.invokevirtual 89, 3) := by decide +kernel
theorem dL_isPlanSo_261 : decode cL_isPlanSo 261 = .ok (.iload 6, 2) := by decide +kernel
theorem dL_isPlanSo_263 : decode cL_isPlanSo 263 = .ok (.if_icmp .ne 41, 3) := by decide +kernel
theorem dL_isPlanSo_266 : decode cL_isPlanSo 266 = .ok (.aload_n 0, 1) := by decide +kernel
theorem dL_isPlanSo_267 : decode cL_isPlanSo 267 = .ok (.invokevirtual 64, 3) := by decide +kernel
theorem dL_isPlanSo_270 : decode cL_isPlanSo 270 = .ok (.iload 9, 2) := by decide +kernel
theorem dL_isPlanSo_272 : decode cL_isPlanSo 272 = .ok (.ifCond .eq 7, 3) := by decide +kernel
theorem dL_isPlanSo_275 : decode cL_isPlanSo 275 = .ok (.iconst 0, 1) := by decide +kernel
theorem dL_isPlanSo_276 : decode cL_isPlanSo 276 = .ok (.goto 4, 3) := by decide +kernel
theorem dL_isPlanSo_279 : decode cL_isPlanSo 279 = .ok (.iconst 1, 1) := by decide +kernel
theorem dL_isPlanSo_280 : decode cL_isPlanSo 280 = .ok (.if_icmp .ne 24, 3) := by decide +kernel
theorem dL_isPlanSo_283 : decode cL_isPlanSo 283 = .ok (.aload_n 1, 1) := by decide +kernel
theorem dL_isPlanSo_284 : decode cL_isPlanSo 284 = .ok (.invokevirtual 64, 3) := by decide +kernel
theorem dL_isPlanSo_287 : decode cL_isPlanSo 287 = .ok (.iload 9, 2) := by decide +kernel
theorem dL_isPlanSo_289 : decode cL_isPlanSo 289 = .ok (.ifCond .eq 7, 3) := by decide +kernel
theorem dL_isPlanSo_292 : decode cL_isPlanSo 292 = .ok (.iconst 0, 1) := by decide +kernel
theorem dL_isPlanSo_293 : decode cL_isPlanSo 293 = .ok (.goto 4, 3) := by decide +kernel
theorem dL_isPlanSo_296 : decode cL_isPlanSo 296 = .ok (.iconst 1, 1) := by decide +kernel
theorem dL_isPlanSo_297 : decode cL_isPlanSo 297 = .ok (.if_icmp .ne 7, 3) := by decide +kernel
theorem dL_isPlanSo_300 : decode cL_isPlanSo 300 = .ok (.iconst 1, 1) := by decide +kernel
theorem dL_isPlanSo_301 : decode cL_isPlanSo 301 = .ok (.goto 4, 3) := by decide +kernel
theorem dL_isPlanSo_304 : decode cL_isPlanSo 304 = .ok (.iconst 0, 1) := by decide +kernel
theorem dL_isPlanSo_305 : decode cL_isPlanSo 305 = .ok (.ireturn, 1) := by decide +kernel
set_option maxRecDepth 20000 in
theorem ggL_law_X3_init : GoodIn wsL_law wsX3_init := goodIn_r _ [6, 7, 8, 9, 10, 11, 12, 13, 14, 15, 16, 17, 18, 19, 20, 21, 22, 23, 24, 25, 26, 27, 28, 29, 30, 31, 32, 33, 34, 35, 36, 37, 38, 39, 40, 41, 42, 43, 44, 45, 46, 47, 48, 49, 50, 51, 52, 53, 54, 55, 56, 57, 58, 59, 60, 61, 62, 63, 64, 403, 404, 384, 385, 386, 387, 388, 389, 390, 391, 392, 393, 394, 395, 396, 397, 398, 399, 400, 401, 402, 405, 406, 407, 408, 409, 410] (by decide +kernel) (by decide +kernel)
set_option maxRecDepth 20000 in
theorem gL_law_X3_init : GoodIn wsL_law (wsX3_init) := ggL_law_X3_init
set_option maxRecDepth 20000 in
theorem ggL_law_L_cell : GoodIn wsL_law wsL_cell := goodIn_r _ [68] (by decide +kernel) (by decide +kernel)
set_option maxRecDepth 20000 in
theorem gL_law_L_cell : GoodIn wsL_law (va_wsS RL 127 yL_cell wsL_cell) := goodIn_app (goodIn_of _ (by decide +kernel)) ggL_law_L_cell
set_option maxRecDepth 20000 in
theorem ggL_law_L_low : GoodIn wsL_law wsL_low := goodIn_r _ [71, 72] (by decide +kernel) (by decide +kernel)
set_option maxRecDepth 20000 in
theorem gL_law_L_low : GoodIn wsL_law (va_wsS RL 47 yL_low wsL_low) := goodIn_app (goodIn_of _ (by decide +kernel)) ggL_law_L_low
set_option maxRecDepth 20000 in
theorem ggL_law_L_addPanel : GoodIn wsL_law wsL_addPanel := goodIn_ca (goodIn_ca (goodIn_r _ [75, 76, 77, 3, 78, 79, 80, 2, 81, 82, 83, 84, 85, 35, 36, 13, 14, 15, 16, 86, 87, 88, 89, 90, 91, 12, 92, 47, 384, 385, 386, 387, 388, 389, 390, 391, 392, 393, 394, 395, 396, 397, 398, 399, 400, 401, 402, 403, 404] (by decide +kernel) (by decide +kernel)) (goodIn_sub (fun _ h => List.mem_append_left _ (List.mem_append_left _ (List.mem_append_right _ h))) (by decide +kernel))) (goodIn_sub (fun _ h => List.mem_append_left _ (List.mem_append_right _ h)) (by decide +kernel))
set_option maxRecDepth 20000 in
theorem gL_law_L_addPanel : GoodIn wsL_law (va_wsS RL 55 yL_addPanel wsL_addPanel) := goodIn_app (goodIn_of _ (by decide +kernel)) ggL_law_L_addPanel
set_option maxRecDepth 20000 in
theorem ggL_law_L_act : GoodIn wsL_law wsL_act := goodIn_ca (goodIn_ca (goodIn_ca (goodIn_r _ [95, 69, 70, 67, 71, 72, 96, 97, 98, 2, 99, 36, 73, 74, 75, 76, 77, 3, 78, 79, 80, 81, 82, 83, 84, 85, 35, 13, 14, 15, 16, 86, 87, 88, 89, 90, 91, 12, 92, 47, 100, 101, 102, 103, 104, 105, 106, 107, 37, 25, 26, 27, 108, 109, 110, 111, 112, 113, 114, 115, 116, 117, 48, 118, 119, 120, 121, 122, 123, 124, 125, 126, 127, 128, 129, 19, 130, 131, 132, 133, 20, 134, 135, 136, 137, 138, 139, 140, 24, 141, 142, 143, 144, 145, 146, 147, 23, 148, 55, 149, 150, 151, 152, 153, 154, 155, 156, 157, 158, 159, 160, 17, 161, 162, 163, 164, 18, 165, 166, 167, 168, 169, 170, 44, 171, 172, 173, 174, 175, 176, 177, 178, 179, 180, 181, 182, 183, 31, 184, 185, 186, 30, 187, 188, 189, 190, 191, 192, 60, 61, 193, 194, 195, 196, 197, 198, 199, 200, 201, 202, 203, 204, 205, 206, 207, 208, 209, 210, 211, 212, 213, 214, 215, 216, 217, 218, 219, 220, 221, 222, 223, 224, 225, 226, 227, 228, 229, 230, 231, 232, 62, 63, 233, 234, 235, 236, 237, 238, 239, 240, 241, 242, 243, 244, 245, 246, 247, 248, 249, 250, 251, 252, 253, 254, 255, 256, 384, 385, 386, 387, 388, 389, 390, 391, 392, 393, 394, 395, 396, 397, 398, 399, 400, 401, 402, 403, 404, 405, 406, 407, 408, 409, 410] (by decide +kernel) (by decide +kernel)) (goodIn_sub (fun _ h => List.mem_append_left _ (List.mem_append_left _ (List.mem_append_right _ h))) (by decide +kernel))) (goodIn_sub (fun _ h => List.mem_append_left _ (List.mem_append_right _ h)) (by decide +kernel))) (goodIn_sub (fun _ h => List.mem_append_right _ h) (by decide +kernel))
set_option maxRecDepth 20000 in
theorem gL_law_L_act : GoodIn wsL_law (va_wsS RL 131 yL_act wsL_act) := goodIn_app (goodIn_of _ (by decide +kernel)) ggL_law_L_act
set_option maxRecDepth 20000 in
theorem ggL_law_L_areAlike : GoodIn wsL_law wsL_areAlike := goodIn_ca (goodIn_r _ [259, 96, 97, 98, 2, 99, 36, 260, 261, 262, 263, 37, 264, 265, 266, 267, 268, 269, 270, 271, 17, 114, 115, 116, 12, 117, 47, 48, 272, 273, 274, 275, 165, 166, 167, 168, 16, 13, 169, 170, 44, 171, 276, 277, 278, 279, 34, 280, 281, 282, 23, 283, 55, 145, 146, 147, 148, 149, 150, 151, 152, 284, 285, 286, 287, 32, 288, 289, 290, 291, 24, 19, 89, 90, 91, 92, 292, 293, 294, 295, 296, 297, 298, 299, 198, 199, 200, 201, 31, 184, 185, 186, 30, 187, 188, 202, 203, 204, 205, 60, 206, 157, 158, 159, 160, 207, 208, 209, 210, 211, 212, 213, 214, 215, 61, 216, 217, 218, 219, 220, 221, 222, 223, 224, 300, 301, 302, 303, 108, 109, 110, 111, 112, 113, 86, 87, 88, 304, 305, 306, 307, 308, 309, 310, 311, 18, 312, 313, 314, 315, 316, 317, 318, 319, 27, 20, 384, 385, 386, 387, 388, 389, 390, 391, 392, 393, 394, 395, 396, 397, 398, 399, 400, 401, 402, 403, 404, 405, 406, 407, 408, 409, 410] (by decide +kernel) (by decide +kernel)) (goodIn_sub (fun _ h => List.mem_append_right _ h) (by decide +kernel))
set_option maxRecDepth 20000 in
theorem gL_law_L_areAlike : GoodIn wsL_law (va_wsS RL 134 yL_areAlike wsL_areAlike) := goodIn_app (goodIn_of _ (by decide +kernel)) ggL_law_L_areAlike
set_option maxRecDepth 20000 in
theorem ggL_law_L_arePortsSo : GoodIn wsL_law wsL_arePortsSo := goodIn_ca (goodIn_r _ [322, 96, 97, 98, 2, 99, 36, 300, 301, 302, 303, 17, 108, 109, 110, 111, 112, 113, 86, 87, 88, 114, 115, 116, 12, 117, 47, 48, 304, 305, 306, 307, 19, 308, 309, 310, 311, 18, 312, 313, 314, 315, 16, 264, 265, 266, 267, 268, 269, 270, 271, 272, 273, 274, 275, 165, 166, 167, 168, 13, 169, 170, 44, 171, 323, 324, 67, 325, 103, 3, 326, 327, 328, 329, 14, 15, 330, 331, 332, 333, 35, 157, 158, 159, 160, 126, 127, 128, 129, 260, 261, 262, 263, 37, 334, 335, 336, 337, 25, 26, 141, 142, 143, 144, 384, 385, 386, 387, 388, 389, 390, 391, 392, 393, 394, 395, 396, 397, 398, 399, 400, 401, 402, 403, 404] (by decide +kernel) (by decide +kernel)) (goodIn_sub (fun _ h => List.mem_append_right _ h) (by decide +kernel))
set_option maxRecDepth 20000 in
theorem gL_law_L_arePortsSo : GoodIn wsL_law (va_wsS RL 138 yL_arePortsSo wsL_arePortsSo) := goodIn_app (goodIn_of _ (by decide +kernel)) ggL_law_L_arePortsSo
set_option maxRecDepth 20000 in
theorem ggL_law_L_areLinesSo : GoodIn wsL_law wsL_areLinesSo := goodIn_ca (goodIn_r _ [340, 96, 97, 98, 2, 99, 36, 341, 342, 343, 344, 108, 109, 110, 111, 112, 113, 86, 87, 88, 284, 285, 286, 287, 17, 32, 114, 115, 116, 12, 117, 47, 48, 288, 289, 290, 291, 24, 19, 145, 146, 147, 23, 148, 55, 89, 90, 91, 92, 345, 346, 347, 348, 69, 70, 67, 71, 72, 349, 350, 351, 352, 353, 354, 355, 356, 357, 358, 359, 360, 361, 362, 363, 364, 365, 366, 367, 368, 34, 369, 370, 371, 372, 33, 280, 281, 282, 283, 373, 374, 375, 376, 149, 150, 151, 152, 377, 378, 379, 380, 316, 317, 318, 319, 27, 20, 165, 166, 167, 168, 16, 13, 169, 170, 44, 171, 276, 277, 278, 279, 292, 293, 294, 295, 384, 385, 386, 387, 388, 389, 390, 391, 392, 393, 394, 395, 396, 397, 398, 399, 400, 401, 402, 403, 404, 405] (by decide +kernel) (by decide +kernel)) (goodIn_sub (fun _ h => List.mem_append_right _ h) (by decide +kernel))
set_option maxRecDepth 20000 in
theorem gL_law_L_areLinesSo : GoodIn wsL_law (va_wsS RL 142 yL_areLinesSo wsL_areLinesSo) := goodIn_app (goodIn_of _ (by decide +kernel)) ggL_law_L_areLinesSo
set_option maxRecDepth 20000 in
theorem ggL_law_X3_ports : GoodIn wsL_law wsX3_ports := goodIn_r _ [99, 36, 384, 385, 386, 387, 388, 389, 390, 391, 392, 393, 394, 395, 396, 397, 398, 399, 400, 401, 402] (by decide +kernel) (by decide +kernel)
set_option maxRecDepth 20000 in
theorem gL_law_X3_ports : GoodIn wsL_law (wsV RL 52 RX3 yX3_ports wsX3_ports) := goodIn_app (goodIn_of _ (by decide +kernel)) ggL_law_X3_ports
set_option maxRecDepth 20000 in
theorem ggL_law_L_isPlanSo : GoodIn wsL_law wsL_isPlanSo := goodIn_ca (goodIn_ca (goodIn_ca (goodIn_r _ [383, 3, 264, 265, 266, 2, 267, 36, 268, 269, 270, 271, 17, 114, 115, 116, 12, 117, 47, 48, 300, 301, 302, 303, 108, 109, 110, 111, 112, 113, 86, 87, 88, 308, 309, 310, 311, 18, 253, 254, 255, 256, 31, 184, 185, 186, 30, 187, 188, 249, 250, 251, 252, 134, 135, 67, 136, 103, 76, 77, 137, 138, 139, 140, 26, 25, 24, 19, 141, 142, 143, 144, 37, 145, 146, 147, 23, 148, 55, 149, 150, 151, 152, 153, 154, 155, 156, 82, 83, 84, 85, 157, 158, 159, 160, 161, 162, 163, 164, 89, 90, 91, 92, 165, 166, 167, 168, 16, 13, 169, 170, 44, 171, 172, 173, 174, 175, 176, 177, 178, 179, 180, 181, 182, 183, 189, 190, 191, 192, 60, 61, 193, 194, 195, 196, 197, 198, 199, 200, 201, 202, 203, 204, 205, 206, 207, 208, 209, 210, 211, 212, 213, 214, 215, 216, 217, 218, 219, 220, 221, 222, 223, 224, 225, 226, 227, 228, 229, 230, 231, 232, 62, 63, 233, 234, 235, 236, 237, 238, 239, 240, 241, 242, 243, 244, 245, 246, 247, 248, 296, 297, 298, 299, 384, 385, 386, 387, 388, 389, 390, 391, 392, 393, 394, 395, 396, 397, 398, 399, 400, 401, 402, 403, 404, 406, 407, 408, 409, 410, 405] (by decide +kernel) (by decide +kernel)) (goodIn_sub (fun _ h => List.mem_append_right _ h) (by decide +kernel))) (goodIn_sub (fun _ h => List.mem_append_left _ (List.mem_append_left _ (List.mem_append_right _ h))) (by decide +kernel))) (goodIn_sub (fun _ h => List.mem_append_left _ (List.mem_append_right _ h)) (by decide +kernel))
set_option maxRecDepth 20000 in
theorem gL_law_L_isPlanSo : GoodIn wsL_law (va_wsS RL 146 yL_isPlanSo wsL_isPlanSo) := goodIn_app (goodIn_of _ (by decide +kernel)) ggL_law_L_isPlanSo
theorem dL_law_0 : decode cL_law 0 = .ok (.new 9, 3) := by decide +kernel
theorem dL_law_3 : decode cL_law 3 = .ok (.dup, 1) := by decide +kernel
theorem dL_law_4 : decode cL_law 4 = .ok (.invokespecial 126, 3) := by decide +kernel
theorem dL_law_7 : decode cL_law 7 = .ok (.astore_n 1, 1) := by decide +kernel
theorem dL_law_8 : decode cL_law 8 = .ok (.new 9, 3) := by decide +kernel
theorem dL_law_11 : decode cL_law 11 = .ok (.dup, 1) := by decide +kernel
theorem dL_law_12 : decode cL_law 12 = .ok (.invokespecial 126, 3) := by decide +kernel
theorem dL_law_15 : decode cL_law 15 = .ok (.astore_n 2, 1) := by decide +kernel
theorem dL_law_16 : decode cL_law 16 = .ok (.iconst 1, 1) := by decide +kernel
theorem dL_law_17 : decode cL_law 17 = .ok (.istore_n 3, 1) := by decide +kernel
theorem dL_law_18 : decode cL_law 18 = .ok (.iconst 0, 1) := by decide +kernel
theorem dL_law_19 : decode cL_law 19 = .ok (.istore 4, 2) := by decide +kernel
theorem dL_law_21 : decode cL_law 21 = .ok (.iload 4, 2) := by decide +kernel
theorem dL_law_23 : decode cL_law 23 = .ok (.iconst 3, 1) := by decide +kernel
theorem dL_law_24 : decode cL_law 24 = .ok (.if_icmp .ge 74, 3) := by decide +kernel
theorem dL_law_27 : decode cL_law 27 = .ok (.aload_n 0, 1) := by decide +kernel
theorem dL_law_28 : decode cL_law 28 = .ok (.iload 4, 2) := by decide +kernel
theorem dL_law_30 : decode cL_law 30 = .ok (.invokestatic 127, 3) := by decide +kernel
theorem dL_law_33 : decode cL_law 33 = .ok (.istore 5, 2) := by decide +kernel
theorem dL_law_35 : decode cL_law 35 = .ok (.iload_n 3, 1) := by decide +kernel
theorem dL_law_36 : decode cL_law 36 = .ok (.ifCond .eq 54, 3) := by decide +kernel
theorem dL_law_39 : decode cL_law 39 = .ok (.aload_n 1, 1) := by decide +kernel
theorem dL_law_40 : decode cL_law 40 = .ok (.iload 5, 2) := by decide +kernel
theorem dL_law_42 : decode cL_law 42 = .ok (.bipush 10, 2) := by decide +kernel
theorem dL_law_44 : decode cL_law 44 = .ok (.invokestatic 47, 3) := by decide +kernel
theorem dL_law_47 : decode cL_law 47 = .ok (.iconst 2, 1) := by decide +kernel
theorem dL_law_48 : decode cL_law 48 = .ok (.iload 5, 2) := by decide +kernel
theorem dL_law_50 : decode cL_law 50 = .ok (.iconst 4, 1) := by decide +kernel
theorem dL_law_51 : decode cL_law 51 = .ok (.ishr, 1) := by decide +kernel
theorem dL_law_52 : decode cL_law 52 = .ok (.bipush 10, 2) := by decide +kernel
theorem dL_law_54 : decode cL_law 54 = .ok (.invokestatic 47, 3) := by decide +kernel
theorem dL_law_57 : decode cL_law 57 = .ok (.iadd, 1) := by decide +kernel
theorem dL_law_58 : decode cL_law 58 = .ok (.invokestatic 55, 3) := by decide +kernel
theorem dL_law_61 : decode cL_law 61 = .ok (.aload_n 2, 1) := by decide +kernel
theorem dL_law_62 : decode cL_law 62 = .ok (.iload 5, 2) := by decide +kernel
theorem dL_law_64 : decode cL_law 64 = .ok (.bipush 10, 2) := by decide +kernel
theorem dL_law_66 : decode cL_law 66 = .ok (.invokestatic 47, 3) := by decide +kernel
theorem dL_law_69 : decode cL_law 69 = .ok (.iconst 2, 1) := by decide +kernel
theorem dL_law_70 : decode cL_law 70 = .ok (.iload 5, 2) := by decide +kernel
theorem dL_law_72 : decode cL_law 72 = .ok (.iconst 4, 1) := by decide +kernel
theorem dL_law_73 : decode cL_law 73 = .ok (.ishr, 1) := by decide +kernel
theorem dL_law_74 : decode cL_law 74 = .ok (.bipush 10, 2) := by decide +kernel
theorem dL_law_76 : decode cL_law 76 = .ok (.invokestatic 47, 3) := by decide +kernel
theorem dL_law_79 : decode cL_law 79 = .ok (.iadd, 1) := by decide +kernel
theorem dL_law_80 : decode cL_law 80 = .ok (.invokestatic 55, 3) := by decide +kernel
theorem dL_law_83 : decode cL_law 83 = .ok (.if_icmp .ne 7, 3) := by decide +kernel
theorem dL_law_86 : decode cL_law 86 = .ok (.iconst 1, 1) := by decide +kernel
theorem dL_law_87 : decode cL_law 87 = .ok (.goto 4, 3) := by decide +kernel
theorem dL_law_90 : decode cL_law 90 = .ok (.iconst 0, 1) := by decide +kernel
theorem dL_law_91 : decode cL_law 91 = .ok (.istore_n 3, 1) := by decide +kernel
theorem dL_law_92 : decode cL_law 92 = .ok (.iinc 4 1, 3) := by decide +kernel
theorem dL_law_95 : decode cL_law 95 = .ok (.goto (-74), 3) := by decide +kernel
theorem dL_law_98 : decode cL_law 98 = .ok (.iconst 3, 1) := by decide +kernel
theorem dL_law_99 : decode cL_law 99 = .ok (.istore 4, 2) := by decide +kernel
theorem dL_law_101 : decode cL_law 101 = .ok (.iload 4, 2) := by decide +kernel
theorem dL_law_103 : decode cL_law 103 = .ok (.bipush 72, 2) := by decide +kernel
theorem dL_law_105 : decode cL_law 105 = .ok (.if_icmp .ge 152, 3) := by decide +kernel
theorem dL_law_108 : decode cL_law 108 = .ok (.iload_n 3, 1) := by decide +kernel
theorem dL_law_109 : decode cL_law 109 = .ok (.ifCond .eq 148, 3) := by decide +kernel
theorem dL_law_112 : decode cL_law 112 = .ok (.aload_n 0, 1) := by decide +kernel
theorem dL_law_113 : decode cL_law 113 = .ok (.iload 4, 2) := by decide +kernel
theorem dL_law_115 : decode cL_law 115 = .ok (.invokestatic 127, 3) := by decide +kernel
theorem dL_law_118 : decode cL_law 118 = .ok (.istore 5, 2) := by decide +kernel
theorem dL_law_120 : decode cL_law 120 = .ok (.aload_n 1, 1) := by decide +kernel
theorem dL_law_121 : decode cL_law 121 = .ok (.iload 5, 2) := by decide +kernel
theorem dL_law_123 : decode cL_law 123 = .ok (.invokestatic 131, 3) := by decide +kernel
theorem dL_law_126 : decode cL_law 126 = .ok (.istore 6, 2) := by decide +kernel
theorem dL_law_128 : decode cL_law 128 = .ok (.iload 6, 2) := by decide +kernel
theorem dL_law_130 : decode cL_law 130 = .ok (.ldc 16, 2) := by decide +kernel
theorem dL_law_132 : decode cL_law 132 = .ok (.if_icmp .eq 14, 3) := by decide +kernel
theorem dL_law_135 : decode cL_law 135 = .ok (.aload_n 2, 1) := by decide +kernel
theorem dL_law_136 : decode cL_law 136 = .ok (.iload 5, 2) := by decide +kernel
theorem dL_law_138 : decode cL_law 138 = .ok (.invokestatic 131, 3) := by decide +kernel
theorem dL_law_141 : decode cL_law 141 = .ok (.iload 6, 2) := by decide +kernel
theorem dL_law_143 : decode cL_law 143 = .ok (.if_icmp .ne 56, 3) := by decide +kernel
theorem dL_law_146 : decode cL_law 146 = .ok (.iload 4, 2) := by decide +kernel
theorem dL_law_148 : decode cL_law 148 = .ok (.iconst 4, 1) := by decide +kernel
theorem dL_law_149 : decode cL_law 149 = .ok (.irem, 1) := by decide +kernel
theorem dL_law_150 : decode cL_law 150 = .ok (.iconst 3, 1) := by decide +kernel
theorem dL_law_151 : decode cL_law 151 = .ok (.if_icmp .ne 11, 3) := by decide +kernel
theorem dL_law_154 : decode cL_law 154 = .ok (.aload_n 1, 1) := by decide +kernel
theorem dL_law_155 : decode cL_law 155 = .ok (.aload_n 2, 1) := by decide +kernel
theorem dL_law_156 : decode cL_law 156 = .ok (.invokestatic 134, 3) := by decide +kernel
theorem dL_law_159 : decode cL_law 159 = .ok (.ifCond .eq 40, 3) := by decide +kernel
theorem dL_law_162 : decode cL_law 162 = .ok (.iload 4, 2) := by decide +kernel
theorem dL_law_164 : decode cL_law 164 = .ok (.iconst 3, 1) := by decide +kernel
theorem dL_law_165 : decode cL_law 165 = .ok (.irem, 1) := by decide +kernel
theorem dL_law_166 : decode cL_law 166 = .ok (.iconst 1, 1) := by decide +kernel
theorem dL_law_167 : decode cL_law 167 = .ok (.if_icmp .ne 10, 3) := by decide +kernel
theorem dL_law_170 : decode cL_law 170 = .ok (.aload_n 1, 1) := by decide +kernel
theorem dL_law_171 : decode cL_law 171 = .ok (.invokestatic 138, 3) := by decide +kernel
theorem dL_law_174 : decode cL_law 174 = .ok (.ifCond .eq 25, 3) := by decide +kernel
theorem dL_law_177 : decode cL_law 177 = .ok (.iload 4, 2) := by decide +kernel
theorem dL_law_179 : decode cL_law 179 = .ok (.bipush 8, 2) := by decide +kernel
theorem dL_law_181 : decode cL_law 181 = .ok (.irem, 1) := by decide +kernel
theorem dL_law_182 : decode cL_law 182 = .ok (.iconst 2, 1) := by decide +kernel
theorem dL_law_183 : decode cL_law 183 = .ok (.if_icmp .ne 12, 3) := by decide +kernel
theorem dL_law_186 : decode cL_law 186 = .ok (.aload_n 1, 1) := by decide +kernel
theorem dL_law_187 : decode cL_law 187 = .ok (.iload 5, 2) := by decide +kernel
theorem dL_law_189 : decode cL_law 189 = .ok (.invokestatic 142, 3) := by decide +kernel
theorem dL_law_192 : decode cL_law 192 = .ok (.ifCond .eq 7, 3) := by decide +kernel
theorem dL_law_195 : decode cL_law 195 = .ok (.iconst 1, 1) := by decide +kernel
theorem dL_law_196 : decode cL_law 196 = .ok (.goto 4, 3) := by decide +kernel
theorem dL_law_199 : decode cL_law 199 = .ok (.iconst 0, 1) := by decide +kernel
theorem dL_law_200 : decode cL_law 200 = .ok (.istore_n 3, 1) := by decide +kernel
theorem dL_law_201 : decode cL_law 201 = .ok (.iload 4, 2) := by decide +kernel
theorem dL_law_203 : decode cL_law 203 = .ok (.bipush 9, 2) := by decide +kernel
theorem dL_law_205 : decode cL_law 205 = .ok (.irem, 1) := by decide +kernel
theorem dL_law_206 : decode cL_law 206 = .ok (.iconst 5, 1) := by decide +kernel
theorem dL_law_207 : decode cL_law 207 = .ok (.if_icmp .ne 44, 3) := by decide +kernel
theorem dL_law_210 : decode cL_law 210 = .ok (.iload_n 3, 1) := by decide +kernel
theorem dL_law_211 : decode cL_law 211 = .ok (.ifCond .eq 38, 3) := by decide +kernel
theorem dL_law_214 : decode cL_law 214 = .ok (.aload_n 1, 1) := by decide +kernel
theorem dL_law_215 : decode cL_law 215 = .ok (.aload_n 2, 1) := by decide +kernel
theorem dL_law_216 : decode cL_law 216 = .ok (.iload 5, 2) := by decide +kernel
theorem dL_law_218 : decode cL_law 218 = .ok (.iconst 3, 1) := by decide +kernel
theorem dL_law_219 : decode cL_law 219 = .ok (.ishr, 1) := by decide +kernel
theorem dL_law_220 : decode cL_law 220 = .ok (.aload_n 1, 1) := by decide +kernel
theorem dL_law_221 : decode cL_law 221 = .ok (.invokevirtual 52, 3) := by decide +kernel
theorem dL_law_224 : decode cL_law 224 = .ok (.invokestatic 47, 3) := by decide +kernel
theorem dL_law_227 : decode cL_law 227 = .ok (.iload 5, 2) := by decide +kernel
theorem dL_law_229 : decode cL_law 229 = .ok (.bipush 8, 2) := by decide +kernel
theorem dL_law_231 : decode cL_law 231 = .ok (.ishr, 1) := by decide +kernel
theorem dL_law_232 : decode cL_law 232 = .ok (.aload_n 1, 1) := by decide +kernel
theorem dL_law_233 : decode cL_law 233 = .ok (.invokevirtual 52, 3) := by decide +kernel
theorem dL_law_236 : decode cL_law 236 = .ok (.invokestatic 47, 3) := by decide +kernel
theorem dL_law_239 : decode cL_law 239 = .ok (.invokestatic 146, 3) := by decide +kernel
theorem dL_law_242 : decode cL_law 242 = .ok (.ifCond .eq 7, 3) := by decide +kernel
theorem dL_law_245 : decode cL_law 245 = .ok (.iconst 1, 1) := by decide +kernel
theorem dL_law_246 : decode cL_law 246 = .ok (.goto 4, 3) := by decide +kernel
theorem dL_law_249 : decode cL_law 249 = .ok (.iconst 0, 1) := by decide +kernel
theorem dL_law_250 : decode cL_law 250 = .ok (.istore_n 3, 1) := by decide +kernel
theorem dL_law_251 : decode cL_law 251 = .ok (.iinc 4 1, 3) := by decide +kernel
theorem dL_law_254 : decode cL_law 254 = .ok (.goto (-153), 3) := by decide +kernel
theorem dL_law_257 : decode cL_law 257 = .ok (.iload_n 3, 1) := by decide +kernel
theorem dL_law_258 : decode cL_law 258 = .ok (.ifCond .eq 31, 3) := by decide +kernel
theorem dL_law_261 : decode cL_law 261 = .ok (.aload_n 1, 1) := by decide +kernel
theorem dL_law_262 : decode cL_law 262 = .ok (.aload_n 2, 1) := by decide +kernel
theorem dL_law_263 : decode cL_law 263 = .ok (.invokestatic 134, 3) := by decide +kernel
theorem dL_law_266 : decode cL_law 266 = .ok (.ifCond .eq 23, 3) := by decide +kernel
theorem dL_law_269 : decode cL_law 269 = .ok (.aload_n 1, 1) := by decide +kernel
theorem dL_law_270 : decode cL_law 270 = .ok (.invokestatic 138, 3) := by decide +kernel
theorem dL_law_273 : decode cL_law 273 = .ok (.ifCond .eq 16, 3) := by decide +kernel
theorem dL_law_276 : decode cL_law 276 = .ok (.aload_n 1, 1) := by decide +kernel
theorem dL_law_277 : decode cL_law 277 = .ok (.bipush 99, 2) := by decide +kernel
theorem dL_law_279 : decode cL_law 279 = .ok (.invokestatic 142, 3) := by decide +kernel
theorem dL_law_282 : decode cL_law 282 = .ok (.ifCond .eq 7, 3) := by decide +kernel
theorem dL_law_285 : decode cL_law 285 = .ok (.iconst 1, 1) := by decide +kernel
theorem dL_law_286 : decode cL_law 286 = .ok (.goto 4, 3) := by decide +kernel
theorem dL_law_289 : decode cL_law 289 = .ok (.iconst 0, 1) := by decide +kernel
theorem dL_law_290 : decode cL_law 290 = .ok (.ireturn, 1) := by decide +kernel
abbrev vwCl : List vw_C := [(RX0, TX0, 1), (RX1, TX1, 5), (RX2, TX2, 2), (RX3, TX3, 19)]
