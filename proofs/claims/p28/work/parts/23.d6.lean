theorem e_X11_put_0 : g_dc cX11_put 0 (.iload_n 2) 1 1 := ⟨by decide +kernel, rfl⟩
theorem e_X11_put_1 : g_dc cX11_put 1 (.bipush 10) 2 3 := ⟨by decide +kernel, rfl⟩
theorem e_X11_put_3 : g_dc cX11_put 3 (.bipush 12) 2 5 := ⟨by decide +kernel, rfl⟩
theorem e_X11_put_5 : g_dc cX11_put 5 (.invokestatic 165) 3 8 := ⟨by decide +kernel, rfl⟩
theorem e_X11_put_8 : g_dc cX11_put 8 (.ifCond .ne 21) 3 11 := ⟨by decide +kernel, rfl⟩
theorem e_X11_put_11 : g_dc cX11_put 11 (.iload_n 2) 1 12 := ⟨by decide +kernel, rfl⟩
theorem e_X11_put_12 : g_dc cX11_put 12 (.iconst 0) 1 13 := ⟨by decide +kernel, rfl⟩
theorem e_X11_put_13 : g_dc cX11_put 13 (.bipush 9) 2 15 := ⟨by decide +kernel, rfl⟩
theorem e_X11_put_15 : g_dc cX11_put 15 (.invokestatic 165) 3 18 := ⟨by decide +kernel, rfl⟩
theorem e_X11_put_18 : g_dc cX11_put 18 (.ifCond .eq 15) 3 21 := ⟨by decide +kernel, rfl⟩
theorem e_X11_put_21 : g_dc cX11_put 21 (.iload_n 1) 1 22 := ⟨by decide +kernel, rfl⟩
theorem e_X11_put_22 : g_dc cX11_put 22 (.iload_n 2) 1 23 := ⟨by decide +kernel, rfl⟩
theorem e_X11_put_23 : g_dc cX11_put 23 (.invokestatic 175) 3 26 := ⟨by decide +kernel, rfl⟩
theorem e_X11_put_26 : g_dc cX11_put 26 (.ifCond .eq 7) 3 29 := ⟨by decide +kernel, rfl⟩
theorem e_X11_put_29 : g_dc cX11_put 29 (.iconst 1) 1 30 := ⟨by decide +kernel, rfl⟩
theorem e_X11_put_30 : g_dc cX11_put 30 (.goto 4) 3 33 := ⟨by decide +kernel, rfl⟩
theorem e_X11_put_33 : g_dc cX11_put 33 (.iconst 0) 1 34 := ⟨by decide +kernel, rfl⟩
theorem e_X11_put_34 : g_dc cX11_put 34 (.istore_n 3) 1 35 := ⟨by decide +kernel, rfl⟩
theorem e_X11_put_35 : g_dc cX11_put 35 (.iload_n 1) 1 36 := ⟨by decide +kernel, rfl⟩
theorem e_X11_put_36 : g_dc cX11_put 36 (.aload_n 0) 1 37 := ⟨by decide +kernel, rfl⟩
theorem e_X11_put_37 : g_dc cX11_put 37 (.getfield 172) 3 40 := ⟨by decide +kernel, rfl⟩
theorem e_X11_put_40 : g_dc cX11_put 40 (.iconst (-1)) 1 41 := ⟨by decide +kernel, rfl⟩
theorem e_X11_put_41 : g_dc cX11_put 41 (.ixor) 1 42 := ⟨by decide +kernel, rfl⟩
theorem e_X11_put_42 : g_dc cX11_put 42 (.iand) 1 43 := ⟨by decide +kernel, rfl⟩
theorem e_X11_put_43 : g_dc cX11_put 43 (.ifCond .ne 19) 3 46 := ⟨by decide +kernel, rfl⟩
theorem e_X11_put_46 : g_dc cX11_put 46 (.iload_n 1) 1 47 := ⟨by decide +kernel, rfl⟩
theorem e_X11_put_47 : g_dc cX11_put 47 (.invokestatic 410) 3 50 := ⟨by decide +kernel, rfl⟩
theorem e_X11_put_50 : g_dc cX11_put 50 (.iconst 2) 1 51 := ⟨by decide +kernel, rfl⟩
theorem e_X11_put_51 : g_dc cX11_put 51 (.iconst 5) 1 52 := ⟨by decide +kernel, rfl⟩
theorem e_X11_put_52 : g_dc cX11_put 52 (.invokestatic 165) 3 55 := ⟨by decide +kernel, rfl⟩
theorem e_X11_put_55 : g_dc cX11_put 55 (.ifCond .eq 7) 3 58 := ⟨by decide +kernel, rfl⟩
theorem e_X11_put_58 : g_dc cX11_put 58 (.iload_n 3) 1 59 := ⟨by decide +kernel, rfl⟩
theorem e_X11_put_59 : g_dc cX11_put 59 (.ifCond .ne 5) 3 62 := ⟨by decide +kernel, rfl⟩
theorem e_X11_put_62 : g_dc cX11_put 62 (.iconst (-1)) 1 63 := ⟨by decide +kernel, rfl⟩
theorem e_X11_put_63 : g_dc cX11_put 63 (.ireturn) 1 64 := ⟨by decide +kernel, rfl⟩
theorem e_X11_put_64 : g_dc cX11_put 64 (.aload_n 0) 1 65 := ⟨by decide +kernel, rfl⟩
theorem e_X11_put_65 : g_dc cX11_put 65 (.iconst 0) 1 66 := ⟨by decide +kernel, rfl⟩
theorem e_X11_put_66 : g_dc cX11_put 66 (.putfield 464) 3 69 := ⟨by decide +kernel, rfl⟩
theorem e_X11_put_69 : g_dc cX11_put 69 (.iconst 0) 1 70 := ⟨by decide +kernel, rfl⟩
theorem e_X11_put_70 : g_dc cX11_put 70 (.istore 4) 2 72 := ⟨by decide +kernel, rfl⟩
theorem e_X11_put_72 : g_dc cX11_put 72 (.iload 4) 2 74 := ⟨by decide +kernel, rfl⟩
theorem e_X11_put_74 : g_dc cX11_put 74 (.bipush 10) 2 76 := ⟨by decide +kernel, rfl⟩
theorem e_X11_put_76 : g_dc cX11_put 76 (.if_icmp .ge 42) 3 79 := ⟨by decide +kernel, rfl⟩
theorem e_X11_put_79 : g_dc cX11_put 79 (.iload_n 1) 1 80 := ⟨by decide +kernel, rfl⟩
theorem e_X11_put_80 : g_dc cX11_put 80 (.iload 4) 2 82 := ⟨by decide +kernel, rfl⟩
theorem e_X11_put_82 : g_dc cX11_put 82 (.invokestatic 175) 3 85 := ⟨by decide +kernel, rfl⟩
theorem e_X11_put_85 : g_dc cX11_put 85 (.ifCond .ne 6) 3 88 := ⟨by decide +kernel, rfl⟩
theorem e_X11_put_88 : g_dc cX11_put 88 (.goto 24) 3 91 := ⟨by decide +kernel, rfl⟩
theorem e_X11_put_91 : g_dc cX11_put 91 (.aload_n 0) 1 92 := ⟨by decide +kernel, rfl⟩
theorem e_X11_put_92 : g_dc cX11_put 92 (.getfield 122) 3 95 := ⟨by decide +kernel, rfl⟩
theorem e_X11_put_95 : g_dc cX11_put 95 (.aload_n 0) 1 96 := ⟨by decide +kernel, rfl⟩
theorem e_X11_put_96 : g_dc cX11_put 96 (.getfield 464) 3 99 := ⟨by decide +kernel, rfl⟩
theorem e_X11_put_99 : g_dc cX11_put 99 (.iload 4) 2 101 := ⟨by decide +kernel, rfl⟩
theorem e_X11_put_101 : g_dc cX11_put 101 (.iastore) 1 102 := ⟨by decide +kernel, rfl⟩
theorem e_X11_put_102 : g_dc cX11_put 102 (.aload_n 0) 1 103 := ⟨by decide +kernel, rfl⟩
theorem e_X11_put_103 : g_dc cX11_put 103 (.aload_n 0) 1 104 := ⟨by decide +kernel, rfl⟩
theorem e_X11_put_104 : g_dc cX11_put 104 (.getfield 464) 3 107 := ⟨by decide +kernel, rfl⟩
theorem e_X11_put_107 : g_dc cX11_put 107 (.iconst 1) 1 108 := ⟨by decide +kernel, rfl⟩
theorem e_X11_put_108 : g_dc cX11_put 108 (.iadd) 1 109 := ⟨by decide +kernel, rfl⟩
theorem e_X11_put_109 : g_dc cX11_put 109 (.putfield 464) 3 112 := ⟨by decide +kernel, rfl⟩
theorem e_X11_put_112 : g_dc cX11_put 112 (.iinc 4 1) 3 115 := ⟨by decide +kernel, rfl⟩
theorem e_X11_put_115 : g_dc cX11_put 115 (.goto (-43)) 3 118 := ⟨by decide +kernel, rfl⟩
theorem e_X11_put_118 : g_dc cX11_put 118 (.iconst 1) 1 119 := ⟨by decide +kernel, rfl⟩
theorem e_X11_put_119 : g_dc cX11_put 119 (.istore 4) 2 121 := ⟨by decide +kernel, rfl⟩
theorem e_X11_put_121 : g_dc cX11_put 121 (.iconst 0) 1 122 := ⟨by decide +kernel, rfl⟩
theorem e_X11_put_122 : g_dc cX11_put 122 (.istore 5) 2 124 := ⟨by decide +kernel, rfl⟩
theorem e_X11_put_124 : g_dc cX11_put 124 (.iload 5) 2 126 := ⟨by decide +kernel, rfl⟩
theorem e_X11_put_126 : g_dc cX11_put 126 (.aload_n 0) 1 127 := ⟨by decide +kernel, rfl⟩
theorem e_X11_put_127 : g_dc cX11_put 127 (.getfield 464) 3 130 := ⟨by decide +kernel, rfl⟩
theorem e_X11_put_130 : g_dc cX11_put 130 (.if_icmp .ge 18) 3 133 := ⟨by decide +kernel, rfl⟩
theorem e_X11_put_133 : g_dc cX11_put 133 (.iload 4) 2 135 := ⟨by decide +kernel, rfl⟩
theorem e_X11_put_135 : g_dc cX11_put 135 (.aload_n 0) 1 136 := ⟨by decide +kernel, rfl⟩
theorem e_X11_put_136 : g_dc cX11_put 136 (.getfield 464) 3 139 := ⟨by decide +kernel, rfl⟩
theorem e_X11_put_139 : g_dc cX11_put 139 (.imul) 1 140 := ⟨by decide +kernel, rfl⟩
theorem e_X11_put_140 : g_dc cX11_put 140 (.istore 4) 2 142 := ⟨by decide +kernel, rfl⟩
theorem e_X11_put_142 : g_dc cX11_put 142 (.iinc 5 1) 3 145 := ⟨by decide +kernel, rfl⟩
theorem e_X11_put_145 : g_dc cX11_put 145 (.goto (-21)) 3 148 := ⟨by decide +kernel, rfl⟩
theorem e_X11_put_148 : g_dc cX11_put 148 (.aload_n 0) 1 149 := ⟨by decide +kernel, rfl⟩
theorem e_X11_put_149 : g_dc cX11_put 149 (.invokevirtual 458) 3 152 := ⟨by decide +kernel, rfl⟩
theorem e_X11_put_152 : g_dc cX11_put 152 (.iconst 0) 1 153 := ⟨by decide +kernel, rfl⟩
theorem e_X11_put_153 : g_dc cX11_put 153 (.istore 5) 2 155 := ⟨by decide +kernel, rfl⟩
theorem e_X11_put_155 : g_dc cX11_put 155 (.iload 5) 2 157 := ⟨by decide +kernel, rfl⟩
theorem e_X11_put_157 : g_dc cX11_put 157 (.iload 4) 2 159 := ⟨by decide +kernel, rfl⟩
theorem e_X11_put_159 : g_dc cX11_put 159 (.if_icmp .ge 86) 3 162 := ⟨by decide +kernel, rfl⟩
theorem e_X11_put_162 : g_dc cX11_put 162 (.aload_n 0) 1 163 := ⟨by decide +kernel, rfl⟩
theorem e_X11_put_163 : g_dc cX11_put 163 (.iload 5) 2 165 := ⟨by decide +kernel, rfl⟩
theorem e_X11_put_165 : g_dc cX11_put 165 (.invokevirtual 467) 3 168 := ⟨by decide +kernel, rfl⟩
theorem e_X11_put_168 : g_dc cX11_put 168 (.ifCond .ne 6) 3 171 := ⟨by decide +kernel, rfl⟩
theorem e_X11_put_171 : g_dc cX11_put 171 (.goto 68) 3 174 := ⟨by decide +kernel, rfl⟩
theorem e_X11_put_174 : g_dc cX11_put 174 (.aload_n 0) 1 175 := ⟨by decide +kernel, rfl⟩
theorem e_X11_put_175 : g_dc cX11_put 175 (.invokevirtual 422) 3 178 := ⟨by decide +kernel, rfl⟩
theorem e_X11_put_178 : g_dc cX11_put 178 (.aload_n 0) 1 179 := ⟨by decide +kernel, rfl⟩
theorem e_X11_put_179 : g_dc cX11_put 179 (.invokevirtual 425) 3 182 := ⟨by decide +kernel, rfl⟩
theorem e_X11_put_182 : g_dc cX11_put 182 (.iconst 0) 1 183 := ⟨by decide +kernel, rfl⟩
theorem e_X11_put_183 : g_dc cX11_put 183 (.istore 6) 2 185 := ⟨by decide +kernel, rfl⟩
theorem e_X11_put_185 : g_dc cX11_put 185 (.iload 6) 2 187 := ⟨by decide +kernel, rfl⟩
theorem e_X11_put_187 : g_dc cX11_put 187 (.aload_n 0) 1 188 := ⟨by decide +kernel, rfl⟩
theorem e_X11_put_188 : g_dc cX11_put 188 (.getfield 464) 3 191 := ⟨by decide +kernel, rfl⟩
theorem e_X11_put_191 : g_dc cX11_put 191 (.if_icmp .ge 38) 3 194 := ⟨by decide +kernel, rfl⟩
theorem e_X11_put_194 : g_dc cX11_put 194 (.aload_n 0) 1 195 := ⟨by decide +kernel, rfl⟩
theorem e_X11_put_195 : g_dc cX11_put 195 (.getfield 86) 3 198 := ⟨by decide +kernel, rfl⟩
theorem e_X11_put_198 : g_dc cX11_put 198 (.aload_n 0) 1 199 := ⟨by decide +kernel, rfl⟩
theorem e_X11_put_199 : g_dc cX11_put 199 (.getfield 122) 3 202 := ⟨by decide +kernel, rfl⟩
theorem e_X11_put_202 : g_dc cX11_put 202 (.iload 6) 2 204 := ⟨by decide +kernel, rfl⟩
theorem e_X11_put_204 : g_dc cX11_put 204 (.iaload) 1 205 := ⟨by decide +kernel, rfl⟩
theorem e_X11_put_205 : g_dc cX11_put 205 (.aload_n 0) 1 206 := ⟨by decide +kernel, rfl⟩
theorem e_X11_put_206 : g_dc cX11_put 206 (.getfield 13) 3 209 := ⟨by decide +kernel, rfl⟩
theorem e_X11_put_209 : g_dc cX11_put 209 (.aload_n 0) 1 210 := ⟨by decide +kernel, rfl⟩
theorem e_X11_put_210 : g_dc cX11_put 210 (.getfield 122) 3 213 := ⟨by decide +kernel, rfl⟩
theorem e_X11_put_213 : g_dc cX11_put 213 (.aload_n 0) 1 214 := ⟨by decide +kernel, rfl⟩
theorem e_X11_put_214 : g_dc cX11_put 214 (.getfield 125) 3 217 := ⟨by decide +kernel, rfl⟩
theorem e_X11_put_217 : g_dc cX11_put 217 (.iload 6) 2 219 := ⟨by decide +kernel, rfl⟩
theorem e_X11_put_219 : g_dc cX11_put 219 (.iaload) 1 220 := ⟨by decide +kernel, rfl⟩
theorem e_X11_put_220 : g_dc cX11_put 220 (.iaload) 1 221 := ⟨by decide +kernel, rfl⟩
theorem e_X11_put_221 : g_dc cX11_put 221 (.iaload) 1 222 := ⟨by decide +kernel, rfl⟩
theorem e_X11_put_222 : g_dc cX11_put 222 (.iastore) 1 223 := ⟨by decide +kernel, rfl⟩
theorem e_X11_put_223 : g_dc cX11_put 223 (.iinc 6 1) 3 226 := ⟨by decide +kernel, rfl⟩
theorem e_X11_put_226 : g_dc cX11_put 226 (.goto (-41)) 3 229 := ⟨by decide +kernel, rfl⟩
theorem e_X11_put_229 : g_dc cX11_put 229 (.aload_n 0) 1 230 := ⟨by decide +kernel, rfl⟩
theorem e_X11_put_230 : g_dc cX11_put 230 (.invokevirtual 428) 3 233 := ⟨by decide +kernel, rfl⟩
theorem e_X11_put_233 : g_dc cX11_put 233 (.aload_n 0) 1 234 := ⟨by decide +kernel, rfl⟩
theorem e_X11_put_234 : g_dc cX11_put 234 (.iload 5) 2 236 := ⟨by decide +kernel, rfl⟩
theorem e_X11_put_236 : g_dc cX11_put 236 (.invokevirtual 461) 3 239 := ⟨by decide +kernel, rfl⟩
theorem e_X11_put_239 : g_dc cX11_put 239 (.iinc 5 1) 3 242 := ⟨by decide +kernel, rfl⟩
theorem e_X11_put_242 : g_dc cX11_put 242 (.goto (-87)) 3 245 := ⟨by decide +kernel, rfl⟩
theorem e_X11_put_245 : g_dc cX11_put 245 (.iload_n 2) 1 246 := ⟨by decide +kernel, rfl⟩
theorem e_X11_put_246 : g_dc cX11_put 246 (.bipush 11) 2 248 := ⟨by decide +kernel, rfl⟩
theorem e_X11_put_248 : g_dc cX11_put 248 (.if_icmp .ne 8) 3 251 := ⟨by decide +kernel, rfl⟩
theorem e_X11_put_251 : g_dc cX11_put 251 (.aload_n 0) 1 252 := ⟨by decide +kernel, rfl⟩
theorem e_X11_put_252 : g_dc cX11_put 252 (.getfield 452) 3 255 := ⟨by decide +kernel, rfl⟩
theorem e_X11_put_255 : g_dc cX11_put 255 (.ireturn) 1 256 := ⟨by decide +kernel, rfl⟩
theorem e_X11_put_256 : g_dc cX11_put 256 (.iload_n 2) 1 257 := ⟨by decide +kernel, rfl⟩
theorem e_X11_put_257 : g_dc cX11_put 257 (.bipush 10) 2 259 := ⟨by decide +kernel, rfl⟩
theorem e_X11_put_259 : g_dc cX11_put 259 (.if_icmp .ne 8) 3 262 := ⟨by decide +kernel, rfl⟩
theorem e_X11_put_262 : g_dc cX11_put 262 (.aload_n 0) 1 263 := ⟨by decide +kernel, rfl⟩
theorem e_X11_put_263 : g_dc cX11_put 263 (.getfield 449) 3 266 := ⟨by decide +kernel, rfl⟩
theorem e_X11_put_266 : g_dc cX11_put 266 (.ireturn) 1 267 := ⟨by decide +kernel, rfl⟩
theorem e_X11_put_267 : g_dc cX11_put 267 (.aload_n 0) 1 268 := ⟨by decide +kernel, rfl⟩
theorem e_X11_put_268 : g_dc cX11_put 268 (.aload_n 0) 1 269 := ⟨by decide +kernel, rfl⟩
theorem e_X11_put_269 : g_dc cX11_put 269 (.getfield 455) 3 272 := ⟨by decide +kernel, rfl⟩
theorem e_X11_put_272 : g_dc cX11_put 272 (.invokevirtual 467) 3 275 := ⟨by decide +kernel, rfl⟩
theorem e_X11_put_275 : g_dc cX11_put 275 (.pop) 1 276 := ⟨by decide +kernel, rfl⟩
theorem e_X11_put_276 : g_dc cX11_put 276 (.iload_n 2) 1 277 := ⟨by decide +kernel, rfl⟩
theorem e_X11_put_277 : g_dc cX11_put 277 (.bipush 12) 2 279 := ⟨by decide +kernel, rfl⟩
theorem e_X11_put_279 : g_dc cX11_put 279 (.if_icmp .ne 59) 3 282 := ⟨by decide +kernel, rfl⟩
theorem e_X11_put_282 : g_dc cX11_put 282 (.aload_n 0) 1 283 := ⟨by decide +kernel, rfl⟩
theorem e_X11_put_283 : g_dc cX11_put 283 (.invokevirtual 425) 3 286 := ⟨by decide +kernel, rfl⟩
theorem e_X11_put_286 : g_dc cX11_put 286 (.iconst 0) 1 287 := ⟨by decide +kernel, rfl⟩
theorem e_X11_put_287 : g_dc cX11_put 287 (.istore 5) 2 289 := ⟨by decide +kernel, rfl⟩
theorem e_X11_put_289 : g_dc cX11_put 289 (.iload 5) 2 291 := ⟨by decide +kernel, rfl⟩
theorem e_X11_put_291 : g_dc cX11_put 291 (.aload_n 0) 1 292 := ⟨by decide +kernel, rfl⟩
theorem e_X11_put_292 : g_dc cX11_put 292 (.getfield 464) 3 295 := ⟨by decide +kernel, rfl⟩
theorem e_X11_put_295 : g_dc cX11_put 295 (.if_icmp .ge 38) 3 298 := ⟨by decide +kernel, rfl⟩
theorem e_X11_put_298 : g_dc cX11_put 298 (.aload_n 0) 1 299 := ⟨by decide +kernel, rfl⟩
theorem e_X11_put_299 : g_dc cX11_put 299 (.getfield 13) 3 302 := ⟨by decide +kernel, rfl⟩
theorem e_X11_put_302 : g_dc cX11_put 302 (.aload_n 0) 1 303 := ⟨by decide +kernel, rfl⟩
theorem e_X11_put_303 : g_dc cX11_put 303 (.getfield 122) 3 306 := ⟨by decide +kernel, rfl⟩
theorem e_X11_put_306 : g_dc cX11_put 306 (.iload 5) 2 308 := ⟨by decide +kernel, rfl⟩
theorem e_X11_put_308 : g_dc cX11_put 308 (.iaload) 1 309 := ⟨by decide +kernel, rfl⟩
theorem e_X11_put_309 : g_dc cX11_put 309 (.aload_n 0) 1 310 := ⟨by decide +kernel, rfl⟩
theorem e_X11_put_310 : g_dc cX11_put 310 (.getfield 86) 3 313 := ⟨by decide +kernel, rfl⟩
theorem e_X11_put_313 : g_dc cX11_put 313 (.aload_n 0) 1 314 := ⟨by decide +kernel, rfl⟩
theorem e_X11_put_314 : g_dc cX11_put 314 (.getfield 122) 3 317 := ⟨by decide +kernel, rfl⟩
theorem e_X11_put_317 : g_dc cX11_put 317 (.aload_n 0) 1 318 := ⟨by decide +kernel, rfl⟩
theorem e_X11_put_318 : g_dc cX11_put 318 (.getfield 125) 3 321 := ⟨by decide +kernel, rfl⟩
theorem e_X11_put_321 : g_dc cX11_put 321 (.iload 5) 2 323 := ⟨by decide +kernel, rfl⟩
theorem e_X11_put_323 : g_dc cX11_put 323 (.iaload) 1 324 := ⟨by decide +kernel, rfl⟩
theorem e_X11_put_324 : g_dc cX11_put 324 (.iaload) 1 325 := ⟨by decide +kernel, rfl⟩
theorem e_X11_put_325 : g_dc cX11_put 325 (.iaload) 1 326 := ⟨by decide +kernel, rfl⟩
theorem e_X11_put_326 : g_dc cX11_put 326 (.iastore) 1 327 := ⟨by decide +kernel, rfl⟩
theorem e_X11_put_327 : g_dc cX11_put 327 (.iinc 5 1) 3 330 := ⟨by decide +kernel, rfl⟩
theorem e_X11_put_330 : g_dc cX11_put 330 (.goto (-41)) 3 333 := ⟨by decide +kernel, rfl⟩
theorem e_X11_put_333 : g_dc cX11_put 333 (.aload_n 0) 1 334 := ⟨by decide +kernel, rfl⟩
theorem e_X11_put_334 : g_dc cX11_put 334 (.getfield 449) 3 337 := ⟨by decide +kernel, rfl⟩
theorem e_X11_put_337 : g_dc cX11_put 337 (.ireturn) 1 338 := ⟨by decide +kernel, rfl⟩
theorem e_X11_put_338 : g_dc cX11_put 338 (.iconst 0) 1 339 := ⟨by decide +kernel, rfl⟩
theorem e_X11_put_339 : g_dc cX11_put 339 (.istore 5) 2 341 := ⟨by decide +kernel, rfl⟩
theorem e_X11_put_341 : g_dc cX11_put 341 (.iload 5) 2 343 := ⟨by decide +kernel, rfl⟩
theorem e_X11_put_343 : g_dc cX11_put 343 (.aload_n 0) 1 344 := ⟨by decide +kernel, rfl⟩
theorem e_X11_put_344 : g_dc cX11_put 344 (.getfield 464) 3 347 := ⟨by decide +kernel, rfl⟩
theorem e_X11_put_347 : g_dc cX11_put 347 (.if_icmp .ge 33) 3 350 := ⟨by decide +kernel, rfl⟩
theorem e_X11_put_350 : g_dc cX11_put 350 (.aload_n 0) 1 351 := ⟨by decide +kernel, rfl⟩
theorem e_X11_put_351 : g_dc cX11_put 351 (.getfield 122) 3 354 := ⟨by decide +kernel, rfl⟩
theorem e_X11_put_354 : g_dc cX11_put 354 (.iload 5) 2 356 := ⟨by decide +kernel, rfl⟩
theorem e_X11_put_356 : g_dc cX11_put 356 (.iaload) 1 357 := ⟨by decide +kernel, rfl⟩
theorem e_X11_put_357 : g_dc cX11_put 357 (.iload_n 2) 1 358 := ⟨by decide +kernel, rfl⟩
theorem e_X11_put_358 : g_dc cX11_put 358 (.if_icmp .ne 16) 3 361 := ⟨by decide +kernel, rfl⟩
theorem e_X11_put_361 : g_dc cX11_put 361 (.aload_n 0) 1 362 := ⟨by decide +kernel, rfl⟩
theorem e_X11_put_362 : g_dc cX11_put 362 (.getfield 122) 3 365 := ⟨by decide +kernel, rfl⟩
theorem e_X11_put_365 : g_dc cX11_put 365 (.aload_n 0) 1 366 := ⟨by decide +kernel, rfl⟩
theorem e_X11_put_366 : g_dc cX11_put 366 (.getfield 125) 3 369 := ⟨by decide +kernel, rfl⟩
theorem e_X11_put_369 : g_dc cX11_put 369 (.iload 5) 2 371 := ⟨by decide +kernel, rfl⟩
theorem e_X11_put_371 : g_dc cX11_put 371 (.iaload) 1 372 := ⟨by decide +kernel, rfl⟩
theorem e_X11_put_372 : g_dc cX11_put 372 (.iaload) 1 373 := ⟨by decide +kernel, rfl⟩
theorem e_X11_put_373 : g_dc cX11_put 373 (.ireturn) 1 374 := ⟨by decide +kernel, rfl⟩
theorem e_X11_put_374 : g_dc cX11_put 374 (.iinc 5 1) 3 377 := ⟨by decide +kernel, rfl⟩
theorem e_X11_put_377 : g_dc cX11_put 377 (.goto (-36)) 3 380 := ⟨by decide +kernel, rfl⟩
theorem e_X11_put_380 : g_dc cX11_put 380 (.iconst (-1)) 1 381 := ⟨by decide +kernel, rfl⟩
theorem e_X11_put_381 : g_dc cX11_put 381 (.ireturn) 1 382 := ⟨by decide +kernel, rfl⟩
def md_X11_put : List Nat := [3, 42, 43, 44, 45, 46, 47, 48, 49, 50, 51, 65, 66, 67, 68, 69, 70, 71, 72, 75]
def mr_X11_put : List Nat := [2, 23, 24, 25, 26, 27, 28, 29, 30, 31, 32, 33, 34, 35, 36, 37, 38, 39]
set_option maxHeartbeats 4000000 in
set_option maxRecDepth 100000 in
theorem w_X11_put (l : Launch) (X : gX) (ad : Nat → Nat) (F : Nat → Int32) (R : Nat → Nat → Int32) (hI : g_ok LK_wM F) (hA : g_okR LA_wM R) (hWT : WT F R) (hWC : WC F R) (a0 : Int32) (a1 : Int32) : g_Ci l X yX11_put cX11_put 7 (some .int) 7 0 0 [.ref (ad 0), .int a0, .int a1] (wM X ad F R) (fun r w => ∃ (F' : Nat → Int32) (R' : Nat → Nat → Int32), w = wM X ad F' R' ∧ g_ok LK_wM F' ∧ g_okR LA_wM R' ∧ WT F' R' ∧ WC F' R' ∧ g_fr md_X11_put F F' ∧ g_fr mr_X11_put R R' ∧ jv (-2147483648) 2147483647 r) := by
  refine g_mi (by decide +kernel) (Nat.le_of_ble_eq_true rfl) (fun E cx hret => ?_)
  refine g_iload_n cx 2 rfl e_X11_put_0 ?_
  refine g_bipush cx 10 (by decide) e_X11_put_1 ?_
  refine g_bipush cx 12 (by decide) e_X11_put_3 ?_
  refine g_cSiW cx [.int a1, .int 10, .int 12] [] (c_X11_in l X (wM X ad F R) a1 10 12) ml_X11_165 yS_X11_in rfl e_X11_put_5 (by unfold g_rr; decide) (by decide) rfl (Nat.le_of_ble_eq_true rfl) (fun r1 w2 h3 => ?_)
  obtain ⟨rfl, hr1⟩ := h3
  have pr1 : jv 0 1 r1 := by rw [hr1]; exact gi_01 _ _ _
  have J34 : ∀ (y4 : Int32), (jv 0 1 y4) → G X E 7 0 0 (wM X ad F R) [(0, .ref (ad 0)), (1, .int a0), (2, .int a1)] 34 [.int y4] := by
    intro y4 py4
    refine g_istore_n cx [(3, .int y4), (0, .ref (ad 0)), (1, .int a0), (2, .int a1)] e_X11_put_34 (by decide) rfl ?_
    refine g_iload_n cx 2 rfl e_X11_put_35 ?_
    refine g_aload_n cx 1 rfl e_X11_put_36 ?_
    refine g_get cx cl_X11 fl_X11_172 0 (.int (F 4)) e_X11_put_37 rfl rfl ?_
    refine g_iconst cx (-1) (by decide) e_X11_put_40 ?_
    refine g_ixor cx e_X11_put_41 ?_
    refine g_topi (fun x5 ex5 => ?_)
    refine g_iand cx e_X11_put_42 ?_
    refine g_topi (fun x6 ex6 => ?_)
    have J62 : G X E 7 0 0 (wM X ad F R) [] 62 [] := by
      refine g_iconst cx (-1) (by decide) e_X11_put_62 ?_
      exact hret e_X11_put_63 (Nat.le_of_ble_eq_true rfl) (Nat.le_of_ble_eq_true rfl) rfl ⟨F, R, rfl, hI, hA, hWT, hWC, (g_fr_rf F), (g_fr_rf R), (jv_w (jv_k (x := (-1)) (-1) (by decide)) (by decide))⟩
    refine g_if_ne cx 62 e_X11_put_43 (by decide) (fun zc7 => ?_) (fun zc7 => ?_)
    · refine g_lsub [] [] rfl ?_
      exact J62  
    · have p8 := gn_eq 0 0 (gc_eq zc7) (jv_t x6) (jv_k (x := 0) 0 (by decide)) (by decide)
      refine g_iload_n cx 2 rfl e_X11_put_46 ?_
      refine g_cSiW cx [.int a0] [] (w_X11_bits l X ad F R hI hA a0) ml_X11_410 yS_X11_bits rfl e_X11_put_47 (by unfold g_rr; decide) (by decide) rfl (Nat.le_of_ble_eq_true rfl) (fun r9 w10 h11 => ?_)
      obtain ⟨rfl, pr9, zx12, hx13⟩ := h11
      refine g_iconst cx 2 (by decide) e_X11_put_50 ?_
      refine g_iconst cx 5 (by decide) e_X11_put_51 ?_
      refine g_cSiW cx [.int r9, .int 2, .int 5] [] (c_X11_in l X (wM X ad F R) r9 2 5) ml_X11_165 yS_X11_in rfl e_X11_put_52 (by unfold g_rr; decide) (by decide) rfl (Nat.le_of_ble_eq_true rfl) (fun r14 w15 h16 => ?_)
      obtain ⟨rfl, hr14⟩ := h16
      have pr14 : jv 0 1 r14 := by rw [hr14]; exact gi_01 _ _ _
      refine g_if_eq cx 62 e_X11_put_55 (by decide) (fun zc17 => ?_) (fun zc17 => ?_)
      · have p18 := gn_eq 0 0 (gc_eq zc17) pr14 (jv_k (x := 0) 0 (by decide)) (by decide)
        refine g_lsub [] [] rfl ?_
        exact J62  
      · have p19 := gn_neL 1 1 (gc_ne zc17) pr14 (jv_k (x := 0) 0 (by decide)) (by decide)
        have p20 := jv_i 2 5 pr9 (gi_in (A := 2) (B := 5) hr14 zc17 (by decide) (by decide)) (by decide)
        refine g_iload_n cx 0 rfl e_X11_put_58 ?_
        refine g_if_ne cx 64 e_X11_put_59 (by decide) (fun zc21 => ?_) (fun zc21 => ?_)
        · have p22 := gn_neL 1 1 (gc_ne zc21) py4 (jv_k (x := 0) 0 (by decide)) (by decide)
          refine g_aload_n cx 1 rfl e_X11_put_64 ?_
          refine g_iconst cx 0 (by decide) e_X11_put_65 ?_
          refine g_put cx cl_X11 fl_X11_464 0 (wM X ad (upd F 75 0) R) e_X11_put_66 rfl rfl rfl rfl (Nat.le_of_ble_eq_true rfl) rfl ?_
          obtain ⟨F23, hF23⟩ : ∃ z, z = upd F 75 0 := ⟨_, rfl⟩
          rw [← hF23]
          have oF23 : g_ok LK_wM F23 := by rw [hF23]; exact g_ok_p hI (jv_k (x := 0) 0 (by decide)) rfl
          have fF23 : g_fr md_X11_put F F23 := by rw [hF23]; exact g_fr_u (g_fr_rf F) rfl
          have wTF23 : WT F23 R := by rw [hF23]; exact WT_u hWT rfl
          have wCF23 : WC F23 R := by rw [hF23]; exact WC_u hWC rfl
          refine g_iconst cx 0 (by decide) e_X11_put_69 ?_
          refine g_istore cx [(4, .int 0), (3, .int y4), (0, .ref (ad 0)), (1, .int a0), (2, .int a1)] e_X11_put_70 (by decide) rfl ?_
          have J72 : ∀ (N : Nat) (F25 : Nat → Int32) (R26 : Nat → Nat → Int32) (y24 : Int32), (g_ok LK_wM F25) → (g_fr md_X11_put F F25) → (g_okR LA_wM R26) → (g_fr mr_X11_put R R26) → (WT F25 R26) → (WC F25 R26) → (jv 0 10 y24) → ((F25 75).toInt = g_bits a0 (y24 : Int32).toInt.toNat) → (2147483647 - y24.toInt).toNat < N → G X E 7 0 0 (wM X ad F25 R26) [(0, .ref (ad 0)), (1, .int a0), (2, .int a1), (4, .int y24)] 72 [] := by
            intro N
            induction N with
            | zero => intro F25 R26 y24 oF25 fF25 oR26 fR26 wTF25R26 wCF25R26 py24 zq72_0 hm; exact absurd hm (Nat.not_lt_zero _)
            | succ N ih72 =>
              intro F25 R26 y24 oF25 fF25 oR26 fR26 wTF25R26 wCF25R26 py24 zq72_0 hm72
              refine g_iload cx 3 rfl e_X11_put_72 ?_
              refine g_bipush cx 10 (by decide) e_X11_put_74 ?_
              refine g_icmp_ge cx 118 e_X11_put_76 (by decide) (fun zc27 => ?_) (fun zc27 => ?_)
              · have p28 := gn_ge 10 10 (gc_le zc27) py24 (jv_k (x := 10) 10 (by decide)) (by decide)
                have zq10 : (F25 75).toInt = g_bits a0 10 := by have q := zq72_0; rw [show (y24 : Int32).toInt.toNat = 10 from by have q0 := (jv_k (x := 10) 10 (by decide)).1; have q1 := (jv_k (x := 10) 10 (by decide)).2; have q2 := p28.1; have q3 := p28.2; have q4 := (gc_le zc27); omega] at q; exact q
                have z75 : jv 2 5 (F25 75) := ⟨by have q0 := (g_ok_g oF25 14 rfl).1; have q1 := (g_ok_g oF25 14 rfl).2; have q2 := p20.1; have q3 := p20.2; have q4 := zx12; have q5 := zq72_0; have q6 := zq10; omega, by have q0 := (g_ok_g oF25 14 rfl).1; have q1 := (g_ok_g oF25 14 rfl).2; have q2 := p20.1; have q3 := p20.2; have q4 := zx12; have q5 := zq72_0; have q6 := zq10; omega⟩
                refine g_iconst cx 1 (by decide) e_X11_put_118 ?_
                refine g_istore cx [(4, .int 1), (0, .ref (ad 0)), (1, .int a0), (2, .int a1)] e_X11_put_119 (by decide) rfl ?_
                refine g_iconst cx 0 (by decide) e_X11_put_121 ?_
                refine g_istore cx [(5, .int 0), (4, .int 1), (0, .ref (ad 0)), (1, .int a0), (2, .int a1)] e_X11_put_122 (by decide) rfl ?_
                have J124 : ∀ (N : Nat) (y29 : Int32) (y30 : Int32), (jv 1 13631487 y29) → (jv 0 5 y30) → (0 ≤ (y30 : Int32).toInt ∧ (y30 : Int32).toInt ≤ (F25 75).toInt) → ((y29 : Int32).toInt = g_pw (F25 75).toInt (y30 : Int32).toInt.toNat) → (2147483647 - y30.toInt).toNat < N → G X E 7 0 0 (wM X ad F25 R26) [(0, .ref (ad 0)), (2, .int a1), (4, .int y29), (5, .int y30)] 124 [] := by
                  intro N
                  induction N with
                  | zero => intro y29 y30 py29 py30 zi124_0 zq124_0 hm; exact absurd hm (Nat.not_lt_zero _)
                  | succ N ih124 =>
                    intro y29 y30 py29 py30 zi124_0 zq124_0 hm124
                    refine g_iload cx 3 rfl e_X11_put_124 ?_
                    refine g_aload_n cx 0 rfl e_X11_put_126 ?_
                    refine g_get cx cl_X11 fl_X11_464 0 (.int (F25 75)) e_X11_put_127 rfl rfl ?_
                    refine g_icmp_ge cx 148 e_X11_put_130 (by decide) (fun zc31 => ?_) (fun zc31 => ?_)
                    · have p32 := gn_ge 2 5 (gc_le zc31) py30 z75 (by decide)
                      have zre := g_pw_e (n := (F25 75).toInt) (r := (y29 : Int32).toInt) ⟨z75.1, z75.2⟩ (by have q := zq124_0; rw [show (y30 : Int32).toInt.toNat = (F25 75).toInt.toNat from by have q0 := z75.1; have q1 := z75.2; have q2 := p20.1; have q3 := p20.2; have q4 := p32.1; have q5 := p32.2; have q6 := zx12; have q7 := zq72_0; have q8 := zq10; have q9 := zi124_0; have q10 := (gc_le zc31); omega] at q; exact q)
                      have zpr : jv 4 3125 y29 := ⟨by have q0 := z75.1; have q1 := z75.2; have q2 := p20.1; have q3 := p20.2; have q4 := py29.1; have q5 := py29.2; have q6 := p32.1; have q7 := p32.2; have q8 := zx12; have q9 := zq72_0; have q10 := zq10; have q11 := zi124_0; have q12 := (gc_le zc31); have q13 := zre; omega, by have q0 := z75.1; have q1 := z75.2; have q2 := p20.1; have q3 := p20.2; have q4 := py29.1; have q5 := py29.2; have q6 := p32.1; have q7 := p32.2; have q8 := zx12; have q9 := zq72_0; have q10 := zq10; have q11 := zi124_0; have q12 := (gc_le zc31); have q13 := zre; omega⟩
                      refine g_aload_n cx 0 rfl e_X11_put_148 ?_
                      refine g_cVvW cx [] [] (w_X11_forgetsBest l X ad F25 R26 oF25 oR26 wTF25R26 wCF25R26) ml_X11_458 yV_X11_forgetsBest e_X11_put_149 (by unfold g_rr; decide) (by decide) 0 rfl rfl rfl (Nat.le_of_ble_eq_true rfl) (fun w34 h35 => ?_)
                      obtain ⟨F38, R39, rfl, oF38, oR39, wTF38, wCF38, cF38, cR39, zx36, hx37⟩ := h35
                      have fF38 : g_fr md_X11_put F F38 := g_fr_c fF25 cF38 rfl
                      have fR39 : g_fr mr_X11_put R R39 := g_fr_c fR26 cR39 rfl
                      refine g_iconst cx 0 (by decide) e_X11_put_152 ?_
                      refine g_istore cx [(5, .int 0), (0, .ref (ad 0)), (2, .int a1), (4, .int y29)] e_X11_put_153 (by decide) rfl ?_
                      have J155 : ∀ (N : Nat) (F41 : Nat → Int32) (R42 : Nat → Nat → Int32) (y40 : Int32), (g_ok LK_wM F41) → (g_fr md_X11_put F F41) → (g_okR LA_wM R42) → (g_fr mr_X11_put R R42) → (WT F41 R42) → (WC F41 R42) → (jv 0 3125 y40) → ((F41 75).toInt = (F25 75).toInt) → ((0 ≤ (F41 72).toInt ∧ (F41 72).toInt ≤ 3124) ∨ ((F41 70).toInt = -1 ∧ ((F25 75).toInt = 2 ∧ (y40 : Int32).toInt ≤ 1 ∨ (F25 75).toInt = 3 ∧ (y40 : Int32).toInt ≤ 5 ∨ (F25 75).toInt = 4 ∧ (y40 : Int32).toInt ≤ 27 ∨ (F25 75).toInt = 5 ∧ (y40 : Int32).toInt ≤ 194))) → (2147483647 - y40.toInt).toNat < N → G X E 7 0 0 (wM X ad F41 R42) [(0, .ref (ad 0)), (2, .int a1), (4, .int y29), (5, .int y40)] 155 [] := by
                        intro N
                        induction N with
                        | zero => intro F41 R42 y40 oF41 fF41 oR42 fR42 wTF41R42 wCF41R42 py40 zi155_0 zi155_1 hm; exact absurd hm (Nat.not_lt_zero _)
                        | succ N ih155 =>
                          intro F41 R42 y40 oF41 fF41 oR42 fR42 wTF41R42 wCF41R42 py40 zi155_0 zi155_1 hm155
                          have p43 : jv 2 5 (F41 75) := ⟨by have q0 := z75.1; have q1 := z75.2; have q2 := (jv_t (F41 70)).1; have q3 := (jv_t (F41 70)).2; have q4 := (jv_t (F41 72)).1; have q5 := (jv_t (F41 72)).2; have q6 := (g_ok_g oF41 14 rfl).1; have q7 := (g_ok_g oF41 14 rfl).2; have q8 := p20.1; have q9 := p20.2; have q10 := zpr.1; have q11 := zpr.2; have q12 := p32.1; have q13 := p32.2; have q14 := py40.1; have q15 := py40.2; have q16 := zx12; have q17 := zq72_0; have q18 := zq10; have q19 := zi124_0; have q20 := (gc_le zc31); have q21 := zre; have q22 := zi155_0; have q23 := zi155_1; omega, by have q0 := z75.1; have q1 := z75.2; have q2 := (jv_t (F41 70)).1; have q3 := (jv_t (F41 70)).2; have q4 := (jv_t (F41 72)).1; have q5 := (jv_t (F41 72)).2; have q6 := (g_ok_g oF41 14 rfl).1; have q7 := (g_ok_g oF41 14 rfl).2; have q8 := p20.1; have q9 := p20.2; have q10 := zpr.1; have q11 := zpr.2; have q12 := p32.1; have q13 := p32.2; have q14 := py40.1; have q15 := py40.2; have q16 := zx12; have q17 := zq72_0; have q18 := zq10; have q19 := zi124_0; have q20 := (gc_le zc31); have q21 := zre; have q22 := zi155_0; have q23 := zi155_1; omega⟩
                          refine g_iload cx 3 rfl e_X11_put_155 ?_
                          refine g_iload cx 2 rfl e_X11_put_157 ?_
                          refine g_icmp_ge cx 245 e_X11_put_159 (by decide) (fun zc44 => ?_) (fun zc44 => ?_)
                          · have p45 := gn_ge 4 3125 (gc_le zc44) py40 zpr (by decide)
                            refine g_iload_n cx 1 rfl e_X11_put_245 ?_
                            refine g_bipush cx 11 (by decide) e_X11_put_246 ?_
                            refine g_icmp_ne cx 256 e_X11_put_248 (by decide) (fun zc46 => ?_) (fun zc46 => ?_)
                            · refine g_iload_n cx 1 rfl e_X11_put_256 ?_
                              refine g_bipush cx 10 (by decide) e_X11_put_257 ?_
                              refine g_icmp_ne cx 267 e_X11_put_259 (by decide) (fun zc47 => ?_) (fun zc47 => ?_)
                              · refine g_aload_n cx 0 rfl e_X11_put_267 ?_
                                refine g_aload_n cx 0 rfl e_X11_put_268 ?_
                                refine g_get cx cl_X11 fl_X11_455 0 (.int (F41 72)) e_X11_put_269 rfl rfl ?_
                                refine g_cViW cx [.int (F41 72)] [] (w_X11_readsRow l X ad F41 R42 oF41 oR42 wTF41R42 wCF41R42 (F41 72) (show jv 0 3124 (F41 72) from ⟨by have q0 := z75.1; have q1 := z75.2; have q2 := (jv_t (F41 70)).1; have q3 := (jv_t (F41 70)).2; have q4 := (jv_t (F41 72)).1; have q5 := (jv_t (F41 72)).2; have q6 := p43.1; have q7 := p43.2; have q8 := p20.1; have q9 := p20.2; have q10 := zpr.1; have q11 := zpr.2; have q12 := p32.1; have q13 := p32.2; have q14 := p45.1; have q15 := p45.2; have q16 := zx12; have q17 := zq72_0; have q18 := zq10; have q19 := zi124_0; have q20 := (gc_le zc31); have q21 := zre; have q22 := zi155_0; have q23 := zi155_1; have q24 := (gc_le zc44); omega, by have q0 := z75.1; have q1 := z75.2; have q2 := (jv_t (F41 70)).1; have q3 := (jv_t (F41 70)).2; have q4 := (jv_t (F41 72)).1; have q5 := (jv_t (F41 72)).2; have q6 := p43.1; have q7 := p43.2; have q8 := p20.1; have q9 := p20.2; have q10 := zpr.1; have q11 := zpr.2; have q12 := p32.1; have q13 := p32.2; have q14 := p45.1; have q15 := p45.2; have q16 := zx12; have q17 := zq72_0; have q18 := zq10; have q19 := zi124_0; have q20 := (gc_le zc31); have q21 := zre; have q22 := zi155_0; have q23 := zi155_1; have q24 := (gc_le zc44); omega⟩) (show jv 2 5 (F41 75) from ⟨by have q0 := z75.1; have q1 := z75.2; have q2 := (jv_t (F41 70)).1; have q3 := (jv_t (F41 70)).2; have q4 := (jv_t (F41 72)).1; have q5 := (jv_t (F41 72)).2; have q6 := p43.1; have q7 := p43.2; have q8 := p20.1; have q9 := p20.2; have q10 := zpr.1; have q11 := zpr.2; have q12 := p32.1; have q13 := p32.2; have q14 := p45.1; have q15 := p45.2; have q16 := zx12; have q17 := zq72_0; have q18 := zq10; have q19 := zi124_0; have q20 := (gc_le zc31); have q21 := zre; have q22 := zi155_0; have q23 := zi155_1; have q24 := (gc_le zc44); omega, by have q0 := z75.1; have q1 := z75.2; have q2 := (jv_t (F41 70)).1; have q3 := (jv_t (F41 70)).2; have q4 := (jv_t (F41 72)).1; have q5 := (jv_t (F41 72)).2; have q6 := p43.1; have q7 := p43.2; have q8 := p20.1; have q9 := p20.2; have q10 := zpr.1; have q11 := zpr.2; have q12 := p32.1; have q13 := p32.2; have q14 := p45.1; have q15 := p45.2; have q16 := zx12; have q17 := zq72_0; have q18 := zq10; have q19 := zi124_0; have q20 := (gc_le zc31); have q21 := zre; have q22 := zi155_0; have q23 := zi155_1; have q24 := (gc_le zc44); omega⟩)) ml_X11_467 yV_X11_readsRow e_X11_put_272 (by unfold g_rr; decide) (by decide) 0 rfl rfl rfl (Nat.le_of_ble_eq_true rfl) (fun r48 w49 h50 => ?_)
                                obtain ⟨F52, R53, rfl, oF52, oR53, wTF52, wCF52, cF52, cR53, pr48, zx51⟩ := h50
                                have fF52 : g_fr md_X11_put F F52 := g_fr_c fF41 cF52 rfl
                                have fR53 : g_fr mr_X11_put R R53 := g_fr_c fR42 cR53 rfl
                                refine g_pop cx rfl e_X11_put_275 ?_
                                refine g_iload_n cx 1 rfl e_X11_put_276 ?_
                                refine g_bipush cx 12 (by decide) e_X11_put_277 ?_
                                refine g_icmp_ne cx 338 e_X11_put_279 (by decide) (fun zc54 => ?_) (fun zc54 => ?_)
                                · refine g_iconst cx 0 (by decide) e_X11_put_338 ?_
                                  refine g_istore cx [(5, .int 0), (0, .ref (ad 0)), (2, .int a1), (4, .int y29)] e_X11_put_339 (by decide) rfl ?_
                                  have J341 : ∀ (N : Nat) (y55 : Int32), (jv 0 5 y55) → ((F52 75).toInt = (F25 75).toInt) → (2147483647 - y55.toInt).toNat < N → G X E 7 0 0 (wM X ad F52 R53) [(0, .ref (ad 0)), (2, .int a1), (5, .int y55)] 341 [] := by
                                    intro N
                                    induction N with
                                    | zero => intro y55 py55 zi341_0 hm; exact absurd hm (Nat.not_lt_zero _)
                                    | succ N ih341 =>
                                      intro y55 py55 zi341_0 hm341
                                      have p56 : jv 2 5 (F52 75) := ⟨by have q0 := z75.1; have q1 := z75.2; have q2 := (jv_t (F41 70)).1; have q3 := (jv_t (F41 70)).2; have q4 := (jv_t (F41 72)).1; have q5 := (jv_t (F41 72)).2; have q6 := p43.1; have q7 := p43.2; have q8 := (g_ok_g oF52 14 rfl).1; have q9 := (g_ok_g oF52 14 rfl).2; have q10 := p20.1; have q11 := p20.2; have q12 := zpr.1; have q13 := zpr.2; have q14 := p32.1; have q15 := p32.2; have q16 := p45.1; have q17 := p45.2; have q18 := zx12; have q19 := zq72_0; have q20 := zq10; have q21 := zi124_0; have q22 := (gc_le zc31); have q23 := zre; have q24 := zi155_0; have q25 := zi155_1; have q26 := (gc_le zc44); have q27 := (congrArg Int32.toInt (show F52 75 = F41 75 from (cF52 75 rfl))); have q28 := zi341_0; have q29 := (congrArg Int32.toInt (show F52 75 = F41 75 from (cF52 75 rfl))); omega, by have q0 := z75.1; have q1 := z75.2; have q2 := (jv_t (F41 70)).1; have q3 := (jv_t (F41 70)).2; have q4 := (jv_t (F41 72)).1; have q5 := (jv_t (F41 72)).2; have q6 := p43.1; have q7 := p43.2; have q8 := (g_ok_g oF52 14 rfl).1; have q9 := (g_ok_g oF52 14 rfl).2; have q10 := p20.1; have q11 := p20.2; have q12 := zpr.1; have q13 := zpr.2; have q14 := p32.1; have q15 := p32.2; have q16 := p45.1; have q17 := p45.2; have q18 := zx12; have q19 := zq72_0; have q20 := zq10; have q21 := zi124_0; have q22 := (gc_le zc31); have q23 := zre; have q24 := zi155_0; have q25 := zi155_1; have q26 := (gc_le zc44); have q27 := (congrArg Int32.toInt (show F52 75 = F41 75 from (cF52 75 rfl))); have q28 := zi341_0; have q29 := (congrArg Int32.toInt (show F52 75 = F41 75 from (cF52 75 rfl))); omega⟩
                                      refine g_iload cx 2 rfl e_X11_put_341 ?_
                                      refine g_aload_n cx 0 rfl e_X11_put_343 ?_
                                      refine g_get cx cl_X11 fl_X11_464 0 (.int (F52 75)) e_X11_put_344 rfl rfl ?_
                                      refine g_toi (F41 75) (cF52 75 rfl) ?_
                                      refine g_icmp_ge cx 380 e_X11_put_347 (by decide) (fun zc57 => ?_) (fun zc57 => ?_)
                                      · have p58 := gn_ge 2 5 (gc_le zc57) py55 p43 (by decide)
                                        refine g_iconst cx (-1) (by decide) e_X11_put_380 ?_
                                        exact hret e_X11_put_381 (Nat.le_of_ble_eq_true rfl) (Nat.le_of_ble_eq_true rfl) rfl ⟨F52, R53, rfl, oF52, oR53, wTF52, wCF52, fF52, fR53, (jv_w (jv_k (x := (-1)) (-1) (by decide)) (by decide))⟩
                                      · have p59 := gn_lt 0 4 (gc_nle zc57) py55 p43 (by decide)
                                        refine g_aload_n cx 0 rfl e_X11_put_350 ?_
                                        refine g_get cx cl_X11 fl_X11_122 0 (.ref (ad 38)) e_X11_put_351 rfl rfl ?_
                                        refine g_iload cx 2 rfl e_X11_put_354 ?_
                                        refine g_iald cx 38 e_X11_put_356 rfl (jv_ix 5 p59 (by decide)) ?_
                                        refine g_topi (fun x60 ex60 => ?_)
                                        have p61 : jv 0 9 x60 := by rw [ex60]; exact g_okR_g oR53 4 rfl (jv_cl 5 p59 (by decide))
                                        refine g_iload_n cx 1 rfl e_X11_put_357 ?_
                                        refine g_icmp_ne cx 374 e_X11_put_358 (by decide) (fun zc62 => ?_) (fun zc62 => ?_)
                                        · obtain ⟨x63, ex63⟩ : ∃ z : Int32, z = y55 + Int32.ofInt 1 := ⟨_, rfl⟩
                                          refine g_iinc cx x63 [(5, .int x63), (0, .ref (ad 0)), (2, .int a1)] 2 e_X11_put_374 rfl ex63.symm (by decide) rfl ?_
                                          have zx63 := jv_add 1 5 (show x63 = y55 + 1 from ex63) p59 (jv_k (x := 1) 1 (by decide)) (by decide)
                                          refine g_goto cx 341 e_X11_put_377 (by decide) ?_
                                          refine g_lsub [1, 2, 0] [(0, .ref (ad 0)), (2, .int a1), (5, .int x63)] rfl ?_
                                          exact ih341 x63 (jv_w zx63.2 (by decide)) (by have q0 := (jv_k (x := 1) 1 (by decide)).1; have q1 := (jv_k (x := 1) 1 (by decide)).2; have q2 := z75.1; have q3 := z75.2; have q4 := (jv_t (F41 70)).1; have q5 := (jv_t (F41 70)).2; have q6 := (jv_t (F41 72)).1; have q7 := (jv_t (F41 72)).2; have q8 := p43.1; have q9 := p43.2; have q10 := p56.1; have q11 := p56.2; have q12 := p20.1; have q13 := p20.2; have q14 := zx63.2.1; have q15 := zx63.2.2; have q16 := zpr.1; have q17 := zpr.2; have q18 := p32.1; have q19 := p32.2; have q20 := p45.1; have q21 := p45.2; have q22 := p59.1; have q23 := p59.2; have q24 := zx12; have q25 := zq72_0; have q26 := zq10; have q27 := zi124_0; have q28 := (gc_le zc31); have q29 := zre; have q30 := zi155_0; have q31 := zi155_1; have q32 := (gc_le zc44); have q33 := (congrArg Int32.toInt (show F52 75 = F41 75 from (cF52 75 rfl))); have q34 := zi341_0; have q35 := (congrArg Int32.toInt (show F52 75 = F41 75 from (cF52 75 rfl))); have q36 := (gc_nle zc57); have q37 := (g_eq0 zx63.1); have q38 := (congrArg Int32.toInt (show F52 75 = F41 75 from (cF52 75 rfl))); omega) (Nat.lt_of_lt_of_le (show (2147483647 - x63.toInt).toNat < (2147483647 - y55.toInt).toNat from by have q0 := (jv_k (x := 1) 1 (by decide)).1; have q1 := (jv_k (x := 1) 1 (by decide)).2; have q2 := z75.1; have q3 := z75.2; have q4 := (jv_t (F41 70)).1; have q5 := (jv_t (F41 70)).2; have q6 := (jv_t (F41 72)).1; have q7 := (jv_t (F41 72)).2; have q8 := p43.1; have q9 := p43.2; have q10 := p56.1; have q11 := p56.2; have q12 := p20.1; have q13 := p20.2; have q14 := zx63.2.1; have q15 := zx63.2.2; have q16 := zpr.1; have q17 := zpr.2; have q18 := p32.1; have q19 := p32.2; have q20 := p45.1; have q21 := p45.2; have q22 := p59.1; have q23 := p59.2; have q24 := zx12; have q25 := zq72_0; have q26 := zq10; have q27 := zi124_0; have q28 := (gc_le zc31); have q29 := zre; have q30 := zi155_0; have q31 := zi155_1; have q32 := (gc_le zc44); have q33 := (congrArg Int32.toInt (show F52 75 = F41 75 from (cF52 75 rfl))); have q34 := zi341_0; have q35 := (congrArg Int32.toInt (show F52 75 = F41 75 from (cF52 75 rfl))); have q36 := (gc_nle zc57); have q37 := (g_eq0 zx63.1); have q38 := (congrArg Int32.toInt (show F52 75 = F41 75 from (cF52 75 rfl))); omega) (Nat.le_of_lt_succ hm341))
                                        · have p64 := gn_eq 0 9 (gc_eq zc62).symm (jv_t a1) p61 (by decide)
                                          refine g_aload_n cx 0 rfl e_X11_put_361 ?_
                                          refine g_get cx cl_X11 fl_X11_122 0 (.ref (ad 38)) e_X11_put_362 rfl rfl ?_
                                          refine g_aload_n cx 0 rfl e_X11_put_365 ?_
                                          refine g_get cx cl_X11 fl_X11_125 0 (.ref (ad 39)) e_X11_put_366 rfl rfl ?_
                                          refine g_iload cx 2 rfl e_X11_put_369 ?_
                                          refine g_iald cx 39 e_X11_put_371 rfl (jv_ix 5 p59 (by decide)) ?_
                                          refine g_topi (fun x65 ex65 => ?_)
                                          have p66 : jv 0 4 x65 := by rw [ex65]; exact g_okR_g oR53 5 rfl (jv_cl 5 p59 (by decide))
                                          refine g_iald cx 38 e_X11_put_372 rfl (jv_ix 5 p66 (by decide)) ?_
                                          refine g_topi (fun x67 ex67 => ?_)
                                          have p68 : jv 0 9 x67 := by rw [ex67]; exact g_okR_g oR53 4 rfl (jv_cl 5 p66 (by decide))
                                          exact hret e_X11_put_373 (Nat.le_of_ble_eq_true rfl) (Nat.le_of_ble_eq_true rfl) rfl ⟨F52, R53, rfl, oF52, oR53, wTF52, wCF52, fF52, fR53, (jv_w p68 (by decide))⟩
                                  refine g_lsub [1, 2, 0] [(0, .ref (ad 0)), (2, .int a1), (5, .int 0)] rfl ?_
                                  exact J341 _ 0 (jv_w (jv_k (x := 0) 0 (by decide)) (by decide)) (by have q0 := z75.1; have q1 := z75.2; have q2 := (jv_t (F41 70)).1; have q3 := (jv_t (F41 70)).2; have q4 := (jv_t (F41 72)).1; have q5 := (jv_t (F41 72)).2; have q6 := p43.1; have q7 := p43.2; have q8 := (g_ok_g oF52 14 rfl).1; have q9 := (g_ok_g oF52 14 rfl).2; have q10 := p20.1; have q11 := p20.2; have q12 := zpr.1; have q13 := zpr.2; have q14 := p32.1; have q15 := p32.2; have q16 := p45.1; have q17 := p45.2; have q18 := zx12; have q19 := zq72_0; have q20 := zq10; have q21 := zi124_0; have q22 := (gc_le zc31); have q23 := zre; have q24 := zi155_0; have q25 := zi155_1; have q26 := (gc_le zc44); have q27 := (congrArg Int32.toInt (show F52 75 = F41 75 from (cF52 75 rfl))); omega) (Nat.lt_succ_self _)
                                · have p69 := gn_eq 12 12 (gc_eq zc54) (jv_t a1) (jv_k (x := 12) 12 (by decide)) (by decide)
                                  refine g_aload_n cx 0 rfl e_X11_put_282 ?_
                                  refine g_cVvW cx [] [] (w_X11_laysThings l X ad F52 R53 oF52 oR53 wTF52 wCF52) ml_X11_425 yV_X11_laysThings e_X11_put_283 (by unfold g_rr; decide) (by decide) 0 rfl rfl rfl (Nat.le_of_ble_eq_true rfl) (fun w71 h72 => ?_)
                                  obtain ⟨F75, R76, rfl, oF75, oR76, wTF75, wCF75, cF75, cR76, zx73, hx74⟩ := h72
                                  have fF75 : g_fr md_X11_put F F75 := g_fr_c fF52 cF75 rfl
                                  have fR76 : g_fr mr_X11_put R R76 := g_fr_c fR53 cR76 rfl
                                  refine g_iconst cx 0 (by decide) e_X11_put_286 ?_
                                  refine g_istore cx [(5, .int 0), (0, .ref (ad 0)), (2, .int a1), (4, .int y29)] e_X11_put_287 (by decide) rfl ?_
                                  have J289 : ∀ (N : Nat) (R78 : Nat → Nat → Int32) (y77 : Int32), (g_okR LA_wM R78) → (g_fr mr_X11_put R R78) → (WT F75 R78) → (WC F75 R78) → (jv 0 5 y77) → ((F75 75).toInt = (F25 75).toInt) → (2147483647 - y77.toInt).toNat < N → G X E 7 0 0 (wM X ad F75 R78) [(0, .ref (ad 0)), (5, .int y77)] 289 [] := by
                                    intro N
                                    induction N with
                                    | zero => intro R78 y77 oR78 fR78 wTR78 wCR78 py77 zi289_0 hm; exact absurd hm (Nat.not_lt_zero _)
                                    | succ N ih289 =>
                                      intro R78 y77 oR78 fR78 wTR78 wCR78 py77 zi289_0 hm289
                                      have p79 : jv 2 5 (F75 75) := ⟨by have q0 := z75.1; have q1 := z75.2; have q2 := (jv_t (F41 70)).1; have q3 := (jv_t (F41 70)).2; have q4 := (jv_t (F41 72)).1; have q5 := (jv_t (F41 72)).2; have q6 := p43.1; have q7 := p43.2; have q8 := (g_ok_g oF75 14 rfl).1; have q9 := (g_ok_g oF75 14 rfl).2; have q10 := p20.1; have q11 := p20.2; have q12 := zpr.1; have q13 := zpr.2; have q14 := p32.1; have q15 := p32.2; have q16 := p45.1; have q17 := p45.2; have q18 := zx12; have q19 := zq72_0; have q20 := zq10; have q21 := zi124_0; have q22 := (gc_le zc31); have q23 := zre; have q24 := zi155_0; have q25 := zi155_1; have q26 := (gc_le zc44); have q27 := (congrArg Int32.toInt (show F75 75 = F41 75 from ((cF75 75 rfl).trans (cF52 75 rfl)))); have q28 := zi289_0; have q29 := (congrArg Int32.toInt (show F75 75 = F41 75 from ((cF75 75 rfl).trans (cF52 75 rfl)))); omega, by have q0 := z75.1; have q1 := z75.2; have q2 := (jv_t (F41 70)).1; have q3 := (jv_t (F41 70)).2; have q4 := (jv_t (F41 72)).1; have q5 := (jv_t (F41 72)).2; have q6 := p43.1; have q7 := p43.2; have q8 := (g_ok_g oF75 14 rfl).1; have q9 := (g_ok_g oF75 14 rfl).2; have q10 := p20.1; have q11 := p20.2; have q12 := zpr.1; have q13 := zpr.2; have q14 := p32.1; have q15 := p32.2; have q16 := p45.1; have q17 := p45.2; have q18 := zx12; have q19 := zq72_0; have q20 := zq10; have q21 := zi124_0; have q22 := (gc_le zc31); have q23 := zre; have q24 := zi155_0; have q25 := zi155_1; have q26 := (gc_le zc44); have q27 := (congrArg Int32.toInt (show F75 75 = F41 75 from ((cF75 75 rfl).trans (cF52 75 rfl)))); have q28 := zi289_0; have q29 := (congrArg Int32.toInt (show F75 75 = F41 75 from ((cF75 75 rfl).trans (cF52 75 rfl)))); omega⟩
                                      refine g_iload cx 1 rfl e_X11_put_289 ?_
                                      refine g_aload_n cx 0 rfl e_X11_put_291 ?_
                                      refine g_get cx cl_X11 fl_X11_464 0 (.int (F75 75)) e_X11_put_292 rfl rfl ?_
                                      refine g_toi (F41 75) ((cF75 75 rfl).trans (cF52 75 rfl)) ?_
                                      refine g_icmp_ge cx 333 e_X11_put_295 (by decide) (fun zc80 => ?_) (fun zc80 => ?_)
                                      · have p81 := gn_ge 2 5 (gc_le zc80) py77 p43 (by decide)
                                        refine g_aload_n cx 0 rfl e_X11_put_333 ?_
                                        refine g_get cx cl_X11 fl_X11_449 0 (.int (F75 70)) e_X11_put_334 rfl rfl ?_
                                        refine g_toi (F41 70) ((cF75 70 rfl).trans (cF52 70 rfl)) ?_
                                        exact hret e_X11_put_337 (Nat.le_of_ble_eq_true rfl) (Nat.le_of_ble_eq_true rfl) rfl ⟨F75, R78, rfl, oF75, oR78, wTR78, wCR78, fF75, fR78, (jv_t (F41 70))⟩
                                      · have p82 := gn_lt 0 4 (gc_nle zc80) py77 p43 (by decide)
                                        refine g_aload_n cx 0 rfl e_X11_put_298 ?_
                                        refine g_get cx cl_X11 fl_X11_13 0 (.ref (ad 2)) e_X11_put_299 rfl rfl ?_
                                        refine g_aload_n cx 0 rfl e_X11_put_302 ?_
                                        refine g_get cx cl_X11 fl_X11_122 0 (.ref (ad 38)) e_X11_put_303 rfl rfl ?_
                                        refine g_iload cx 1 rfl e_X11_put_306 ?_
                                        refine g_iald cx 38 e_X11_put_308 rfl (jv_ix 5 p82 (by decide)) ?_
                                        refine g_topi (fun x83 ex83 => ?_)
                                        have p84 : jv 0 9 x83 := by rw [ex83]; exact g_okR_g oR78 4 rfl (jv_cl 5 p82 (by decide))
                                        refine g_aload_n cx 0 rfl e_X11_put_309 ?_
                                        refine g_get cx cl_X11 fl_X11_86 0 (.ref (ad 26)) e_X11_put_310 rfl rfl ?_
                                        refine g_aload_n cx 0 rfl e_X11_put_313 ?_
                                        refine g_get cx cl_X11 fl_X11_122 0 (.ref (ad 38)) e_X11_put_314 rfl rfl ?_
                                        refine g_aload_n cx 0 rfl e_X11_put_317 ?_
                                        refine g_get cx cl_X11 fl_X11_125 0 (.ref (ad 39)) e_X11_put_318 rfl rfl ?_
                                        refine g_iload cx 1 rfl e_X11_put_321 ?_
                                        refine g_iald cx 39 e_X11_put_323 rfl (jv_ix 5 p82 (by decide)) ?_
                                        refine g_topi (fun x85 ex85 => ?_)
                                        have p86 : jv 0 4 x85 := by rw [ex85]; exact g_okR_g oR78 5 rfl (jv_cl 5 p82 (by decide))
                                        refine g_iald cx 38 e_X11_put_324 rfl (jv_ix 5 p86 (by decide)) ?_
                                        refine g_topi (fun x87 ex87 => ?_)
                                        have p88 : jv 0 9 x87 := by rw [ex87]; exact g_okR_g oR78 4 rfl (jv_cl 5 p86 (by decide))
                                        refine g_iald cx 26 e_X11_put_325 rfl (jv_ix 10 p88 (by decide)) ?_
                                        refine g_topi (fun x89 ex89 => ?_)
                                        refine g_iast cx 2 (wM X ad F75 (g_u R78 2 (upd (R78 2) (Int32.toNatClampNeg x83) x89))) e_X11_put_326 rfl (jv_ix 10 p84 (by decide)) rfl ?_
                                        obtain ⟨R90, hR90⟩ : ∃ z, z = g_u R78 2 (upd (R78 2) (Int32.toNatClampNeg x83) x89) := ⟨_, rfl⟩
                                        rw [← hR90]
                                        have oR90 : g_okR LA_wM R90 := by rw [hR90]; exact g_okR_u oR78 rfl
                                        have fR90 : g_fr mr_X11_put R R90 := by rw [hR90]; exact g_fr_r fR78 rfl
                                        have wTR90 : WT F75 R90 := by rw [hR90]; exact WT_r wTR78 rfl
                                        have wCR90 : WC F75 R90 := by rw [hR90]; exact WC_r wCR78 rfl
                                        obtain ⟨x91, ex91⟩ : ∃ z : Int32, z = y77 + Int32.ofInt 1 := ⟨_, rfl⟩
                                        refine g_iinc cx x91 [(5, .int x91), (0, .ref (ad 0))] 1 e_X11_put_327 rfl ex91.symm (by decide) rfl ?_
                                        have zx91 := jv_add 1 5 (show x91 = y77 + 1 from ex91) p82 (jv_k (x := 1) 1 (by decide)) (by decide)
                                        refine g_goto cx 289 e_X11_put_330 (by decide) ?_
                                        refine g_lsub [1, 0] [(0, .ref (ad 0)), (5, .int x91)] rfl ?_
                                        exact ih289 R90 x91 oR90 fR90 wTR90 wCR90 (jv_w zx91.2 (by decide)) (by have q0 := (jv_k (x := 1) 1 (by decide)).1; have q1 := (jv_k (x := 1) 1 (by decide)).2; have q2 := z75.1; have q3 := z75.2; have q4 := (jv_t (F41 70)).1; have q5 := (jv_t (F41 70)).2; have q6 := (jv_t (F41 72)).1; have q7 := (jv_t (F41 72)).2; have q8 := p43.1; have q9 := p43.2; have q10 := p79.1; have q11 := p79.2; have q12 := p20.1; have q13 := p20.2; have q14 := zx91.2.1; have q15 := zx91.2.2; have q16 := zpr.1; have q17 := zpr.2; have q18 := p32.1; have q19 := p32.2; have q20 := p45.1; have q21 := p45.2; have q22 := p82.1; have q23 := p82.2; have q24 := zx12; have q25 := zq72_0; have q26 := zq10; have q27 := zi124_0; have q28 := (gc_le zc31); have q29 := zre; have q30 := zi155_0; have q31 := zi155_1; have q32 := (gc_le zc44); have q33 := (congrArg Int32.toInt (show F75 75 = F41 75 from ((cF75 75 rfl).trans (cF52 75 rfl)))); have q34 := zi289_0; have q35 := (congrArg Int32.toInt (show F75 75 = F41 75 from ((cF75 75 rfl).trans (cF52 75 rfl)))); have q36 := (gc_nle zc80); have q37 := (g_eq0 zx91.1); have q38 := (congrArg Int32.toInt (show F75 75 = F41 75 from ((cF75 75 rfl).trans (cF52 75 rfl)))); omega) (Nat.lt_of_lt_of_le (show (2147483647 - x91.toInt).toNat < (2147483647 - y77.toInt).toNat from by have q0 := (jv_k (x := 1) 1 (by decide)).1; have q1 := (jv_k (x := 1) 1 (by decide)).2; have q2 := z75.1; have q3 := z75.2; have q4 := (jv_t (F41 70)).1; have q5 := (jv_t (F41 70)).2; have q6 := (jv_t (F41 72)).1; have q7 := (jv_t (F41 72)).2; have q8 := p43.1; have q9 := p43.2; have q10 := p79.1; have q11 := p79.2; have q12 := p20.1; have q13 := p20.2; have q14 := zx91.2.1; have q15 := zx91.2.2; have q16 := zpr.1; have q17 := zpr.2; have q18 := p32.1; have q19 := p32.2; have q20 := p45.1; have q21 := p45.2; have q22 := p82.1; have q23 := p82.2; have q24 := zx12; have q25 := zq72_0; have q26 := zq10; have q27 := zi124_0; have q28 := (gc_le zc31); have q29 := zre; have q30 := zi155_0; have q31 := zi155_1; have q32 := (gc_le zc44); have q33 := (congrArg Int32.toInt (show F75 75 = F41 75 from ((cF75 75 rfl).trans (cF52 75 rfl)))); have q34 := zi289_0; have q35 := (congrArg Int32.toInt (show F75 75 = F41 75 from ((cF75 75 rfl).trans (cF52 75 rfl)))); have q36 := (gc_nle zc80); have q37 := (g_eq0 zx91.1); have q38 := (congrArg Int32.toInt (show F75 75 = F41 75 from ((cF75 75 rfl).trans (cF52 75 rfl)))); omega) (Nat.le_of_lt_succ hm289))
                                  refine g_lsub [1, 0] [(0, .ref (ad 0)), (5, .int 0)] rfl ?_
                                  exact J289 _ R76 0 oR76 fR76 wTF75 wCF75 (jv_w (jv_k (x := 0) 0 (by decide)) (by decide)) (by have q0 := z75.1; have q1 := z75.2; have q2 := (jv_t (F41 70)).1; have q3 := (jv_t (F41 70)).2; have q4 := (jv_t (F41 72)).1; have q5 := (jv_t (F41 72)).2; have q6 := p43.1; have q7 := p43.2; have q8 := (g_ok_g oF75 14 rfl).1; have q9 := (g_ok_g oF75 14 rfl).2; have q10 := p20.1; have q11 := p20.2; have q12 := zpr.1; have q13 := zpr.2; have q14 := p32.1; have q15 := p32.2; have q16 := p45.1; have q17 := p45.2; have q18 := zx12; have q19 := zq72_0; have q20 := zq10; have q21 := zi124_0; have q22 := (gc_le zc31); have q23 := zre; have q24 := zi155_0; have q25 := zi155_1; have q26 := (gc_le zc44); have q27 := (congrArg Int32.toInt (show F75 75 = F41 75 from ((cF75 75 rfl).trans (cF52 75 rfl)))); omega) (Nat.lt_succ_self _)
                              · have p92 := gn_eq 10 10 (gc_eq zc47) (jv_t a1) (jv_k (x := 10) 10 (by decide)) (by decide)
                                refine g_aload_n cx 0 rfl e_X11_put_262 ?_
                                refine g_get cx cl_X11 fl_X11_449 0 (.int (F41 70)) e_X11_put_263 rfl rfl ?_
                                exact hret e_X11_put_266 (Nat.le_of_ble_eq_true rfl) (Nat.le_of_ble_eq_true rfl) rfl ⟨F41, R42, rfl, oF41, oR42, wTF41R42, wCF41R42, fF41, fR42, (jv_t (F41 70))⟩
                            · have p93 := gn_eq 11 11 (gc_eq zc46) (jv_t a1) (jv_k (x := 11) 11 (by decide)) (by decide)
                              refine g_aload_n cx 0 rfl e_X11_put_251 ?_
                              refine g_get cx cl_X11 fl_X11_452 0 (.int (F41 71)) e_X11_put_252 rfl rfl ?_
                              exact hret e_X11_put_255 (Nat.le_of_ble_eq_true rfl) (Nat.le_of_ble_eq_true rfl) rfl ⟨F41, R42, rfl, oF41, oR42, wTF41R42, wCF41R42, fF41, fR42, (jv_t (F41 71))⟩
                          · have p94 := gn_lt 0 3124 (gc_nle zc44) py40 zpr (by decide)
                            refine g_aload_n cx 0 rfl e_X11_put_162 ?_
                            refine g_iload cx 3 rfl e_X11_put_163 ?_
                            refine g_cViW cx [.int y40] [] (w_X11_readsRow l X ad F41 R42 oF41 oR42 wTF41R42 wCF41R42 y40 p94 (show jv 2 5 (F41 75) from ⟨by have q0 := z75.1; have q1 := z75.2; have q2 := (jv_t (F41 70)).1; have q3 := (jv_t (F41 70)).2; have q4 := (jv_t (F41 72)).1; have q5 := (jv_t (F41 72)).2; have q6 := p43.1; have q7 := p43.2; have q8 := p20.1; have q9 := p20.2; have q10 := zpr.1; have q11 := zpr.2; have q12 := p32.1; have q13 := p32.2; have q14 := p94.1; have q15 := p94.2; have q16 := zx12; have q17 := zq72_0; have q18 := zq10; have q19 := zi124_0; have q20 := (gc_le zc31); have q21 := zre; have q22 := zi155_0; have q23 := zi155_1; have q24 := (gc_nle zc44); omega, by have q0 := z75.1; have q1 := z75.2; have q2 := (jv_t (F41 70)).1; have q3 := (jv_t (F41 70)).2; have q4 := (jv_t (F41 72)).1; have q5 := (jv_t (F41 72)).2; have q6 := p43.1; have q7 := p43.2; have q8 := p20.1; have q9 := p20.2; have q10 := zpr.1; have q11 := zpr.2; have q12 := p32.1; have q13 := p32.2; have q14 := p94.1; have q15 := p94.2; have q16 := zx12; have q17 := zq72_0; have q18 := zq10; have q19 := zi124_0; have q20 := (gc_le zc31); have q21 := zre; have q22 := zi155_0; have q23 := zi155_1; have q24 := (gc_nle zc44); omega⟩)) ml_X11_467 yV_X11_readsRow e_X11_put_165 (by unfold g_rr; decide) (by decide) 0 rfl rfl rfl (Nat.le_of_ble_eq_true rfl) (fun r95 w96 h97 => ?_)
                            obtain ⟨F99, R100, rfl, oF99, oR100, wTF99, wCF99, cF99, cR100, pr95, zx98⟩ := h97
                            have fF99 : g_fr md_X11_put F F99 := g_fr_c fF41 cF99 rfl
                            have fR100 : g_fr mr_X11_put R R100 := g_fr_c fR42 cR100 rfl
                            have J239 : ∀ (F101 : Nat → Int32) (R102 : Nat → Nat → Int32), (g_ok LK_wM F101) → (g_fr md_X11_put F F101) → (g_okR LA_wM R102) → (g_fr mr_X11_put R R102) → (WT F101 R102) → (WC F101 R102) → ((F101 75).toInt = (F25 75).toInt) → ((0 ≤ (F101 72).toInt ∧ (F101 72).toInt ≤ 3124) ∨ ((F101 70).toInt = -1 ∧ ((F25 75).toInt = 2 ∧ (y40 : Int32).toInt + 1 ≤ 1 ∨ (F25 75).toInt = 3 ∧ (y40 : Int32).toInt + 1 ≤ 5 ∨ (F25 75).toInt = 4 ∧ (y40 : Int32).toInt + 1 ≤ 27 ∨ (F25 75).toInt = 5 ∧ (y40 : Int32).toInt + 1 ≤ 194))) → G X E 7 0 0 (wM X ad F101 R102) [(0, .ref (ad 0)), (2, .int a1), (4, .int y29), (5, .int y40)] 239 [] := by
                              intro F101 R102 oF101 fF101 oR102 fR102 wTF101R102 wCF101R102 zi239_0 zi239_1
                              have p103 : jv 2 5 (F101 75) := ⟨by have q0 := (jv_t (F101 70)).1; have q1 := (jv_t (F101 70)).2; have q2 := (jv_t (F101 72)).1; have q3 := (jv_t (F101 72)).2; have q4 := (g_ok_g oF101 14 rfl).1; have q5 := (g_ok_g oF101 14 rfl).2; have q6 := z75.1; have q7 := z75.2; have q8 := (jv_t (F41 70)).1; have q9 := (jv_t (F41 70)).2; have q10 := (jv_t (F41 72)).1; have q11 := (jv_t (F41 72)).2; have q12 := p43.1; have q13 := p43.2; have q14 := p20.1; have q15 := p20.2; have q16 := zpr.1; have q17 := zpr.2; have q18 := p32.1; have q19 := p32.2; have q20 := p94.1; have q21 := p94.2; have q22 := zx12; have q23 := zq72_0; have q24 := zq10; have q25 := zi124_0; have q26 := (gc_le zc31); have q27 := zre; have q28 := zi155_0; have q29 := zi155_1; have q30 := (gc_nle zc44); have q31 := zi239_0; have q32 := zi239_1; omega, by have q0 := (jv_t (F101 70)).1; have q1 := (jv_t (F101 70)).2; have q2 := (jv_t (F101 72)).1; have q3 := (jv_t (F101 72)).2; have q4 := (g_ok_g oF101 14 rfl).1; have q5 := (g_ok_g oF101 14 rfl).2; have q6 := z75.1; have q7 := z75.2; have q8 := (jv_t (F41 70)).1; have q9 := (jv_t (F41 70)).2; have q10 := (jv_t (F41 72)).1; have q11 := (jv_t (F41 72)).2; have q12 := p43.1; have q13 := p43.2; have q14 := p20.1; have q15 := p20.2; have q16 := zpr.1; have q17 := zpr.2; have q18 := p32.1; have q19 := p32.2; have q20 := p94.1; have q21 := p94.2; have q22 := zx12; have q23 := zq72_0; have q24 := zq10; have q25 := zi124_0; have q26 := (gc_le zc31); have q27 := zre; have q28 := zi155_0; have q29 := zi155_1; have q30 := (gc_nle zc44); have q31 := zi239_0; have q32 := zi239_1; omega⟩
                              obtain ⟨x104, ex104⟩ : ∃ z : Int32, z = y40 + Int32.ofInt 1 := ⟨_, rfl⟩
                              refine g_iinc cx x104 [(5, .int x104), (0, .ref (ad 0)), (2, .int a1), (4, .int y29)] 3 e_X11_put_239 rfl ex104.symm (by decide) rfl ?_
                              have zx104 := jv_add 1 3125 (show x104 = y40 + 1 from ex104) p94 (jv_k (x := 1) 1 (by decide)) (by decide)
                              refine g_goto cx 155 e_X11_put_242 (by decide) ?_
                              refine g_lsub [1, 2, 3, 0] [(0, .ref (ad 0)), (2, .int a1), (4, .int y29), (5, .int x104)] rfl ?_
                              exact ih155 F101 R102 x104 oF101 fF101 oR102 fR102 wTF101R102 wCF101R102 (jv_w zx104.2 (by decide)) (by have q0 := (jv_k (x := 1) 1 (by decide)).1; have q1 := (jv_k (x := 1) 1 (by decide)).2; have q2 := (jv_t (F101 70)).1; have q3 := (jv_t (F101 70)).2; have q4 := (jv_t (F101 72)).1; have q5 := (jv_t (F101 72)).2; have q6 := p103.1; have q7 := p103.2; have q8 := z75.1; have q9 := z75.2; have q10 := (jv_t (F41 70)).1; have q11 := (jv_t (F41 70)).2; have q12 := (jv_t (F41 72)).1; have q13 := (jv_t (F41 72)).2; have q14 := p43.1; have q15 := p43.2; have q16 := p20.1; have q17 := p20.2; have q18 := zx104.2.1; have q19 := zx104.2.2; have q20 := zpr.1; have q21 := zpr.2; have q22 := p32.1; have q23 := p32.2; have q24 := p94.1; have q25 := p94.2; have q26 := zx12; have q27 := zq72_0; have q28 := zq10; have q29 := zi124_0; have q30 := (gc_le zc31); have q31 := zre; have q32 := zi155_0; have q33 := zi155_1; have q34 := (gc_nle zc44); have q35 := zi239_0; have q36 := zi239_1; have q37 := (g_eq0 zx104.1); omega) (by have q0 := (jv_k (x := 1) 1 (by decide)).1; have q1 := (jv_k (x := 1) 1 (by decide)).2; have q2 := (jv_t (F101 70)).1; have q3 := (jv_t (F101 70)).2; have q4 := (jv_t (F101 72)).1; have q5 := (jv_t (F101 72)).2; have q6 := p103.1; have q7 := p103.2; have q8 := z75.1; have q9 := z75.2; have q10 := (jv_t (F41 70)).1; have q11 := (jv_t (F41 70)).2; have q12 := (jv_t (F41 72)).1; have q13 := (jv_t (F41 72)).2; have q14 := p43.1; have q15 := p43.2; have q16 := p20.1; have q17 := p20.2; have q18 := zx104.2.1; have q19 := zx104.2.2; have q20 := zpr.1; have q21 := zpr.2; have q22 := p32.1; have q23 := p32.2; have q24 := p94.1; have q25 := p94.2; have q26 := zx12; have q27 := zq72_0; have q28 := zq10; have q29 := zi124_0; have q30 := (gc_le zc31); have q31 := zre; have q32 := zi155_0; have q33 := zi155_1; have q34 := (gc_nle zc44); have q35 := zi239_0; have q36 := zi239_1; have q37 := (g_eq0 zx104.1); omega) (Nat.lt_of_lt_of_le (show (2147483647 - x104.toInt).toNat < (2147483647 - y40.toInt).toNat from by have q0 := (jv_k (x := 1) 1 (by decide)).1; have q1 := (jv_k (x := 1) 1 (by decide)).2; have q2 := (jv_t (F101 70)).1; have q3 := (jv_t (F101 70)).2; have q4 := (jv_t (F101 72)).1; have q5 := (jv_t (F101 72)).2; have q6 := p103.1; have q7 := p103.2; have q8 := z75.1; have q9 := z75.2; have q10 := (jv_t (F41 70)).1; have q11 := (jv_t (F41 70)).2; have q12 := (jv_t (F41 72)).1; have q13 := (jv_t (F41 72)).2; have q14 := p43.1; have q15 := p43.2; have q16 := p20.1; have q17 := p20.2; have q18 := zx104.2.1; have q19 := zx104.2.2; have q20 := zpr.1; have q21 := zpr.2; have q22 := p32.1; have q23 := p32.2; have q24 := p94.1; have q25 := p94.2; have q26 := zx12; have q27 := zq72_0; have q28 := zq10; have q29 := zi124_0; have q30 := (gc_le zc31); have q31 := zre; have q32 := zi155_0; have q33 := zi155_1; have q34 := (gc_nle zc44); have q35 := zi239_0; have q36 := zi239_1; have q37 := (g_eq0 zx104.1); omega) (Nat.le_of_lt_succ hm155))
                            refine g_if_ne cx 174 e_X11_put_168 (by decide) (fun zc105 => ?_) (fun zc105 => ?_)
                            · have p106 := gn_neL 1 1 (gc_ne zc105) pr95 (jv_k (x := 0) 0 (by decide)) (by decide)
                              refine g_aload_n cx 0 rfl e_X11_put_174 ?_
                              refine g_cVvW cx [] [] (w_X11_laysPull l X ad F99 R100 oF99 oR100 wTF99 wCF99) ml_X11_422 yV_X11_laysPull e_X11_put_175 (by unfold g_rr; decide) (by decide) 0 rfl rfl rfl (Nat.le_of_ble_eq_true rfl) (fun w108 h109 => ?_)
                              obtain ⟨F111, R112, rfl, oF111, oR112, wTF111, wCF111, cF111, cR112, hx110⟩ := h109
                              have fF111 : g_fr md_X11_put F F111 := g_fr_c fF99 cF111 rfl
                              have fR112 : g_fr mr_X11_put R R112 := g_fr_c fR100 cR112 rfl
                              refine g_aload_n cx 0 rfl e_X11_put_178 ?_
                              refine g_cVvW cx [] [] (w_X11_laysThings l X ad F111 R112 oF111 oR112 wTF111 wCF111) ml_X11_425 yV_X11_laysThings e_X11_put_179 (by unfold g_rr; decide) (by decide) 0 rfl rfl rfl (Nat.le_of_ble_eq_true rfl) (fun w114 h115 => ?_)
                              obtain ⟨F118, R119, rfl, oF118, oR119, wTF118, wCF118, cF118, cR119, zx116, hx117⟩ := h115
                              have fF118 : g_fr md_X11_put F F118 := g_fr_c fF111 cF118 rfl
                              have fR119 : g_fr mr_X11_put R R119 := g_fr_c fR112 cR119 rfl
                              refine g_iconst cx 0 (by decide) e_X11_put_182 ?_
                              refine g_istore cx [(6, .int 0), (0, .ref (ad 0)), (2, .int a1), (4, .int y29), (5, .int y40)] e_X11_put_183 (by decide) rfl ?_
                              have J185 : ∀ (N : Nat) (R121 : Nat → Nat → Int32) (y120 : Int32), (g_okR LA_wM R121) → (g_fr mr_X11_put R R121) → (WT F118 R121) → (WC F118 R121) → (jv 0 5 y120) → ((F118 75).toInt = (F25 75).toInt) → (2147483647 - y120.toInt).toNat < N → G X E 7 0 0 (wM X ad F118 R121) [(0, .ref (ad 0)), (2, .int a1), (4, .int y29), (5, .int y40), (6, .int y120)] 185 [] := by
                                intro N
                                induction N with
                                | zero => intro R121 y120 oR121 fR121 wTR121 wCR121 py120 zi185_0 hm; exact absurd hm (Nat.not_lt_zero _)
                                | succ N ih185 =>
                                  intro R121 y120 oR121 fR121 wTR121 wCR121 py120 zi185_0 hm185
                                  have p122 : jv 2 5 (F118 75) := ⟨by have q0 := (g_ok_g oF118 14 rfl).1; have q1 := (g_ok_g oF118 14 rfl).2; have q2 := z75.1; have q3 := z75.2; have q4 := (jv_t (F41 70)).1; have q5 := (jv_t (F41 70)).2; have q6 := (jv_t (F41 72)).1; have q7 := (jv_t (F41 72)).2; have q8 := p43.1; have q9 := p43.2; have q10 := p20.1; have q11 := p20.2; have q12 := zpr.1; have q13 := zpr.2; have q14 := p32.1; have q15 := p32.2; have q16 := p94.1; have q17 := p94.2; have q18 := zx12; have q19 := zq72_0; have q20 := zq10; have q21 := zi124_0; have q22 := (gc_le zc31); have q23 := zre; have q24 := zi155_0; have q25 := zi155_1; have q26 := (gc_nle zc44); have q27 := (congrArg Int32.toInt (show F118 75 = F41 75 from (((cF118 75 rfl).trans (cF111 75 rfl)).trans (cF99 75 rfl)))); have q28 := zi185_0; have q29 := (congrArg Int32.toInt (show F118 75 = F41 75 from (((cF118 75 rfl).trans (cF111 75 rfl)).trans (cF99 75 rfl)))); omega, by have q0 := (g_ok_g oF118 14 rfl).1; have q1 := (g_ok_g oF118 14 rfl).2; have q2 := z75.1; have q3 := z75.2; have q4 := (jv_t (F41 70)).1; have q5 := (jv_t (F41 70)).2; have q6 := (jv_t (F41 72)).1; have q7 := (jv_t (F41 72)).2; have q8 := p43.1; have q9 := p43.2; have q10 := p20.1; have q11 := p20.2; have q12 := zpr.1; have q13 := zpr.2; have q14 := p32.1; have q15 := p32.2; have q16 := p94.1; have q17 := p94.2; have q18 := zx12; have q19 := zq72_0; have q20 := zq10; have q21 := zi124_0; have q22 := (gc_le zc31); have q23 := zre; have q24 := zi155_0; have q25 := zi155_1; have q26 := (gc_nle zc44); have q27 := (congrArg Int32.toInt (show F118 75 = F41 75 from (((cF118 75 rfl).trans (cF111 75 rfl)).trans (cF99 75 rfl)))); have q28 := zi185_0; have q29 := (congrArg Int32.toInt (show F118 75 = F41 75 from (((cF118 75 rfl).trans (cF111 75 rfl)).trans (cF99 75 rfl)))); omega⟩
                                  refine g_iload cx 4 rfl e_X11_put_185 ?_
                                  refine g_aload_n cx 0 rfl e_X11_put_187 ?_
                                  refine g_get cx cl_X11 fl_X11_464 0 (.int (F118 75)) e_X11_put_188 rfl rfl ?_
                                  refine g_toi (F41 75) (((cF118 75 rfl).trans (cF111 75 rfl)).trans (cF99 75 rfl)) ?_
                                  refine g_icmp_ge cx 229 e_X11_put_191 (by decide) (fun zc123 => ?_) (fun zc123 => ?_)
                                  · have p124 := gn_ge 2 5 (gc_le zc123) py120 p43 (by decide)
                                    refine g_aload_n cx 0 rfl e_X11_put_229 ?_
                                    refine g_cVvW cx [] [] (w_X11_runs l X ad F118 R121 oF118 oR121 wTR121 wCR121 (WN_of wTR121 ((zx116.trans ((((cF118 4 rfl).trans (cF111 4 rfl)).trans (cF99 4 rfl)).trans (fF41 4 rfl))).trans ((((cF118 4 rfl).trans (cF111 4 rfl)).trans (cF99 4 rfl)).trans (fF41 4 rfl)).symm))) ml_X11_428 yV_X11_runs e_X11_put_230 (by unfold g_rr; decide) (by decide) 0 rfl rfl rfl (Nat.le_of_ble_eq_true rfl) (fun w126 h127 => ?_)
                                    obtain ⟨F129, R130, rfl, oF129, oR130, wTF129, wCF129, cF129, cR130, hx128⟩ := h127
                                    have fF129 : g_fr md_X11_put F F129 := g_fr_c fF118 cF129 rfl
                                    have fR130 : g_fr mr_X11_put R R130 := g_fr_c fR121 cR130 rfl
                                    refine g_aload_n cx 0 rfl e_X11_put_233 ?_
                                    refine g_iload cx 3 rfl e_X11_put_234 ?_
                                    refine g_cVvW cx [.int y40] [] (w_X11_better l X ad F129 R130 oF129 oR130 wTF129 wCF129 y40) ml_X11_461 yV_X11_better e_X11_put_236 (by unfold g_rr; decide) (by decide) 0 rfl rfl rfl (Nat.le_of_ble_eq_true rfl) (fun w132 h133 => ?_)
                                    obtain ⟨F137, R138, rfl, oF137, oR138, wTF137, wCF137, cF137, cR138, zx134, zx135, hx136⟩ := h133
                                    have fF137 : g_fr md_X11_put F F137 := g_fr_c fF129 cF137 rfl
                                    have fR138 : g_fr mr_X11_put R R138 := g_fr_c fR130 cR138 rfl
                                    refine g_lsub [0, 1, 2, 3] [(0, .ref (ad 0)), (2, .int a1), (4, .int y29), (5, .int y40)] rfl ?_
                                    exact J239 F137 R138 oF137 fF137 oR138 fR138 wTF137 wCF137 (by have q0 := p122.1; have q1 := p122.2; have q2 := (jv_t (F129 70)).1; have q3 := (jv_t (F129 70)).2; have q4 := (jv_t (F129 72)).1; have q5 := (jv_t (F129 72)).2; have q6 := (jv_t (F137 70)).1; have q7 := (jv_t (F137 70)).2; have q8 := (jv_t (F137 72)).1; have q9 := (jv_t (F137 72)).2; have q10 := (g_ok_g oF137 14 rfl).1; have q11 := (g_ok_g oF137 14 rfl).2; have q12 := z75.1; have q13 := z75.2; have q14 := (jv_t (F41 70)).1; have q15 := (jv_t (F41 70)).2; have q16 := (jv_t (F41 72)).1; have q17 := (jv_t (F41 72)).2; have q18 := p43.1; have q19 := p43.2; have q20 := p20.1; have q21 := p20.2; have q22 := p124.1; have q23 := p124.2; have q24 := zpr.1; have q25 := zpr.2; have q26 := p32.1; have q27 := p32.2; have q28 := p94.1; have q29 := p94.2; have q30 := zx12; have q31 := zq72_0; have q32 := zq10; have q33 := zi124_0; have q34 := (gc_le zc31); have q35 := zre; have q36 := zi155_0; have q37 := zi155_1; have q38 := (gc_nle zc44); have q39 := (congrArg Int32.toInt (show F118 75 = F41 75 from (((cF118 75 rfl).trans (cF111 75 rfl)).trans (cF99 75 rfl)))); have q40 := zi185_0; have q41 := (congrArg Int32.toInt (show F118 75 = F41 75 from (((cF118 75 rfl).trans (cF111 75 rfl)).trans (cF99 75 rfl)))); have q42 := (gc_le zc123); have q43 := zx134; have q44 := (congrArg Int32.toInt (show F129 70 = F41 70 from ((((cF129 70 rfl).trans (cF118 70 rfl)).trans (cF111 70 rfl)).trans (cF99 70 rfl)))); have q45 := (congrArg Int32.toInt (show F129 72 = F41 72 from ((((cF129 72 rfl).trans (cF118 72 rfl)).trans (cF111 72 rfl)).trans (cF99 72 rfl)))); have q46 := zx135; have q47 := (congrArg Int32.toInt (show F137 75 = F41 75 from (((((cF137 75 rfl).trans (cF129 75 rfl)).trans (cF118 75 rfl)).trans (cF111 75 rfl)).trans (cF99 75 rfl)))); omega) (by have q0 := p122.1; have q1 := p122.2; have q2 := (jv_t (F129 70)).1; have q3 := (jv_t (F129 70)).2; have q4 := (jv_t (F129 72)).1; have q5 := (jv_t (F129 72)).2; have q6 := (jv_t (F137 70)).1; have q7 := (jv_t (F137 70)).2; have q8 := (jv_t (F137 72)).1; have q9 := (jv_t (F137 72)).2; have q10 := (g_ok_g oF137 14 rfl).1; have q11 := (g_ok_g oF137 14 rfl).2; have q12 := z75.1; have q13 := z75.2; have q14 := (jv_t (F41 70)).1; have q15 := (jv_t (F41 70)).2; have q16 := (jv_t (F41 72)).1; have q17 := (jv_t (F41 72)).2; have q18 := p43.1; have q19 := p43.2; have q20 := p20.1; have q21 := p20.2; have q22 := p124.1; have q23 := p124.2; have q24 := zpr.1; have q25 := zpr.2; have q26 := p32.1; have q27 := p32.2; have q28 := p94.1; have q29 := p94.2; have q30 := zx12; have q31 := zq72_0; have q32 := zq10; have q33 := zi124_0; have q34 := (gc_le zc31); have q35 := zre; have q36 := zi155_0; have q37 := zi155_1; have q38 := (gc_nle zc44); have q39 := (congrArg Int32.toInt (show F118 75 = F41 75 from (((cF118 75 rfl).trans (cF111 75 rfl)).trans (cF99 75 rfl)))); have q40 := zi185_0; have q41 := (congrArg Int32.toInt (show F118 75 = F41 75 from (((cF118 75 rfl).trans (cF111 75 rfl)).trans (cF99 75 rfl)))); have q42 := (gc_le zc123); have q43 := zx134; have q44 := (congrArg Int32.toInt (show F129 70 = F41 70 from ((((cF129 70 rfl).trans (cF118 70 rfl)).trans (cF111 70 rfl)).trans (cF99 70 rfl)))); have q45 := (congrArg Int32.toInt (show F129 72 = F41 72 from ((((cF129 72 rfl).trans (cF118 72 rfl)).trans (cF111 72 rfl)).trans (cF99 72 rfl)))); have q46 := zx135; have q47 := (congrArg Int32.toInt (show F137 75 = F41 75 from (((((cF137 75 rfl).trans (cF129 75 rfl)).trans (cF118 75 rfl)).trans (cF111 75 rfl)).trans (cF99 75 rfl)))); omega)
                                  · have p139 := gn_lt 0 4 (gc_nle zc123) py120 p43 (by decide)
                                    refine g_aload_n cx 0 rfl e_X11_put_194 ?_
                                    refine g_get cx cl_X11 fl_X11_86 0 (.ref (ad 26)) e_X11_put_195 rfl rfl ?_
                                    refine g_aload_n cx 0 rfl e_X11_put_198 ?_
                                    refine g_get cx cl_X11 fl_X11_122 0 (.ref (ad 38)) e_X11_put_199 rfl rfl ?_
                                    refine g_iload cx 4 rfl e_X11_put_202 ?_
                                    refine g_iald cx 38 e_X11_put_204 rfl (jv_ix 5 p139 (by decide)) ?_
                                    refine g_topi (fun x140 ex140 => ?_)
                                    have p141 : jv 0 9 x140 := by rw [ex140]; exact g_okR_g oR121 4 rfl (jv_cl 5 p139 (by decide))
                                    refine g_aload_n cx 0 rfl e_X11_put_205 ?_
                                    refine g_get cx cl_X11 fl_X11_13 0 (.ref (ad 2)) e_X11_put_206 rfl rfl ?_
                                    refine g_aload_n cx 0 rfl e_X11_put_209 ?_
                                    refine g_get cx cl_X11 fl_X11_122 0 (.ref (ad 38)) e_X11_put_210 rfl rfl ?_
                                    refine g_aload_n cx 0 rfl e_X11_put_213 ?_
                                    refine g_get cx cl_X11 fl_X11_125 0 (.ref (ad 39)) e_X11_put_214 rfl rfl ?_
                                    refine g_iload cx 4 rfl e_X11_put_217 ?_
                                    refine g_iald cx 39 e_X11_put_219 rfl (jv_ix 5 p139 (by decide)) ?_
                                    refine g_topi (fun x142 ex142 => ?_)
                                    have p143 : jv 0 4 x142 := by rw [ex142]; exact g_okR_g oR121 5 rfl (jv_cl 5 p139 (by decide))
                                    refine g_iald cx 38 e_X11_put_220 rfl (jv_ix 5 p143 (by decide)) ?_
                                    refine g_topi (fun x144 ex144 => ?_)
                                    have p145 : jv 0 9 x144 := by rw [ex144]; exact g_okR_g oR121 4 rfl (jv_cl 5 p143 (by decide))
                                    refine g_iald cx 2 e_X11_put_221 rfl (jv_ix 10 p145 (by decide)) ?_
                                    refine g_topi (fun x146 ex146 => ?_)
                                    refine g_iast cx 26 (wM X ad F118 (g_u R121 26 (upd (R121 26) (Int32.toNatClampNeg x140) x146))) e_X11_put_222 rfl (jv_ix 10 p141 (by decide)) rfl ?_
                                    obtain ⟨R147, hR147⟩ : ∃ z, z = g_u R121 26 (upd (R121 26) (Int32.toNatClampNeg x140) x146) := ⟨_, rfl⟩
                                    rw [← hR147]
                                    have oR147 : g_okR LA_wM R147 := by rw [hR147]; exact g_okR_u oR121 rfl
                                    have fR147 : g_fr mr_X11_put R R147 := by rw [hR147]; exact g_fr_r fR121 rfl
                                    have wTR147 : WT F118 R147 := by rw [hR147]; exact WT_r wTR121 rfl
                                    have wCR147 : WC F118 R147 := by rw [hR147]; exact WC_r wCR121 rfl
                                    obtain ⟨x148, ex148⟩ : ∃ z : Int32, z = y120 + Int32.ofInt 1 := ⟨_, rfl⟩
                                    refine g_iinc cx x148 [(6, .int x148), (0, .ref (ad 0)), (2, .int a1), (4, .int y29), (5, .int y40)] 4 e_X11_put_223 rfl ex148.symm (by decide) rfl ?_
                                    have zx148 := jv_add 1 5 (show x148 = y120 + 1 from ex148) p139 (jv_k (x := 1) 1 (by decide)) (by decide)
                                    refine g_goto cx 185 e_X11_put_226 (by decide) ?_
                                    refine g_lsub [1, 2, 3, 4, 0] [(0, .ref (ad 0)), (2, .int a1), (4, .int y29), (5, .int y40), (6, .int x148)] rfl ?_
                                    exact ih185 R147 x148 oR147 fR147 wTR147 wCR147 (jv_w zx148.2 (by decide)) (by have q0 := (jv_k (x := 1) 1 (by decide)).1; have q1 := (jv_k (x := 1) 1 (by decide)).2; have q2 := p122.1; have q3 := p122.2; have q4 := z75.1; have q5 := z75.2; have q6 := (jv_t (F41 70)).1; have q7 := (jv_t (F41 70)).2; have q8 := (jv_t (F41 72)).1; have q9 := (jv_t (F41 72)).2; have q10 := p43.1; have q11 := p43.2; have q12 := p20.1; have q13 := p20.2; have q14 := zx148.2.1; have q15 := zx148.2.2; have q16 := p139.1; have q17 := p139.2; have q18 := zpr.1; have q19 := zpr.2; have q20 := p32.1; have q21 := p32.2; have q22 := p94.1; have q23 := p94.2; have q24 := zx12; have q25 := zq72_0; have q26 := zq10; have q27 := zi124_0; have q28 := (gc_le zc31); have q29 := zre; have q30 := zi155_0; have q31 := zi155_1; have q32 := (gc_nle zc44); have q33 := (congrArg Int32.toInt (show F118 75 = F41 75 from (((cF118 75 rfl).trans (cF111 75 rfl)).trans (cF99 75 rfl)))); have q34 := zi185_0; have q35 := (congrArg Int32.toInt (show F118 75 = F41 75 from (((cF118 75 rfl).trans (cF111 75 rfl)).trans (cF99 75 rfl)))); have q36 := (gc_nle zc123); have q37 := (g_eq0 zx148.1); have q38 := (congrArg Int32.toInt (show F118 75 = F41 75 from (((cF118 75 rfl).trans (cF111 75 rfl)).trans (cF99 75 rfl)))); omega) (Nat.lt_of_lt_of_le (show (2147483647 - x148.toInt).toNat < (2147483647 - y120.toInt).toNat from by have q0 := (jv_k (x := 1) 1 (by decide)).1; have q1 := (jv_k (x := 1) 1 (by decide)).2; have q2 := p122.1; have q3 := p122.2; have q4 := z75.1; have q5 := z75.2; have q6 := (jv_t (F41 70)).1; have q7 := (jv_t (F41 70)).2; have q8 := (jv_t (F41 72)).1; have q9 := (jv_t (F41 72)).2; have q10 := p43.1; have q11 := p43.2; have q12 := p20.1; have q13 := p20.2; have q14 := zx148.2.1; have q15 := zx148.2.2; have q16 := p139.1; have q17 := p139.2; have q18 := zpr.1; have q19 := zpr.2; have q20 := p32.1; have q21 := p32.2; have q22 := p94.1; have q23 := p94.2; have q24 := zx12; have q25 := zq72_0; have q26 := zq10; have q27 := zi124_0; have q28 := (gc_le zc31); have q29 := zre; have q30 := zi155_0; have q31 := zi155_1; have q32 := (gc_nle zc44); have q33 := (congrArg Int32.toInt (show F118 75 = F41 75 from (((cF118 75 rfl).trans (cF111 75 rfl)).trans (cF99 75 rfl)))); have q34 := zi185_0; have q35 := (congrArg Int32.toInt (show F118 75 = F41 75 from (((cF118 75 rfl).trans (cF111 75 rfl)).trans (cF99 75 rfl)))); have q36 := (gc_nle zc123); have q37 := (g_eq0 zx148.1); have q38 := (congrArg Int32.toInt (show F118 75 = F41 75 from (((cF118 75 rfl).trans (cF111 75 rfl)).trans (cF99 75 rfl)))); omega) (Nat.le_of_lt_succ hm185))
                              refine g_lsub [1, 2, 3, 4, 0] [(0, .ref (ad 0)), (2, .int a1), (4, .int y29), (5, .int y40), (6, .int 0)] rfl ?_
                              exact J185 _ R119 0 oR119 fR119 wTF118 wCF118 (jv_w (jv_k (x := 0) 0 (by decide)) (by decide)) (by have q0 := (g_ok_g oF118 14 rfl).1; have q1 := (g_ok_g oF118 14 rfl).2; have q2 := z75.1; have q3 := z75.2; have q4 := (jv_t (F41 70)).1; have q5 := (jv_t (F41 70)).2; have q6 := (jv_t (F41 72)).1; have q7 := (jv_t (F41 72)).2; have q8 := p43.1; have q9 := p43.2; have q10 := p20.1; have q11 := p20.2; have q12 := zpr.1; have q13 := zpr.2; have q14 := p32.1; have q15 := p32.2; have q16 := p94.1; have q17 := p94.2; have q18 := zx12; have q19 := zq72_0; have q20 := zq10; have q21 := zi124_0; have q22 := (gc_le zc31); have q23 := zre; have q24 := zi155_0; have q25 := zi155_1; have q26 := (gc_nle zc44); have q27 := (congrArg Int32.toInt (show F118 75 = F41 75 from (((cF118 75 rfl).trans (cF111 75 rfl)).trans (cF99 75 rfl)))); omega) (Nat.lt_succ_self _)
                            · have p149 := gn_eq 0 0 (gc_eq zc105) pr95 (jv_k (x := 0) 0 (by decide)) (by decide)
                              have zs150 := g_specn (zx98 zc105)
                              refine g_goto cx 239 e_X11_put_171 (by decide) ?_
                              exact J239 F99 R100 oF99 fF99 oR100 fR100 wTF99 wCF99 (by have q0 := z75.1; have q1 := z75.2; have q2 := (jv_t (F41 70)).1; have q3 := (jv_t (F41 70)).2; have q4 := (jv_t (F41 72)).1; have q5 := (jv_t (F41 72)).2; have q6 := p43.1; have q7 := p43.2; have q8 := (jv_t (F99 70)).1; have q9 := (jv_t (F99 70)).2; have q10 := (jv_t (F99 72)).1; have q11 := (jv_t (F99 72)).2; have q12 := (g_ok_g oF99 14 rfl).1; have q13 := (g_ok_g oF99 14 rfl).2; have q14 := p20.1; have q15 := p20.2; have q16 := zpr.1; have q17 := zpr.2; have q18 := p32.1; have q19 := p32.2; have q20 := p94.1; have q21 := p94.2; have q22 := zx12; have q23 := zq72_0; have q24 := zq10; have q25 := zi124_0; have q26 := (gc_le zc31); have q27 := zre; have q28 := zi155_0; have q29 := zi155_1; have q30 := (gc_nle zc44); have q31 := zs150; have q32 := (congrArg Int32.toInt (show F99 75 = F41 75 from (cF99 75 rfl))); have q33 := (congrArg Int32.toInt (show F99 72 = F41 72 from (cF99 72 rfl))); have q34 := (congrArg Int32.toInt (show F99 70 = F41 70 from (cF99 70 rfl))); omega) (by have q0 := z75.1; have q1 := z75.2; have q2 := (jv_t (F41 70)).1; have q3 := (jv_t (F41 70)).2; have q4 := (jv_t (F41 72)).1; have q5 := (jv_t (F41 72)).2; have q6 := p43.1; have q7 := p43.2; have q8 := (jv_t (F99 70)).1; have q9 := (jv_t (F99 70)).2; have q10 := (jv_t (F99 72)).1; have q11 := (jv_t (F99 72)).2; have q12 := (g_ok_g oF99 14 rfl).1; have q13 := (g_ok_g oF99 14 rfl).2; have q14 := p20.1; have q15 := p20.2; have q16 := zpr.1; have q17 := zpr.2; have q18 := p32.1; have q19 := p32.2; have q20 := p94.1; have q21 := p94.2; have q22 := zx12; have q23 := zq72_0; have q24 := zq10; have q25 := zi124_0; have q26 := (gc_le zc31); have q27 := zre; have q28 := zi155_0; have q29 := zi155_1; have q30 := (gc_nle zc44); have q31 := zs150; have q32 := (congrArg Int32.toInt (show F99 75 = F41 75 from (cF99 75 rfl))); have q33 := (congrArg Int32.toInt (show F99 72 = F41 72 from (cF99 72 rfl))); have q34 := (congrArg Int32.toInt (show F99 70 = F41 70 from (cF99 70 rfl))); omega)
                      refine g_lsub [1, 2, 3, 0] [(0, .ref (ad 0)), (2, .int a1), (4, .int y29), (5, .int 0)] rfl ?_
                      exact J155 _ F38 R39 0 oF38 fF38 oR39 fR39 wTF38 wCF38 (jv_w (jv_k (x := 0) 0 (by decide)) (by decide)) (by have q0 := z75.1; have q1 := z75.2; have q2 := (g_ok_g oF38 14 rfl).1; have q3 := (g_ok_g oF38 14 rfl).2; have q4 := p20.1; have q5 := p20.2; have q6 := zpr.1; have q7 := zpr.2; have q8 := p32.1; have q9 := p32.2; have q10 := zx12; have q11 := zq72_0; have q12 := zq10; have q13 := zi124_0; have q14 := (gc_le zc31); have q15 := zre; have q16 := (congrArg Int32.toInt (show F38 75 = F25 75 from (cF38 75 rfl))); omega) (by have q0 := (jv_k (x := 0) 0 (by decide)).1; have q1 := (jv_k (x := 0) 0 (by decide)).2; have q2 := z75.1; have q3 := z75.2; have q4 := (jv_t (F38 70)).1; have q5 := (jv_t (F38 70)).2; have q6 := (jv_t (F38 72)).1; have q7 := (jv_t (F38 72)).2; have q8 := (g_ok_g oF38 14 rfl).1; have q9 := (g_ok_g oF38 14 rfl).2; have q10 := p19.1; have q11 := p19.2; have q12 := p20.1; have q13 := p20.2; have q14 := p8.1; have q15 := p8.2; have q16 := zpr.1; have q17 := zpr.2; have q18 := p32.1; have q19 := p32.2; have q20 := p22.1; have q21 := p22.2; have q22 := (gc_eq zc7); have q23 := zx12; have q24 := (gc_ne zc17); have q25 := (gc_ne zc21); have q26 := zq72_0; have q27 := zq10; have q28 := zi124_0; have q29 := (gc_le zc31); have q30 := zre; have q31 := zx36; have q32 := (congrArg Int32.toInt (show F38 75 = F25 75 from (cF38 75 rfl))); omega) (Nat.lt_succ_self _)
                    · have p151 := gn_lt 0 4 (gc_nle zc31) py30 z75 (by decide)
                      have zpb := g_pw_b (n := (F25 75).toInt) ⟨z75.1, z75.2⟩ (y30 : Int32).toInt.toNat (by have q0 := z75.1; have q1 := z75.2; have q2 := p20.1; have q3 := p20.2; have q4 := p151.1; have q5 := p151.2; have q6 := zx12; have q7 := zq72_0; have q8 := zq10; have q9 := zi124_0; have q10 := (gc_nle zc31); omega)
                      have zpr : jv 1 3125 y29 := by have q := zq124_0; unfold jv; omega
                      refine g_iload cx 2 rfl e_X11_put_133 ?_
                      refine g_aload_n cx 0 rfl e_X11_put_135 ?_
                      refine g_get cx cl_X11 fl_X11_464 0 (.int (F25 75)) e_X11_put_136 rfl rfl ?_
                      refine g_imul cx e_X11_put_139 ?_
                      refine g_topi (fun x152 ex152 => ?_)
                      have zx152 := jv_mul 2 15625 ex152 zpr z75 (by decide)
                      refine g_istore cx [(4, .int x152), (0, .ref (ad 0)), (2, .int a1), (5, .int y30)] e_X11_put_140 (by decide) rfl ?_
                      obtain ⟨x153, ex153⟩ : ∃ z : Int32, z = y30 + Int32.ofInt 1 := ⟨_, rfl⟩
                      refine g_iinc cx x153 [(5, .int x153), (4, .int x152), (0, .ref (ad 0)), (2, .int a1)] 3 e_X11_put_142 rfl ex153.symm (by decide) rfl ?_
                      have zx153 := jv_add 1 5 (show x153 = y30 + 1 from ex153) p151 (jv_k (x := 1) 1 (by decide)) (by decide)
                      refine g_goto cx 124 e_X11_put_145 (by decide) ?_
                      refine g_lsub [2, 3, 1, 0] [(0, .ref (ad 0)), (2, .int a1), (4, .int x152), (5, .int x153)] rfl ?_
                      exact ih124 x152 x153 (jv_w zx152.2 (by decide)) (jv_w zx153.2 (by decide)) (by have q0 := (jv_k (x := 1) 1 (by decide)).1; have q1 := (jv_k (x := 1) 1 (by decide)).2; have q2 := z75.1; have q3 := z75.2; have q4 := p20.1; have q5 := p20.2; have q6 := zx153.2.1; have q7 := zx153.2.2; have q8 := p151.1; have q9 := p151.2; have q10 := zx12; have q11 := zq72_0; have q12 := zq10; have q13 := zi124_0; have q14 := (gc_nle zc31); have q15 := (g_eq0 zx153.1); omega) (((g_eq0 zx152.1).trans (g_pw_s p151 (g_eq0 zx153.1) zq124_0))) (Nat.lt_of_lt_of_le (show (2147483647 - x153.toInt).toNat < (2147483647 - y30.toInt).toNat from by have q0 := (jv_k (x := 1) 1 (by decide)).1; have q1 := (jv_k (x := 1) 1 (by decide)).2; have q2 := z75.1; have q3 := z75.2; have q4 := p20.1; have q5 := p20.2; have q6 := zx153.2.1; have q7 := zx153.2.2; have q8 := p151.1; have q9 := p151.2; have q10 := zx12; have q11 := zq72_0; have q12 := zq10; have q13 := zi124_0; have q14 := (gc_nle zc31); have q15 := (g_eq0 zx153.1); omega) (Nat.le_of_lt_succ hm124))
                refine g_lsub [2, 4, 1, 0] [(0, .ref (ad 0)), (2, .int a1), (4, .int 1), (5, .int 0)] rfl ?_
                exact J124 _ 1 0 (jv_w (jv_k (x := 1) 1 (by decide)) (by decide)) (jv_w (jv_k (x := 0) 0 (by decide)) (by decide)) (by have q0 := (jv_k (x := 0) 0 (by decide)).1; have q1 := (jv_k (x := 0) 0 (by decide)).2; have q2 := z75.1; have q3 := z75.2; have q4 := p19.1; have q5 := p19.2; have q6 := p20.1; have q7 := p20.2; have q8 := p8.1; have q9 := p8.2; have q10 := p22.1; have q11 := p22.2; have q12 := (gc_eq zc7); have q13 := zx12; have q14 := (gc_ne zc17); have q15 := (gc_ne zc21); have q16 := zq72_0; have q17 := zq10; omega) (rfl) (Nat.lt_succ_self _)
              · have p154 := gn_lt 0 9 (gc_nle zc27) py24 (jv_k (x := 10) 10 (by decide)) (by decide)
                refine g_iload_n cx 1 rfl e_X11_put_79 ?_
                refine g_iload cx 3 rfl e_X11_put_80 ?_
                refine g_cSiW cx [.int a0, .int y24] [] (c_X11_has l X (wM X ad F25 R26) a0 y24) ml_X11_175 yS_X11_has rfl e_X11_put_82 (by unfold g_rr; decide) (by decide) rfl (Nat.le_of_ble_eq_true rfl) (fun r155 w156 h157 => ?_)
                obtain ⟨rfl, hr155⟩ := h157
                have pr155 : jv 0 1 r155 := by rcases hr155 with q | q <;> rw [q.1] <;> exact ⟨by decide, by decide⟩
                have J112 : ∀ (F158 : Nat → Int32) (R159 : Nat → Nat → Int32), (g_ok LK_wM F158) → (g_fr md_X11_put F F158) → (g_okR LA_wM R159) → (g_fr mr_X11_put R R159) → (WT F158 R159) → (WC F158 R159) → ((F158 75).toInt = g_bits a0 ((y24 : Int32).toInt.toNat + 1)) → G X E 7 0 0 (wM X ad F158 R159) [(0, .ref (ad 0)), (1, .int a0), (2, .int a1), (4, .int y24)] 112 [] := by
                  intro F158 R159 oF158 fF158 oR159 fR159 wTF158R159 wCF158R159 zq112_0
                  obtain ⟨x160, ex160⟩ : ∃ z : Int32, z = y24 + Int32.ofInt 1 := ⟨_, rfl⟩
                  refine g_iinc cx x160 [(4, .int x160), (0, .ref (ad 0)), (1, .int a0), (2, .int a1)] 3 e_X11_put_112 rfl ex160.symm (by decide) rfl ?_
                  have zx160 := jv_add 1 10 (show x160 = y24 + 1 from ex160) p154 (jv_k (x := 1) 1 (by decide)) (by decide)
                  refine g_goto cx 72 e_X11_put_115 (by decide) ?_
                  refine g_lsub [1, 2, 3, 0] [(0, .ref (ad 0)), (1, .int a0), (2, .int a1), (4, .int x160)] rfl ?_
                  exact ih72 F158 R159 x160 oF158 fF158 oR159 fR159 wTF158R159 wCF158R159 (jv_w zx160.2 (by decide)) ((by rw [show (x160 : Int32).toInt.toNat = (y24 : Int32).toInt.toNat + 1 from by have q0 := (jv_k (x := 1) 1 (by decide)).1; have q1 := (jv_k (x := 1) 1 (by decide)).2; have q2 := (jv_k (x := 10) 10 (by decide)).1; have q3 := (jv_k (x := 10) 10 (by decide)).2; have q4 := zx160.2.1; have q5 := zx160.2.2; have q6 := p154.1; have q7 := p154.2; have q8 := (gc_nle zc27); have q9 := (g_eq0 zx160.1); omega]; exact zq112_0)) (Nat.lt_of_lt_of_le (show (2147483647 - x160.toInt).toNat < (2147483647 - y24.toInt).toNat from by have q0 := (jv_k (x := 1) 1 (by decide)).1; have q1 := (jv_k (x := 1) 1 (by decide)).2; have q2 := (jv_k (x := 10) 10 (by decide)).1; have q3 := (jv_k (x := 10) 10 (by decide)).2; have q4 := zx160.2.1; have q5 := zx160.2.2; have q6 := p154.1; have q7 := p154.2; have q8 := (gc_nle zc27); have q9 := (g_eq0 zx160.1); omega) (Nat.le_of_lt_succ hm72))
                refine g_if_ne cx 91 e_X11_put_85 (by decide) (fun zc161 => ?_) (fun zc161 => ?_)
                · have p162 := gn_neL 1 1 (gc_ne zc161) pr155 (jv_k (x := 0) 0 (by decide)) (by decide)
                  have zb163 : hb a0 y24 := g_hasy hr155 zc161
                  have zy164 := g_bits_y (x := a0) p154 zb163
                  have zm165 := g_bits_m a0 (a := (y24 : Int32).toInt.toNat + 1) (b := 10) (by have q0 := (jv_k (x := 10) 10 (by decide)).1; have q1 := (jv_k (x := 10) 10 (by decide)).2; have q2 := p154.1; have q3 := p154.2; have q4 := (gc_nle zc27); omega)
                  refine g_aload_n cx 0 rfl e_X11_put_91 ?_
                  refine g_get cx cl_X11 fl_X11_122 0 (.ref (ad 38)) e_X11_put_92 rfl rfl ?_
                  refine g_aload_n cx 0 rfl e_X11_put_95 ?_
                  refine g_get cx cl_X11 fl_X11_464 0 (.int (F25 75)) e_X11_put_96 rfl rfl ?_
                  refine g_iload cx 3 rfl e_X11_put_99 ?_
                  refine g_iast cx 38 (wM X ad F25 (g_u R26 38 (upd (R26 38) (Int32.toNatClampNeg (F25 75)) y24))) e_X11_put_101 rfl (vp_in_iff.mpr ⟨by have q0 := (jv_k (x := 10) 10 (by decide)).1; have q1 := (jv_k (x := 10) 10 (by decide)).2; have q2 := (g_ok_g oF25 14 rfl).1; have q3 := (g_ok_g oF25 14 rfl).2; have q4 := p20.1; have q5 := p20.2; have q6 := p154.1; have q7 := p154.2; have q8 := zx12; have q9 := zq72_0; have q10 := (gc_nle zc27); have q11 := zy164; have q12 := zm165; omega, by have q0 := (jv_k (x := 10) 10 (by decide)).1; have q1 := (jv_k (x := 10) 10 (by decide)).2; have q2 := (g_ok_g oF25 14 rfl).1; have q3 := (g_ok_g oF25 14 rfl).2; have q4 := p20.1; have q5 := p20.2; have q6 := p154.1; have q7 := p154.2; have q8 := zx12; have q9 := zq72_0; have q10 := (gc_nle zc27); have q11 := zy164; have q12 := zm165; omega⟩) rfl ?_
                  obtain ⟨R166, hR166⟩ : ∃ z, z = g_u R26 38 (upd (R26 38) (Int32.toNatClampNeg (F25 75)) y24) := ⟨_, rfl⟩
                  rw [← hR166]
                  have oR166 : g_okR LA_wM R166 := by rw [hR166]; exact g_okR_p oR26 p154 rfl
                  have fR166 : g_fr mr_X11_put R R166 := by rw [hR166]; exact g_fr_r fR26 rfl
                  have wTR166 : WT F25 R166 := by rw [hR166]; exact WT_r wTF25R26 rfl
                  have wCR166 : WC F25 R166 := by rw [hR166]; exact WC_r wCF25R26 rfl
                  refine g_aload_n cx 0 rfl e_X11_put_102 ?_
                  refine g_aload_n cx 0 rfl e_X11_put_103 ?_
                  refine g_get cx cl_X11 fl_X11_464 0 (.int (F25 75)) e_X11_put_104 rfl rfl ?_
                  refine g_iconst cx 1 (by decide) e_X11_put_107 ?_
                  refine g_iadd cx e_X11_put_108 ?_
                  refine g_topi (fun x167 ex167 => ?_)
                  have zx167 := jv_add 1 6 ex167 (g_ok_g oF25 14 rfl) (jv_k (x := 1) 1 (by decide)) (by decide)
                  refine g_put cx cl_X11 fl_X11_464 0 (wM X ad (upd F25 75 x167) R166) e_X11_put_109 rfl rfl rfl rfl (Nat.le_of_ble_eq_true rfl) rfl ?_
                  obtain ⟨F168, hF168⟩ : ∃ z, z = upd F25 75 x167 := ⟨_, rfl⟩
                  rw [← hF168]
                  have oF168 : g_ok LK_wM F168 := by rw [hF168]; exact g_ok_p oF25 (show jv 0 5 _ from ⟨by have q0 := (jv_k (x := 1) 1 (by decide)).1; have q1 := (jv_k (x := 1) 1 (by decide)).2; have q2 := (jv_k (x := 10) 10 (by decide)).1; have q3 := (jv_k (x := 10) 10 (by decide)).2; have q4 := (g_ok_g oF25 14 rfl).1; have q5 := (g_ok_g oF25 14 rfl).2; have q6 := p20.1; have q7 := p20.2; have q8 := zx167.2.1; have q9 := zx167.2.2; have q10 := p154.1; have q11 := p154.2; have q12 := zx12; have q13 := zq72_0; have q14 := (gc_nle zc27); have q15 := zy164; have q16 := zm165; have q17 := (g_eq0 zx167.1); omega, by have q0 := (jv_k (x := 1) 1 (by decide)).1; have q1 := (jv_k (x := 1) 1 (by decide)).2; have q2 := (jv_k (x := 10) 10 (by decide)).1; have q3 := (jv_k (x := 10) 10 (by decide)).2; have q4 := (g_ok_g oF25 14 rfl).1; have q5 := (g_ok_g oF25 14 rfl).2; have q6 := p20.1; have q7 := p20.2; have q8 := zx167.2.1; have q9 := zx167.2.2; have q10 := p154.1; have q11 := p154.2; have q12 := zx12; have q13 := zq72_0; have q14 := (gc_nle zc27); have q15 := zy164; have q16 := zm165; have q17 := (g_eq0 zx167.1); omega⟩) rfl
                  have fF168 : g_fr md_X11_put F F168 := by rw [hF168]; exact g_fr_u fF25 rfl
                  have wTF168 : WT F168 R166 := by rw [hF168]; exact WT_u wTR166 rfl
                  have wCF168 : WC F168 R166 := by rw [hF168]; exact WC_u wCR166 rfl
                  exact J112 F168 R166 oF168 fF168 oR166 fR166 wTF168 wCF168 (by have q0 := (jv_k (x := 1) 1 (by decide)).1; have q1 := (jv_k (x := 1) 1 (by decide)).2; have q2 := (jv_k (x := 10) 10 (by decide)).1; have q3 := (jv_k (x := 10) 10 (by decide)).2; have q4 := (g_ok_g oF168 14 rfl).1; have q5 := (g_ok_g oF168 14 rfl).2; have q6 := (g_ok_g oF25 14 rfl).1; have q7 := (g_ok_g oF25 14 rfl).2; have q8 := p20.1; have q9 := p20.2; have q10 := zx167.2.1; have q11 := zx167.2.2; have q12 := p154.1; have q13 := p154.2; have q14 := zx12; have q15 := zq72_0; have q16 := (gc_nle zc27); have q17 := zy164; have q18 := zm165; have q19 := (g_eq0 zx167.1); have q20 := (congrArg Int32.toInt (show F168 75 = x167 from (g_pu1 hF168))); omega)
                · have p169 := gn_eq 0 0 (gc_eq zc161) pr155 (jv_k (x := 0) 0 (by decide)) (by decide)
                  have zy170 := g_bits_n (x := a0) p154 (g_hasn hr155 zc161)
                  refine g_goto cx 112 e_X11_put_88 (by decide) ?_
                  exact J112 F25 R26 oF25 fF25 oR26 fR26 wTF25R26 wCF25R26 (by have q0 := (jv_k (x := 10) 10 (by decide)).1; have q1 := (jv_k (x := 10) 10 (by decide)).2; have q2 := (g_ok_g oF25 14 rfl).1; have q3 := (g_ok_g oF25 14 rfl).2; have q4 := p154.1; have q5 := p154.2; have q6 := zq72_0; have q7 := (gc_nle zc27); have q8 := zy170; omega)
          refine g_lsub [2, 3, 4, 0] [(0, .ref (ad 0)), (1, .int a0), (2, .int a1), (4, .int 0)] rfl ?_
          exact J72 _ F23 R 0 oF23 fF23 hA (g_fr_rf R) wTF23 wCF23 (jv_w (jv_k (x := 0) 0 (by decide)) (by decide)) ((congrArg Int32.toInt (show F23 75 = 0 from (g_pu1 hF23)))) (Nat.lt_succ_self _)
        · have p171 := gn_eq 0 0 (gc_eq zc21) py4 (jv_k (x := 0) 0 (by decide)) (by decide)
          refine g_lsub [] [] rfl ?_
          exact J62  
  have J29 : G X E 7 0 0 (wM X ad F R) [(0, .ref (ad 0)), (1, .int a0), (2, .int a1)] 29 [] := by
    refine g_iconst cx 1 (by decide) e_X11_put_29 ?_
    refine g_goto cx 34 e_X11_put_30 (by decide) ?_
    exact J34 1 (jv_w (jv_k (x := 1) 1 (by decide)) (by decide))
  refine g_if_ne cx 29 e_X11_put_8 (by decide) (fun zc172 => ?_) (fun zc172 => ?_)
  · have p173 := gn_neL 1 1 (gc_ne zc172) pr1 (jv_k (x := 0) 0 (by decide)) (by decide)
    have p174 := jv_i 10 12 (jv_t a1) (gi_in (A := 10) (B := 12) hr1 zc172 (by decide) (by decide)) (by decide)
    exact J29  
  · have p175 := gn_eq 0 0 (gc_eq zc172) pr1 (jv_k (x := 0) 0 (by decide)) (by decide)
    refine g_iload_n cx 2 rfl e_X11_put_11 ?_
    refine g_iconst cx 0 (by decide) e_X11_put_12 ?_
    refine g_bipush cx 9 (by decide) e_X11_put_13 ?_
    refine g_cSiW cx [.int a1, .int 0, .int 9] [] (c_X11_in l X (wM X ad F R) a1 0 9) ml_X11_165 yS_X11_in rfl e_X11_put_15 (by unfold g_rr; decide) (by decide) rfl (Nat.le_of_ble_eq_true rfl) (fun r176 w177 h178 => ?_)
    obtain ⟨rfl, hr176⟩ := h178
    have pr176 : jv 0 1 r176 := by rw [hr176]; exact gi_01 _ _ _
    have J33 : G X E 7 0 0 (wM X ad F R) [(0, .ref (ad 0)), (1, .int a0), (2, .int a1)] 33 [] := by
      refine g_iconst cx 0 (by decide) e_X11_put_33 ?_
      exact J34 0 (jv_w (jv_k (x := 0) 0 (by decide)) (by decide))
    refine g_if_eq cx 33 e_X11_put_18 (by decide) (fun zc179 => ?_) (fun zc179 => ?_)
    · have p180 := gn_eq 0 0 (gc_eq zc179) pr176 (jv_k (x := 0) 0 (by decide)) (by decide)
      exact J33  
    · have p181 := gn_neL 1 1 (gc_ne zc179) pr176 (jv_k (x := 0) 0 (by decide)) (by decide)
      have p182 := jv_i 0 9 (jv_t a1) (gi_in (A := 0) (B := 9) hr176 zc179 (by decide) (by decide)) (by decide)
      refine g_iload_n cx 1 rfl e_X11_put_21 ?_
      refine g_iload_n cx 2 rfl e_X11_put_22 ?_
      refine g_cSiW cx [.int a0, .int a1] [] (c_X11_has l X (wM X ad F R) a0 a1) ml_X11_175 yS_X11_has rfl e_X11_put_23 (by unfold g_rr; decide) (by decide) rfl (Nat.le_of_ble_eq_true rfl) (fun r183 w184 h185 => ?_)
      obtain ⟨rfl, hr183⟩ := h185
      have pr183 : jv 0 1 r183 := by rcases hr183 with q | q <;> rw [q.1] <;> exact ⟨by decide, by decide⟩
      refine g_if_eq cx 33 e_X11_put_26 (by decide) (fun zc186 => ?_) (fun zc186 => ?_)
      · have p187 := gn_eq 0 0 (gc_eq zc186) pr183 (jv_k (x := 0) 0 (by decide)) (by decide)
        exact J33  
      · have p188 := gn_neL 1 1 (gc_ne zc186) pr183 (jv_k (x := 0) 0 (by decide)) (by decide)
        have zb189 : hb a0 a1 := g_hasy hr183 zc186
        exact J29  
