theorem e_X11_put_0 : g_dc cX11_put 0 (.iload_n 2) 1 1 := ⟨by decide +kernel, rfl⟩
theorem e_X11_put_1 : g_dc cX11_put 1 (.bipush 10) 2 3 := ⟨by decide +kernel, rfl⟩
theorem e_X11_put_3 : g_dc cX11_put 3 (.bipush 12) 2 5 := ⟨by decide +kernel, rfl⟩
theorem e_X11_put_5 : g_dc cX11_put 5 (.invokestatic 165) 3 8 := ⟨by decide +kernel, rfl⟩
theorem e_X11_put_8 : g_dc cX11_put 8 (.ifCond .ne 21) 3 11 := ⟨by decide +kernel, rfl⟩
theorem e_X11_put_11 : g_dc cX11_put 11 (.iload_n 2) 1 12 := ⟨by decide +kernel, rfl⟩
theorem e_X11_put_12 : g_dc cX11_put 12 (.iconst 0) 1 13 := ⟨by decide +kernel, rfl⟩
theorem e_X11_put_13 : g_dc cX11_put 13 (.bipush 9) 2 15 := ⟨by decide +kernel, rfl⟩
theorem e_X11_put_15 : g_dc cX11_put 15 (.invokestatic 165) 3 18 := ⟨by decide +kernel, rfl⟩
theorem e_X11_put_18 : g_dc cX11_put 18 (.ifCond .eq 15) 3 21 := ⟨by decide +kernel, rfl⟩
theorem e_X11_put_21 : g_dc cX11_put 21 (.iload_n 1) 1 22 := ⟨by decide +kernel, rfl⟩
theorem e_X11_put_22 : g_dc cX11_put 22 (.iload_n 2) 1 23 := ⟨by decide +kernel, rfl⟩
theorem e_X11_put_23 : g_dc cX11_put 23 (.invokestatic 175) 3 26 := ⟨by decide +kernel, rfl⟩
theorem e_X11_put_26 : g_dc cX11_put 26 (.ifCond .eq 7) 3 29 := ⟨by decide +kernel, rfl⟩
theorem e_X11_put_29 : g_dc cX11_put 29 (.iconst 1) 1 30 := ⟨by decide +kernel, rfl⟩
theorem e_X11_put_30 : g_dc cX11_put 30 (.goto 4) 3 33 := ⟨by decide +kernel, rfl⟩
theorem e_X11_put_33 : g_dc cX11_put 33 (.iconst 0) 1 34 := ⟨by decide +kernel, rfl⟩
theorem e_X11_put_34 : g_dc cX11_put 34 (.istore_n 3) 1 35 := ⟨by decide +kernel, rfl⟩
theorem e_X11_put_35 : g_dc cX11_put 35 (.iload_n 1) 1 36 := ⟨by decide +kernel, rfl⟩
theorem e_X11_put_36 : g_dc cX11_put 36 (.aload_n 0) 1 37 := ⟨by decide +kernel, rfl⟩
theorem e_X11_put_37 : g_dc cX11_put 37 (.getfield 172) 3 40 := ⟨by decide +kernel, rfl⟩
theorem e_X11_put_40 : g_dc cX11_put 40 (.iconst (-1)) 1 41 := ⟨by decide +kernel, rfl⟩
theorem e_X11_put_41 : g_dc cX11_put 41 (.ixor) 1 42 := ⟨by decide +kernel, rfl⟩
theorem e_X11_put_42 : g_dc cX11_put 42 (.iand) 1 43 := ⟨by decide +kernel, rfl⟩
theorem e_X11_put_43 : g_dc cX11_put 43 (.ifCond .ne 19) 3 46 := ⟨by decide +kernel, rfl⟩
theorem e_X11_put_46 : g_dc cX11_put 46 (.iload_n 1) 1 47 := ⟨by decide +kernel, rfl⟩
theorem e_X11_put_47 : g_dc cX11_put 47 (.invokestatic 410) 3 50 := ⟨by decide +kernel, rfl⟩
theorem e_X11_put_50 : g_dc cX11_put 50 (.iconst 2) 1 51 := ⟨by decide +kernel, rfl⟩
theorem e_X11_put_51 : g_dc cX11_put 51 (.iconst 5) 1 52 := ⟨by decide +kernel, rfl⟩
theorem e_X11_put_52 : g_dc cX11_put 52 (.invokestatic 165) 3 55 := ⟨by decide +kernel, rfl⟩
theorem e_X11_put_55 : g_dc cX11_put 55 (.ifCond .eq 7) 3 58 := ⟨by decide +kernel, rfl⟩
theorem e_X11_put_58 : g_dc cX11_put 58 (.iload_n 3) 1 59 := ⟨by decide +kernel, rfl⟩
theorem e_X11_put_59 : g_dc cX11_put 59 (.ifCond .ne 5) 3 62 := ⟨by decide +kernel, rfl⟩
theorem e_X11_put_62 : g_dc cX11_put 62 (.iconst (-1)) 1 63 := ⟨by decide +kernel, rfl⟩
theorem e_X11_put_63 : g_dc cX11_put 63 (.ireturn) 1 64 := ⟨by decide +kernel, rfl⟩
theorem e_X11_put_64 : g_dc cX11_put 64 (.aload_n 0) 1 65 := ⟨by decide +kernel, rfl⟩
theorem e_X11_put_65 : g_dc cX11_put 65 (.iconst 0) 1 66 := ⟨by decide +kernel, rfl⟩
theorem e_X11_put_66 : g_dc cX11_put 66 (.putfield 464) 3 69 := ⟨by decide +kernel, rfl⟩
theorem e_X11_put_69 : g_dc cX11_put 69 (.iconst 0) 1 70 := ⟨by decide +kernel, rfl⟩
theorem e_X11_put_70 : g_dc cX11_put 70 (.istore 4) 2 72 := ⟨by decide +kernel, rfl⟩
theorem e_X11_put_72 : g_dc cX11_put 72 (.iload 4) 2 74 := ⟨by decide +kernel, rfl⟩
theorem e_X11_put_74 : g_dc cX11_put 74 (.bipush 10) 2 76 := ⟨by decide +kernel, rfl⟩
theorem e_X11_put_76 : g_dc cX11_put 76 (.if_icmp .ge 42) 3 79 := ⟨by decide +kernel, rfl⟩
theorem e_X11_put_79 : g_dc cX11_put 79 (.iload_n 1) 1 80 := ⟨by decide +kernel, rfl⟩
theorem e_X11_put_80 : g_dc cX11_put 80 (.iload 4) 2 82 := ⟨by decide +kernel, rfl⟩
theorem e_X11_put_82 : g_dc cX11_put 82 (.invokestatic 175) 3 85 := ⟨by decide +kernel, rfl⟩
theorem e_X11_put_85 : g_dc cX11_put 85 (.ifCond .ne 6) 3 88 := ⟨by decide +kernel, rfl⟩
theorem e_X11_put_88 : g_dc cX11_put 88 (.goto 24) 3 91 := ⟨by decide +kernel, rfl⟩
theorem e_X11_put_91 : g_dc cX11_put 91 (.aload_n 0) 1 92 := ⟨by decide +kernel, rfl⟩
theorem e_X11_put_92 : g_dc cX11_put 92 (.getfield 122) 3 95 := ⟨by decide +kernel, rfl⟩
theorem e_X11_put_95 : g_dc cX11_put 95 (.aload_n 0) 1 96 := ⟨by decide +kernel, rfl⟩
theorem e_X11_put_96 : g_dc cX11_put 96 (.getfield 464) 3 99 := ⟨by decide +kernel, rfl⟩
theorem e_X11_put_99 : g_dc cX11_put 99 (.iload 4) 2 101 := ⟨by decide +kernel, rfl⟩
theorem e_X11_put_101 : g_dc cX11_put 101 (.iastore) 1 102 := ⟨by decide +kernel, rfl⟩
theorem e_X11_put_102 : g_dc cX11_put 102 (.aload_n 0) 1 103 := ⟨by decide +kernel, rfl⟩
theorem e_X11_put_103 : g_dc cX11_put 103 (.aload_n 0) 1 104 := ⟨by decide +kernel, rfl⟩
theorem e_X11_put_104 : g_dc cX11_put 104 (.getfield 464) 3 107 := ⟨by decide +kernel, rfl⟩
theorem e_X11_put_107 : g_dc cX11_put 107 (.iconst 1) 1 108 := ⟨by decide +kernel, rfl⟩
theorem e_X11_put_108 : g_dc cX11_put 108 (.iadd) 1 109 := ⟨by decide +kernel, rfl⟩
theorem e_X11_put_109 : g_dc cX11_put 109 (.putfield 464) 3 112 := ⟨by decide +kernel, rfl⟩
theorem e_X11_put_112 : g_dc cX11_put 112 (.iinc 4 1) 3 115 := ⟨by decide +kernel, rfl⟩
theorem e_X11_put_115 : g_dc cX11_put 115 (.goto (-43)) 3 118 := ⟨by decide +kernel, rfl⟩
theorem e_X11_put_118 : g_dc cX11_put 118 (.iconst 1) 1 119 := ⟨by decide +kernel, rfl⟩
theorem e_X11_put_119 : g_dc cX11_put 119 (.istore 4) 2 121 := ⟨by decide +kernel, rfl⟩
theorem e_X11_put_121 : g_dc cX11_put 121 (.iconst 0) 1 122 := ⟨by decide +kernel, rfl⟩
theorem e_X11_put_122 : g_dc cX11_put 122 (.istore 5) 2 124 := ⟨by decide +kernel, rfl⟩
theorem e_X11_put_124 : g_dc cX11_put 124 (.iload 5) 2 126 := ⟨by decide +kernel, rfl⟩
theorem e_X11_put_126 : g_dc cX11_put 126 (.aload_n 0) 1 127 := ⟨by decide +kernel, rfl⟩
theorem e_X11_put_127 : g_dc cX11_put 127 (.getfield 464) 3 130 := ⟨by decide +kernel, rfl⟩
theorem e_X11_put_130 : g_dc cX11_put 130 (.if_icmp .ge 18) 3 133 := ⟨by decide +kernel, rfl⟩
theorem e_X11_put_133 : g_dc cX11_put 133 (.iload 4) 2 135 := ⟨by decide +kernel, rfl⟩
theorem e_X11_put_135 : g_dc cX11_put 135 (.aload_n 0) 1 136 := ⟨by decide +kernel, rfl⟩
theorem e_X11_put_136 : g_dc cX11_put 136 (.getfield 464) 3 139 := ⟨by decide +kernel, rfl⟩
theorem e_X11_put_139 : g_dc cX11_put 139 (.imul) 1 140 := ⟨by decide +kernel, rfl⟩
theorem e_X11_put_140 : g_dc cX11_put 140 (.istore 4) 2 142 := ⟨by decide +kernel, rfl⟩
theorem e_X11_put_142 : g_dc cX11_put 142 (.iinc 5 1) 3 145 := ⟨by decide +kernel, rfl⟩
theorem e_X11_put_145 : g_dc cX11_put 145 (.goto (-21)) 3 148 := ⟨by decide +kernel, rfl⟩
theorem e_X11_put_148 : g_dc cX11_put 148 (.aload_n 0) 1 149 := ⟨by decide +kernel, rfl⟩
theorem e_X11_put_149 : g_dc cX11_put 149 (.invokevirtual 458) 3 152 := ⟨by decide +kernel, rfl⟩
theorem e_X11_put_152 : g_dc cX11_put 152 (.iconst 0) 1 153 := ⟨by decide +kernel, rfl⟩
theorem e_X11_put_153 : g_dc cX11_put 153 (.istore 5) 2 155 := ⟨by decide +kernel, rfl⟩
theorem e_X11_put_155 : g_dc cX11_put 155 (.iload 5) 2 157 := ⟨by decide +kernel, rfl⟩
theorem e_X11_put_157 : g_dc cX11_put 157 (.iload 4) 2 159 := ⟨by decide +kernel, rfl⟩
theorem e_X11_put_159 : g_dc cX11_put 159 (.if_icmp .ge 86) 3 162 := ⟨by decide +kernel, rfl⟩
theorem e_X11_put_162 : g_dc cX11_put 162 (.aload_n 0) 1 163 := ⟨by decide +kernel, rfl⟩
theorem e_X11_put_163 : g_dc cX11_put 163 (.iload 5) 2 165 := ⟨by decide +kernel, rfl⟩
theorem e_X11_put_165 : g_dc cX11_put 165 (.invokevirtual 467) 3 168 := ⟨by decide +kernel, rfl⟩
theorem e_X11_put_168 : g_dc cX11_put 168 (.ifCond .ne 6) 3 171 := ⟨by decide +kernel, rfl⟩
theorem e_X11_put_171 : g_dc cX11_put 171 (.goto 68) 3 174 := ⟨by decide +kernel, rfl⟩
theorem e_X11_put_174 : g_dc cX11_put 174 (.aload_n 0) 1 175 := ⟨by decide +kernel, rfl⟩
theorem e_X11_put_175 : g_dc cX11_put 175 (.invokevirtual 422) 3 178 := ⟨by decide +kernel, rfl⟩
theorem e_X11_put_178 : g_dc cX11_put 178 (.aload_n 0) 1 179 := ⟨by decide +kernel, rfl⟩
theorem e_X11_put_179 : g_dc cX11_put 179 (.invokevirtual 425) 3 182 := ⟨by decide +kernel, rfl⟩
theorem e_X11_put_182 : g_dc cX11_put 182 (.iconst 0) 1 183 := ⟨by decide +kernel, rfl⟩
theorem e_X11_put_183 : g_dc cX11_put 183 (.istore 6) 2 185 := ⟨by decide +kernel, rfl⟩
theorem e_X11_put_185 : g_dc cX11_put 185 (.iload 6) 2 187 := ⟨by decide +kernel, rfl⟩
theorem e_X11_put_187 : g_dc cX11_put 187 (.aload_n 0) 1 188 := ⟨by decide +kernel, rfl⟩
theorem e_X11_put_188 : g_dc cX11_put 188 (.getfield 464) 3 191 := ⟨by decide +kernel, rfl⟩
theorem e_X11_put_191 : g_dc cX11_put 191 (.if_icmp .ge 38) 3 194 := ⟨by decide +kernel, rfl⟩
theorem e_X11_put_194 : g_dc cX11_put 194 (.aload_n 0) 1 195 := ⟨by decide +kernel, rfl⟩
theorem e_X11_put_195 : g_dc cX11_put 195 (.getfield 86) 3 198 := ⟨by decide +kernel, rfl⟩
theorem e_X11_put_198 : g_dc cX11_put 198 (.aload_n 0) 1 199 := ⟨by decide +kernel, rfl⟩
theorem e_X11_put_199 : g_dc cX11_put 199 (.getfield 122) 3 202 := ⟨by decide +kernel, rfl⟩
theorem e_X11_put_202 : g_dc cX11_put 202 (.iload 6) 2 204 := ⟨by decide +kernel, rfl⟩
theorem e_X11_put_204 : g_dc cX11_put 204 (.iaload) 1 205 := ⟨by decide +kernel, rfl⟩
theorem e_X11_put_205 : g_dc cX11_put 205 (.aload_n 0) 1 206 := ⟨by decide +kernel, rfl⟩
theorem e_X11_put_206 : g_dc cX11_put 206 (.getfield 13) 3 209 := ⟨by decide +kernel, rfl⟩
theorem e_X11_put_209 : g_dc cX11_put 209 (.aload_n 0) 1 210 := ⟨by decide +kernel, rfl⟩
theorem e_X11_put_210 : g_dc cX11_put 210 (.getfield 122) 3 213 := ⟨by decide +kernel, rfl⟩
theorem e_X11_put_213 : g_dc cX11_put 213 (.aload_n 0) 1 214 := ⟨by decide +kernel, rfl⟩
theorem e_X11_put_214 : g_dc cX11_put 214 (.getfield 125) 3 217 := ⟨by decide +kernel, rfl⟩
theorem e_X11_put_217 : g_dc cX11_put 217 (.iload 6) 2 219 := ⟨by decide +kernel, rfl⟩
theorem e_X11_put_219 : g_dc cX11_put 219 (.iaload) 1 220 := ⟨by decide +kernel, rfl⟩
theorem e_X11_put_220 : g_dc cX11_put 220 (.iaload) 1 221 := ⟨by decide +kernel, rfl⟩
theorem e_X11_put_221 : g_dc cX11_put 221 (.iaload) 1 222 := ⟨by decide +kernel, rfl⟩
theorem e_X11_put_222 : g_dc cX11_put 222 (.iastore) 1 223 := ⟨by decide +kernel, rfl⟩
theorem e_X11_put_223 : g_dc cX11_put 223 (.iinc 6 1) 3 226 := ⟨by decide +kernel, rfl⟩
theorem e_X11_put_226 : g_dc cX11_put 226 (.goto (-41)) 3 229 := ⟨by decide +kernel, rfl⟩
theorem e_X11_put_229 : g_dc cX11_put 229 (.aload_n 0) 1 230 := ⟨by decide +kernel, rfl⟩
theorem e_X11_put_230 : g_dc cX11_put 230 (.invokevirtual 428) 3 233 := ⟨by decide +kernel, rfl⟩
theorem e_X11_put_233 : g_dc cX11_put 233 (.aload_n 0) 1 234 := ⟨by decide +kernel, rfl⟩
theorem e_X11_put_234 : g_dc cX11_put 234 (.iload 5) 2 236 := ⟨by decide +kernel, rfl⟩
theorem e_X11_put_236 : g_dc cX11_put 236 (.invokevirtual 461) 3 239 := ⟨by decide +kernel, rfl⟩
theorem e_X11_put_239 : g_dc cX11_put 239 (.iinc 5 1) 3 242 := ⟨by decide +kernel, rfl⟩
theorem e_X11_put_242 : g_dc cX11_put 242 (.goto (-87)) 3 245 := ⟨by decide +kernel, rfl⟩
theorem e_X11_put_245 : g_dc cX11_put 245 (.iload_n 2) 1 246 := ⟨by decide +kernel, rfl⟩
theorem e_X11_put_246 : g_dc cX11_put 246 (.bipush 11) 2 248 := ⟨by decide +kernel, rfl⟩
theorem e_X11_put_248 : g_dc cX11_put 248 (.if_icmp .ne 8) 3 251 := ⟨by decide +kernel, rfl⟩
theorem e_X11_put_251 : g_dc cX11_put 251 (.aload_n 0) 1 252 := ⟨by decide +kernel, rfl⟩
theorem e_X11_put_252 : g_dc cX11_put 252 (.getfield 452) 3 255 := ⟨by decide +kernel, rfl⟩
theorem e_X11_put_255 : g_dc cX11_put 255 (.ireturn) 1 256 := ⟨by decide +kernel, rfl⟩
theorem e_X11_put_256 : g_dc cX11_put 256 (.iload_n 2) 1 257 := ⟨by decide +kernel, rfl⟩
theorem e_X11_put_257 : g_dc cX11_put 257 (.bipush 10) 2 259 := ⟨by decide +kernel, rfl⟩
theorem e_X11_put_259 : g_dc cX11_put 259 (.if_icmp .ne 8) 3 262 := ⟨by decide +kernel, rfl⟩
theorem e_X11_put_262 : g_dc cX11_put 262 (.aload_n 0) 1 263 := ⟨by decide +kernel, rfl⟩
theorem e_X11_put_263 : g_dc cX11_put 263 (.getfield 449) 3 266 := ⟨by decide +kernel, rfl⟩
theorem e_X11_put_266 : g_dc cX11_put 266 (.ireturn) 1 267 := ⟨by decide +kernel, rfl⟩
theorem e_X11_put_267 : g_dc cX11_put 267 (.aload_n 0) 1 268 := ⟨by decide +kernel, rfl⟩
theorem e_X11_put_268 : g_dc cX11_put 268 (.aload_n 0) 1 269 := ⟨by decide +kernel, rfl⟩
theorem e_X11_put_269 : g_dc cX11_put 269 (.getfield 455) 3 272 := ⟨by decide +kernel, rfl⟩
theorem e_X11_put_272 : g_dc cX11_put 272 (.invokevirtual 467) 3 275 := ⟨by decide +kernel, rfl⟩
theorem e_X11_put_275 : g_dc cX11_put 275 (.pop) 1 276 := ⟨by decide +kernel, rfl⟩
theorem e_X11_put_276 : g_dc cX11_put 276 (.iload_n 2) 1 277 := ⟨by decide +kernel, rfl⟩
theorem e_X11_put_277 : g_dc cX11_put 277 (.bipush 12) 2 279 := ⟨by decide +kernel, rfl⟩
theorem e_X11_put_279 : g_dc cX11_put 279 (.if_icmp .ne 59) 3 282 := ⟨by decide +kernel, rfl⟩
theorem e_X11_put_282 : g_dc cX11_put 282 (.aload_n 0) 1 283 := ⟨by decide +kernel, rfl⟩
theorem e_X11_put_283 : g_dc cX11_put 283 (.invokevirtual 425) 3 286 := ⟨by decide +kernel, rfl⟩
theorem e_X11_put_286 : g_dc cX11_put 286 (.iconst 0) 1 287 := ⟨by decide +kernel, rfl⟩
theorem e_X11_put_287 : g_dc cX11_put 287 (.istore 5) 2 289 := ⟨by decide +kernel, rfl⟩
theorem e_X11_put_289 : g_dc cX11_put 289 (.iload 5) 2 291 := ⟨by decide +kernel, rfl⟩
theorem e_X11_put_291 : g_dc cX11_put 291 (.aload_n 0) 1 292 := ⟨by decide +kernel, rfl⟩
theorem e_X11_put_292 : g_dc cX11_put 292 (.getfield 464) 3 295 := ⟨by decide +kernel, rfl⟩
theorem e_X11_put_295 : g_dc cX11_put 295 (.if_icmp .ge 38) 3 298 := ⟨by decide +kernel, rfl⟩
theorem e_X11_put_298 : g_dc cX11_put 298 (.aload_n 0) 1 299 := ⟨by decide +kernel, rfl⟩
theorem e_X11_put_299 : g_dc cX11_put 299 (.getfield 13) 3 302 := ⟨by decide +kernel, rfl⟩
theorem e_X11_put_302 : g_dc cX11_put 302 (.aload_n 0) 1 303 := ⟨by decide +kernel, rfl⟩
theorem e_X11_put_303 : g_dc cX11_put 303 (.getfield 122) 3 306 := ⟨by decide +kernel, rfl⟩
theorem e_X11_put_306 : g_dc cX11_put 306 (.iload 5) 2 308 := ⟨by decide +kernel, rfl⟩
theorem e_X11_put_308 : g_dc cX11_put 308 (.iaload) 1 309 := ⟨by decide +kernel, rfl⟩
theorem e_X11_put_309 : g_dc cX11_put 309 (.aload_n 0) 1 310 := ⟨by decide +kernel, rfl⟩
theorem e_X11_put_310 : g_dc cX11_put 310 (.getfield 86) 3 313 := ⟨by decide +kernel, rfl⟩
theorem e_X11_put_313 : g_dc cX11_put 313 (.aload_n 0) 1 314 := ⟨by decide +kernel, rfl⟩
theorem e_X11_put_314 : g_dc cX11_put 314 (.getfield 122) 3 317 := ⟨by decide +kernel, rfl⟩
theorem e_X11_put_317 : g_dc cX11_put 317 (.aload_n 0) 1 318 := ⟨by decide +kernel, rfl⟩
theorem e_X11_put_318 : g_dc cX11_put 318 (.getfield 125) 3 321 := ⟨by decide +kernel, rfl⟩
theorem e_X11_put_321 : g_dc cX11_put 321 (.iload 5) 2 323 := ⟨by decide +kernel, rfl⟩
theorem e_X11_put_323 : g_dc cX11_put 323 (.iaload) 1 324 := ⟨by decide +kernel, rfl⟩
theorem e_X11_put_324 : g_dc cX11_put 324 (.iaload) 1 325 := ⟨by decide +kernel, rfl⟩
theorem e_X11_put_325 : g_dc cX11_put 325 (.iaload) 1 326 := ⟨by decide +kernel, rfl⟩
theorem e_X11_put_326 : g_dc cX11_put 326 (.iastore) 1 327 := ⟨by decide +kernel, rfl⟩
theorem e_X11_put_327 : g_dc cX11_put 327 (.iinc 5 1) 3 330 := ⟨by decide +kernel, rfl⟩
theorem e_X11_put_330 : g_dc cX11_put 330 (.goto (-41)) 3 333 := ⟨by decide +kernel, rfl⟩
theorem e_X11_put_333 : g_dc cX11_put 333 (.aload_n 0) 1 334 := ⟨by decide +kernel, rfl⟩
theorem e_X11_put_334 : g_dc cX11_put 334 (.getfield 449) 3 337 := ⟨by decide +kernel, rfl⟩
theorem e_X11_put_337 : g_dc cX11_put 337 (.ireturn) 1 338 := ⟨by decide +kernel, rfl⟩
theorem e_X11_put_338 : g_dc cX11_put 338 (.iconst 0) 1 339 := ⟨by decide +kernel, rfl⟩
theorem e_X11_put_339 : g_dc cX11_put 339 (.istore 5) 2 341 := ⟨by decide +kernel, rfl⟩
theorem e_X11_put_341 : g_dc cX11_put 341 (.iload 5) 2 343 := ⟨by decide +kernel, rfl⟩
theorem e_X11_put_343 : g_dc cX11_put 343 (.aload_n 0) 1 344 := ⟨by decide +kernel, rfl⟩
theorem e_X11_put_344 : g_dc cX11_put 344 (.getfield 464) 3 347 := ⟨by decide +kernel, rfl⟩
theorem e_X11_put_347 : g_dc cX11_put 347 (.if_icmp .ge 33) 3 350 := ⟨by decide +kernel, rfl⟩
theorem e_X11_put_350 : g_dc cX11_put 350 (.aload_n 0) 1 351 := ⟨by decide +kernel, rfl⟩
theorem e_X11_put_351 : g_dc cX11_put 351 (.getfield 122) 3 354 := ⟨by decide +kernel, rfl⟩
theorem e_X11_put_354 : g_dc cX11_put 354 (.iload 5) 2 356 := ⟨by decide +kernel, rfl⟩
theorem e_X11_put_356 : g_dc cX11_put 356 (.iaload) 1 357 := ⟨by decide +kernel, rfl⟩
theorem e_X11_put_357 : g_dc cX11_put 357 (.iload_n 2) 1 358 := ⟨by decide +kernel, rfl⟩
theorem e_X11_put_358 : g_dc cX11_put 358 (.if_icmp .ne 16) 3 361 := ⟨by decide +kernel, rfl⟩
theorem e_X11_put_361 : g_dc cX11_put 361 (.aload_n 0) 1 362 := ⟨by decide +kernel, rfl⟩
theorem e_X11_put_362 : g_dc cX11_put 362 (.getfield 122) 3 365 := ⟨by decide +kernel, rfl⟩
theorem e_X11_put_365 : g_dc cX11_put 365 (.aload_n 0) 1 366 := ⟨by decide +kernel, rfl⟩
theorem e_X11_put_366 : g_dc cX11_put 366 (.getfield 125) 3 369 := ⟨by decide +kernel, rfl⟩
theorem e_X11_put_369 : g_dc cX11_put 369 (.iload 5) 2 371 := ⟨by decide +kernel, rfl⟩
theorem e_X11_put_371 : g_dc cX11_put 371 (.iaload) 1 372 := ⟨by decide +kernel, rfl⟩
theorem e_X11_put_372 : g_dc cX11_put 372 (.iaload) 1 373 := ⟨by decide +kernel, rfl⟩
theorem e_X11_put_373 : g_dc cX11_put 373 (.ireturn) 1 374 := ⟨by decide +kernel, rfl⟩
theorem e_X11_put_374 : g_dc cX11_put 374 (.iinc 5 1) 3 377 := ⟨by decide +kernel, rfl⟩
theorem e_X11_put_377 : g_dc cX11_put 377 (.goto (-36)) 3 380 := ⟨by decide +kernel, rfl⟩
theorem e_X11_put_380 : g_dc cX11_put 380 (.iconst (-1)) 1 381 := ⟨by decide +kernel, rfl⟩
theorem e_X11_put_381 : g_dc cX11_put 381 (.ireturn) 1 382 := ⟨by decide +kernel, rfl⟩
def md_X11_put : List Nat := [3, 42, 43, 44, 45, 46, 47, 48, 49, 50, 51, 65, 66, 67, 68, 69, 70, 71, 72, 75]
def mr_X11_put : List Nat := [2, 23, 24, 25, 26, 27, 28, 29, 30, 31, 32, 33, 34, 35, 36, 37, 38, 39]
set_option maxHeartbeats 4000000 in
set_option maxRecDepth 100000 in
theorem w_X11_put (l : Launch) (X : gX) (ad : Nat → Nat) (F : Nat → Int32) (R : Nat → Nat → Int32) (hI : g_ok LK_wM F) (hA : g_okR LA_wM R) (hWT : WT F R) (hWC : WC F R) (a0 : Int32) (a1 : Int32) : g_Ci l X yX11_put cX11_put 7 (some .int) 7 0 0 [.ref (ad 0), .int a0, .int a1] (wM X ad F R) (fun r w => ∃ (F' : Nat → Int32) (R' : Nat → Nat → Int32), w = wM X ad F' R' ∧ g_ok LK_wM F' ∧ g_okR LA_wM R' ∧ WT F' R' ∧ WC F' R' ∧ g_fr md_X11_put F F' ∧ g_fr mr_X11_put R R' ∧ jv (-2147483648) 2147483647 r) := by
  refine g_mi (by decide +kernel) (Nat.le_of_ble_eq_true rfl) (fun E cx hret => ?_)
  refine g_iload_n cx 2 rfl e_X11_put_0 ?_
  refine g_bipush cx 10 (by decide) e_X11_put_1 ?_
  refine g_bipush cx 12 (by decide) e_X11_put_3 ?_
  refine g_cSiW cx [.int a1, .int 10, .int 12] [] (c_X11_in l X (wM X ad F R) a1 10 12) ml_X11_165 yS_X11_in rfl e_X11_put_5 (by unfold g_rr; decide) (by decide) rfl (Nat.le_of_ble_eq_true rfl) (fun r1 w2 h3 => ?_)
  obtain ⟨rfl, hr1⟩ := h3
  have pr1 : jv 0 1 r1 := by rw [hr1]; exact gi_01 _ _ _
  have J34 : ∀ (y4 : Int32), (jv 0 1 y4) → G X E 7 0 0 (wM X ad F R) [(0, .ref (ad 0)), (1, .int a0), (2, .int a1)] 34 [.int y4] := by
    intro y4 py4
    refine g_istore_n cx [(3, .int y4), (0, .ref (ad 0)), (1, .int a0), (2, .int a1)] e_X11_put_34 (by decide) rfl ?_
    refine g_iload_n cx 2 rfl e_X11_put_35 ?_
    refine g_aload_n cx 1 rfl e_X11_put_36 ?_
    refine g_get cx cl_X11 fl_X11_172 0 (.int (F 4)) e_X11_put_37 rfl rfl ?_
    refine g_iconst cx (-1) (by decide) e_X11_put_40 ?_
    refine g_ixor cx e_X11_put_41 ?_
    refine g_topi (fun x5 ex5 => ?_)
    refine g_iand cx e_X11_put_42 ?_
    refine g_topi (fun x6 ex6 => ?_)
    have J62 : G X E 7 0 0 (wM X ad F R) [] 62 [] := by
      refine g_iconst cx (-1) (by decide) e_X11_put_62 ?_
      exact hret e_X11_put_63 (Nat.le_of_ble_eq_true rfl) (Nat.le_of_ble_eq_true rfl) rfl ⟨F, R, rfl, hI, hA, hWT, hWC, (g_fr_rf F), (g_fr_rf R), (jv_w (jv_k (x := (-1)) (-1) (by decide)) (by decide))⟩
    refine g_if_ne cx 62 e_X11_put_43 (by decide) (fun zc7 => ?_) (fun zc7 => ?_)
    · refine g_lsub [] [] rfl ?_
      exact J62  
    · have p8 := gn_eq 0 0 (gc_eq zc7) (jv_t x6) (jv_k (x := 0) 0 (by decide)) (by decide)
      refine g_iload_n cx 2 rfl e_X11_put_46 ?_
      refine g_cSiW cx [.int a0] [] (w_X11_bits2 l X ad F R hI hA a0) ml_X11_410 yS_X11_bits rfl e_X11_put_47 (by unfold g_rr; decide) (by decide) rfl (Nat.le_of_ble_eq_true rfl) (fun r9 w10 h11 => ?_)
      obtain ⟨rfl, pr9, zx12⟩ := h11
      refine g_iconst cx 2 (by decide) e_X11_put_50 ?_
      refine g_iconst cx 5 (by decide) e_X11_put_51 ?_
      refine g_cSiW cx [.int r9, .int 2, .int 5] [] (c_X11_in l X (wM X ad F R) r9 2 5) ml_X11_165 yS_X11_in rfl e_X11_put_52 (by unfold g_rr; decide) (by decide) rfl (Nat.le_of_ble_eq_true rfl) (fun r13 w14 h15 => ?_)
      obtain ⟨rfl, hr13⟩ := h15
      have pr13 : jv 0 1 r13 := by rw [hr13]; exact gi_01 _ _ _
      refine g_if_eq cx 62 e_X11_put_55 (by decide) (fun zc16 => ?_) (fun zc16 => ?_)
      · have p17 := gn_eq 0 0 (gc_eq zc16) pr13 (jv_k (x := 0) 0 (by decide)) (by decide)
        refine g_lsub [] [] rfl ?_
        exact J62  
      · have p18 := gn_neL 1 1 (gc_ne zc16) pr13 (jv_k (x := 0) 0 (by decide)) (by decide)
        have p19 := jv_i 2 5 pr9 (gi_in (A := 2) (B := 5) hr13 zc16 (by decide) (by decide)) (by decide)
        refine g_iload_n cx 0 rfl e_X11_put_58 ?_
        refine g_if_ne cx 64 e_X11_put_59 (by decide) (fun zc20 => ?_) (fun zc20 => ?_)
        · have p21 := gn_neL 1 1 (gc_ne zc20) py4 (jv_k (x := 0) 0 (by decide)) (by decide)
          refine g_aload_n cx 1 rfl e_X11_put_64 ?_
          refine g_iconst cx 0 (by decide) e_X11_put_65 ?_
          refine g_put cx cl_X11 fl_X11_464 0 (wM X ad (upd F 75 0) R) e_X11_put_66 rfl rfl rfl rfl (Nat.le_of_ble_eq_true rfl) rfl ?_
          obtain ⟨F22, hF22⟩ : ∃ z, z = upd F 75 0 := ⟨_, rfl⟩
          rw [← hF22]
          have oF22 : g_ok LK_wM F22 := by rw [hF22]; exact g_ok_p hI (jv_k (x := 0) 0 (by decide)) rfl
          have fF22 : g_fr md_X11_put F F22 := by rw [hF22]; exact g_fr_u (g_fr_rf F) rfl
          have wTF22 : WT F22 R := by rw [hF22]; exact WT_u hWT rfl
          have wCF22 : WC F22 R := by rw [hF22]; exact WC_u hWC rfl
          refine g_iconst cx 0 (by decide) e_X11_put_69 ?_
          refine g_istore cx [(4, .int 0), (3, .int y4), (0, .ref (ad 0)), (1, .int a0), (2, .int a1)] e_X11_put_70 (by decide) rfl ?_
          have J72 : ∀ (N : Nat) (F24 : Nat → Int32) (R25 : Nat → Nat → Int32) (y23 : Int32), (g_ok LK_wM F24) → (g_fr md_X11_put F F24) → (g_okR LA_wM R25) → (g_fr mr_X11_put R R25) → (WT F24 R25) → (WC F24 R25) → (jv 0 10 y23) → ((F24 75).toInt = g_bits a0 (y23 : Int32).toInt.toNat) → (2147483647 - y23.toInt).toNat < N → G X E 7 0 0 (wM X ad F24 R25) [(0, .ref (ad 0)), (1, .int a0), (2, .int a1), (4, .int y23)] 72 [] := by
            intro N
            induction N with
            | zero => intro F24 R25 y23 oF24 fF24 oR25 fR25 wTF24R25 wCF24R25 py23 zq72_0 hm; exact absurd hm (Nat.not_lt_zero _)
            | succ N ih72 =>
              intro F24 R25 y23 oF24 fF24 oR25 fR25 wTF24R25 wCF24R25 py23 zq72_0 hm72
              refine g_iload cx 3 rfl e_X11_put_72 ?_
              refine g_bipush cx 10 (by decide) e_X11_put_74 ?_
              refine g_icmp_ge cx 118 e_X11_put_76 (by decide) (fun zc26 => ?_) (fun zc26 => ?_)
              · have p27 := gn_ge 10 10 (gc_le zc26) py23 (jv_k (x := 10) 10 (by decide)) (by decide)
                have zq10 : (F24 75).toInt = g_bits a0 10 := by have q := zq72_0; rw [show (y23 : Int32).toInt.toNat = 10 from by have q0 := (jv_k (x := 10) 10 (by decide)).1; have q1 := (jv_k (x := 10) 10 (by decide)).2; have q2 := p27.1; have q3 := p27.2; have q4 := (gc_le zc26); omega] at q; exact q
                have z75 : jv 2 5 (F24 75) := ⟨by have q0 := (g_ok_g oF24 14 rfl).1; have q1 := (g_ok_g oF24 14 rfl).2; have q2 := p19.1; have q3 := p19.2; have q4 := zx12; have q5 := zq72_0; have q6 := zq10; omega, by have q0 := (g_ok_g oF24 14 rfl).1; have q1 := (g_ok_g oF24 14 rfl).2; have q2 := p19.1; have q3 := p19.2; have q4 := zx12; have q5 := zq72_0; have q6 := zq10; omega⟩
                refine g_iconst cx 1 (by decide) e_X11_put_118 ?_
                refine g_istore cx [(4, .int 1), (0, .ref (ad 0)), (1, .int a0), (2, .int a1)] e_X11_put_119 (by decide) rfl ?_
                refine g_iconst cx 0 (by decide) e_X11_put_121 ?_
                refine g_istore cx [(5, .int 0), (4, .int 1), (0, .ref (ad 0)), (1, .int a0), (2, .int a1)] e_X11_put_122 (by decide) rfl ?_
                have J124 : ∀ (N : Nat) (y28 : Int32) (y29 : Int32), (jv 1 13631487 y28) → (jv 0 5 y29) → (0 ≤ (y29 : Int32).toInt ∧ (y29 : Int32).toInt ≤ (F24 75).toInt) → ((y28 : Int32).toInt = g_pw (F24 75).toInt (y29 : Int32).toInt.toNat) → (2147483647 - y29.toInt).toNat < N → G X E 7 0 0 (wM X ad F24 R25) [(0, .ref (ad 0)), (2, .int a1), (4, .int y28), (5, .int y29)] 124 [] := by
                  intro N
                  induction N with
                  | zero => intro y28 y29 py28 py29 zi124_0 zq124_0 hm; exact absurd hm (Nat.not_lt_zero _)
                  | succ N ih124 =>
                    intro y28 y29 py28 py29 zi124_0 zq124_0 hm124
                    refine g_iload cx 3 rfl e_X11_put_124 ?_
                    refine g_aload_n cx 0 rfl e_X11_put_126 ?_
                    refine g_get cx cl_X11 fl_X11_464 0 (.int (F24 75)) e_X11_put_127 rfl rfl ?_
                    refine g_icmp_ge cx 148 e_X11_put_130 (by decide) (fun zc30 => ?_) (fun zc30 => ?_)
                    · have p31 := gn_ge 2 5 (gc_le zc30) py29 z75 (by decide)
                      have zre := g_pw_e (n := (F24 75).toInt) (r := (y28 : Int32).toInt) ⟨z75.1, z75.2⟩ (by have q := zq124_0; rw [show (y29 : Int32).toInt.toNat = (F24 75).toInt.toNat from by have q0 := z75.1; have q1 := z75.2; have q2 := p19.1; have q3 := p19.2; have q4 := p31.1; have q5 := p31.2; have q6 := zx12; have q7 := zq72_0; have q8 := zq10; have q9 := zi124_0; have q10 := (gc_le zc30); omega] at q; exact q)
                      have zpr : jv 4 3125 y28 := ⟨by have q0 := z75.1; have q1 := z75.2; have q2 := p19.1; have q3 := p19.2; have q4 := py28.1; have q5 := py28.2; have q6 := p31.1; have q7 := p31.2; have q8 := zx12; have q9 := zq72_0; have q10 := zq10; have q11 := zi124_0; have q12 := (gc_le zc30); have q13 := zre; omega, by have q0 := z75.1; have q1 := z75.2; have q2 := p19.1; have q3 := p19.2; have q4 := py28.1; have q5 := py28.2; have q6 := p31.1; have q7 := p31.2; have q8 := zx12; have q9 := zq72_0; have q10 := zq10; have q11 := zi124_0; have q12 := (gc_le zc30); have q13 := zre; omega⟩
                      refine g_aload_n cx 0 rfl e_X11_put_148 ?_
                      refine g_cVvW cx [] [] (w_X11_forgetsBest2 l X ad F24 R25 oF24 oR25 wTF24R25 wCF24R25) ml_X11_458 yV_X11_forgetsBest e_X11_put_149 (by unfold g_rr; decide) (by decide) 0 rfl rfl rfl (Nat.le_of_ble_eq_true rfl) (fun w33 h34 => ?_)
                      obtain ⟨F36, R37, rfl, oF36, oR37, wTF36, wCF36, cF36, cR37, zx35⟩ := h34
                      have fF36 : g_fr md_X11_put F F36 := g_fr_c fF24 cF36 rfl
                      have fR37 : g_fr mr_X11_put R R37 := g_fr_c fR25 cR37 rfl
                      refine g_iconst cx 0 (by decide) e_X11_put_152 ?_
                      refine g_istore cx [(5, .int 0), (0, .ref (ad 0)), (2, .int a1), (4, .int y28)] e_X11_put_153 (by decide) rfl ?_
                      have J155 : ∀ (N : Nat) (F39 : Nat → Int32) (R40 : Nat → Nat → Int32) (y38 : Int32), (g_ok LK_wM F39) → (g_fr md_X11_put F F39) → (g_okR LA_wM R40) → (g_fr mr_X11_put R R40) → (WT F39 R40) → (WC F39 R40) → (jv 0 3125 y38) → ((F39 75).toInt = (F24 75).toInt) → ((0 ≤ (F39 72).toInt ∧ (F39 72).toInt ≤ 3124) ∨ ((F39 70).toInt = -1 ∧ ((F24 75).toInt = 2 ∧ (y38 : Int32).toInt ≤ 1 ∨ (F24 75).toInt = 3 ∧ (y38 : Int32).toInt ≤ 5 ∨ (F24 75).toInt = 4 ∧ (y38 : Int32).toInt ≤ 27 ∨ (F24 75).toInt = 5 ∧ (y38 : Int32).toInt ≤ 194))) → (2147483647 - y38.toInt).toNat < N → G X E 7 0 0 (wM X ad F39 R40) [(0, .ref (ad 0)), (2, .int a1), (4, .int y28), (5, .int y38)] 155 [] := by
                        intro N
                        induction N with
                        | zero => intro F39 R40 y38 oF39 fF39 oR40 fR40 wTF39R40 wCF39R40 py38 zi155_0 zi155_1 hm; exact absurd hm (Nat.not_lt_zero _)
                        | succ N ih155 =>
                          intro F39 R40 y38 oF39 fF39 oR40 fR40 wTF39R40 wCF39R40 py38 zi155_0 zi155_1 hm155
                          have p41 : jv 2 5 (F39 75) := ⟨by have q0 := z75.1; have q1 := z75.2; have q2 := (jv_t (F39 70)).1; have q3 := (jv_t (F39 70)).2; have q4 := (jv_t (F39 72)).1; have q5 := (jv_t (F39 72)).2; have q6 := (g_ok_g oF39 14 rfl).1; have q7 := (g_ok_g oF39 14 rfl).2; have q8 := p19.1; have q9 := p19.2; have q10 := zpr.1; have q11 := zpr.2; have q12 := p31.1; have q13 := p31.2; have q14 := py38.1; have q15 := py38.2; have q16 := zx12; have q17 := zq72_0; have q18 := zq10; have q19 := zi124_0; have q20 := (gc_le zc30); have q21 := zre; have q22 := zi155_0; have q23 := zi155_1; omega, by have q0 := z75.1; have q1 := z75.2; have q2 := (jv_t (F39 70)).1; have q3 := (jv_t (F39 70)).2; have q4 := (jv_t (F39 72)).1; have q5 := (jv_t (F39 72)).2; have q6 := (g_ok_g oF39 14 rfl).1; have q7 := (g_ok_g oF39 14 rfl).2; have q8 := p19.1; have q9 := p19.2; have q10 := zpr.1; have q11 := zpr.2; have q12 := p31.1; have q13 := p31.2; have q14 := py38.1; have q15 := py38.2; have q16 := zx12; have q17 := zq72_0; have q18 := zq10; have q19 := zi124_0; have q20 := (gc_le zc30); have q21 := zre; have q22 := zi155_0; have q23 := zi155_1; omega⟩
                          refine g_iload cx 3 rfl e_X11_put_155 ?_
                          refine g_iload cx 2 rfl e_X11_put_157 ?_
                          refine g_icmp_ge cx 245 e_X11_put_159 (by decide) (fun zc42 => ?_) (fun zc42 => ?_)
                          · have p43 := gn_ge 4 3125 (gc_le zc42) py38 zpr (by decide)
                            refine g_iload_n cx 1 rfl e_X11_put_245 ?_
                            refine g_bipush cx 11 (by decide) e_X11_put_246 ?_
                            refine g_icmp_ne cx 256 e_X11_put_248 (by decide) (fun zc44 => ?_) (fun zc44 => ?_)
                            · refine g_iload_n cx 1 rfl e_X11_put_256 ?_
                              refine g_bipush cx 10 (by decide) e_X11_put_257 ?_
                              refine g_icmp_ne cx 267 e_X11_put_259 (by decide) (fun zc45 => ?_) (fun zc45 => ?_)
                              · refine g_aload_n cx 0 rfl e_X11_put_267 ?_
                                refine g_aload_n cx 0 rfl e_X11_put_268 ?_
                                refine g_get cx cl_X11 fl_X11_455 0 (.int (F39 72)) e_X11_put_269 rfl rfl ?_
                                refine g_cViW cx [.int (F39 72)] [] (w_X11_readsRow l X ad F39 R40 oF39 oR40 wTF39R40 wCF39R40 (F39 72) (show jv 0 3124 (F39 72) from ⟨by have q0 := z75.1; have q1 := z75.2; have q2 := (jv_t (F39 70)).1; have q3 := (jv_t (F39 70)).2; have q4 := (jv_t (F39 72)).1; have q5 := (jv_t (F39 72)).2; have q6 := p41.1; have q7 := p41.2; have q8 := p19.1; have q9 := p19.2; have q10 := zpr.1; have q11 := zpr.2; have q12 := p31.1; have q13 := p31.2; have q14 := p43.1; have q15 := p43.2; have q16 := zx12; have q17 := zq72_0; have q18 := zq10; have q19 := zi124_0; have q20 := (gc_le zc30); have q21 := zre; have q22 := zi155_0; have q23 := zi155_1; have q24 := (gc_le zc42); omega, by have q0 := z75.1; have q1 := z75.2; have q2 := (jv_t (F39 70)).1; have q3 := (jv_t (F39 70)).2; have q4 := (jv_t (F39 72)).1; have q5 := (jv_t (F39 72)).2; have q6 := p41.1; have q7 := p41.2; have q8 := p19.1; have q9 := p19.2; have q10 := zpr.1; have q11 := zpr.2; have q12 := p31.1; have q13 := p31.2; have q14 := p43.1; have q15 := p43.2; have q16 := zx12; have q17 := zq72_0; have q18 := zq10; have q19 := zi124_0; have q20 := (gc_le zc30); have q21 := zre; have q22 := zi155_0; have q23 := zi155_1; have q24 := (gc_le zc42); omega⟩) (show jv 2 5 (F39 75) from ⟨by have q0 := z75.1; have q1 := z75.2; have q2 := (jv_t (F39 70)).1; have q3 := (jv_t (F39 70)).2; have q4 := (jv_t (F39 72)).1; have q5 := (jv_t (F39 72)).2; have q6 := p41.1; have q7 := p41.2; have q8 := p19.1; have q9 := p19.2; have q10 := zpr.1; have q11 := zpr.2; have q12 := p31.1; have q13 := p31.2; have q14 := p43.1; have q15 := p43.2; have q16 := zx12; have q17 := zq72_0; have q18 := zq10; have q19 := zi124_0; have q20 := (gc_le zc30); have q21 := zre; have q22 := zi155_0; have q23 := zi155_1; have q24 := (gc_le zc42); omega, by have q0 := z75.1; have q1 := z75.2; have q2 := (jv_t (F39 70)).1; have q3 := (jv_t (F39 70)).2; have q4 := (jv_t (F39 72)).1; have q5 := (jv_t (F39 72)).2; have q6 := p41.1; have q7 := p41.2; have q8 := p19.1; have q9 := p19.2; have q10 := zpr.1; have q11 := zpr.2; have q12 := p31.1; have q13 := p31.2; have q14 := p43.1; have q15 := p43.2; have q16 := zx12; have q17 := zq72_0; have q18 := zq10; have q19 := zi124_0; have q20 := (gc_le zc30); have q21 := zre; have q22 := zi155_0; have q23 := zi155_1; have q24 := (gc_le zc42); omega⟩)) ml_X11_467 yV_X11_readsRow e_X11_put_272 (by unfold g_rr; decide) (by decide) 0 rfl rfl rfl (Nat.le_of_ble_eq_true rfl) (fun r46 w47 h48 => ?_)
                                obtain ⟨F50, R51, rfl, oF50, oR51, wTF50, wCF50, cF50, cR51, pr46, zx49⟩ := h48
                                have fF50 : g_fr md_X11_put F F50 := g_fr_c fF39 cF50 rfl
                                have fR51 : g_fr mr_X11_put R R51 := g_fr_c fR40 cR51 rfl
                                refine g_pop cx rfl e_X11_put_275 ?_
                                refine g_iload_n cx 1 rfl e_X11_put_276 ?_
                                refine g_bipush cx 12 (by decide) e_X11_put_277 ?_
                                refine g_icmp_ne cx 338 e_X11_put_279 (by decide) (fun zc52 => ?_) (fun zc52 => ?_)
                                · refine g_iconst cx 0 (by decide) e_X11_put_338 ?_
                                  refine g_istore cx [(5, .int 0), (0, .ref (ad 0)), (2, .int a1), (4, .int y28)] e_X11_put_339 (by decide) rfl ?_
                                  have J341 : ∀ (N : Nat) (y53 : Int32), (jv 0 5 y53) → ((F50 75).toInt = (F24 75).toInt) → (2147483647 - y53.toInt).toNat < N → G X E 7 0 0 (wM X ad F50 R51) [(0, .ref (ad 0)), (2, .int a1), (5, .int y53)] 341 [] := by
                                    intro N
                                    induction N with
                                    | zero => intro y53 py53 zi341_0 hm; exact absurd hm (Nat.not_lt_zero _)
                                    | succ N ih341 =>
                                      intro y53 py53 zi341_0 hm341
                                      have p54 : jv 2 5 (F50 75) := ⟨by have q0 := z75.1; have q1 := z75.2; have q2 := (jv_t (F39 70)).1; have q3 := (jv_t (F39 70)).2; have q4 := (jv_t (F39 72)).1; have q5 := (jv_t (F39 72)).2; have q6 := p41.1; have q7 := p41.2; have q8 := (g_ok_g oF50 14 rfl).1; have q9 := (g_ok_g oF50 14 rfl).2; have q10 := p19.1; have q11 := p19.2; have q12 := zpr.1; have q13 := zpr.2; have q14 := p31.1; have q15 := p31.2; have q16 := p43.1; have q17 := p43.2; have q18 := zx12; have q19 := zq72_0; have q20 := zq10; have q21 := zi124_0; have q22 := (gc_le zc30); have q23 := zre; have q24 := zi155_0; have q25 := zi155_1; have q26 := (gc_le zc42); have q27 := (congrArg Int32.toInt (show F50 75 = F39 75 from (cF50 75 rfl))); have q28 := zi341_0; have q29 := (congrArg Int32.toInt (show F50 75 = F39 75 from (cF50 75 rfl))); omega, by have q0 := z75.1; have q1 := z75.2; have q2 := (jv_t (F39 70)).1; have q3 := (jv_t (F39 70)).2; have q4 := (jv_t (F39 72)).1; have q5 := (jv_t (F39 72)).2; have q6 := p41.1; have q7 := p41.2; have q8 := (g_ok_g oF50 14 rfl).1; have q9 := (g_ok_g oF50 14 rfl).2; have q10 := p19.1; have q11 := p19.2; have q12 := zpr.1; have q13 := zpr.2; have q14 := p31.1; have q15 := p31.2; have q16 := p43.1; have q17 := p43.2; have q18 := zx12; have q19 := zq72_0; have q20 := zq10; have q21 := zi124_0; have q22 := (gc_le zc30); have q23 := zre; have q24 := zi155_0; have q25 := zi155_1; have q26 := (gc_le zc42); have q27 := (congrArg Int32.toInt (show F50 75 = F39 75 from (cF50 75 rfl))); have q28 := zi341_0; have q29 := (congrArg Int32.toInt (show F50 75 = F39 75 from (cF50 75 rfl))); omega⟩
                                      refine g_iload cx 2 rfl e_X11_put_341 ?_
                                      refine g_aload_n cx 0 rfl e_X11_put_343 ?_
                                      refine g_get cx cl_X11 fl_X11_464 0 (.int (F50 75)) e_X11_put_344 rfl rfl ?_
                                      refine g_toi (F39 75) (cF50 75 rfl) ?_
                                      refine g_icmp_ge cx 380 e_X11_put_347 (by decide) (fun zc55 => ?_) (fun zc55 => ?_)
                                      · have p56 := gn_ge 2 5 (gc_le zc55) py53 p41 (by decide)
                                        refine g_iconst cx (-1) (by decide) e_X11_put_380 ?_
                                        exact hret e_X11_put_381 (Nat.le_of_ble_eq_true rfl) (Nat.le_of_ble_eq_true rfl) rfl ⟨F50, R51, rfl, oF50, oR51, wTF50, wCF50, fF50, fR51, (jv_w (jv_k (x := (-1)) (-1) (by decide)) (by decide))⟩
                                      · have p57 := gn_lt 0 4 (gc_nle zc55) py53 p41 (by decide)
                                        refine g_aload_n cx 0 rfl e_X11_put_350 ?_
                                        refine g_get cx cl_X11 fl_X11_122 0 (.ref (ad 38)) e_X11_put_351 rfl rfl ?_
                                        refine g_iload cx 2 rfl e_X11_put_354 ?_
                                        refine g_iald cx 38 e_X11_put_356 rfl (jv_ix 5 p57 (by decide)) ?_
                                        refine g_topi (fun x58 ex58 => ?_)
                                        have p59 : jv 0 9 x58 := by rw [ex58]; exact g_okR_g oR51 4 rfl (jv_cl 5 p57 (by decide))
                                        refine g_iload_n cx 1 rfl e_X11_put_357 ?_
                                        refine g_icmp_ne cx 374 e_X11_put_358 (by decide) (fun zc60 => ?_) (fun zc60 => ?_)
                                        · obtain ⟨x61, ex61⟩ : ∃ z : Int32, z = y53 + Int32.ofInt 1 := ⟨_, rfl⟩
                                          refine g_iinc cx x61 [(5, .int x61), (0, .ref (ad 0)), (2, .int a1)] 2 e_X11_put_374 rfl ex61.symm (by decide) rfl ?_
                                          have zx61 := jv_add 1 5 (show x61 = y53 + 1 from ex61) p57 (jv_k (x := 1) 1 (by decide)) (by decide)
                                          refine g_goto cx 341 e_X11_put_377 (by decide) ?_
                                          refine g_lsub [1, 2, 0] [(0, .ref (ad 0)), (2, .int a1), (5, .int x61)] rfl ?_
                                          exact ih341 x61 (jv_w zx61.2 (by decide)) (by have q0 := (jv_k (x := 1) 1 (by decide)).1; have q1 := (jv_k (x := 1) 1 (by decide)).2; have q2 := z75.1; have q3 := z75.2; have q4 := (jv_t (F39 70)).1; have q5 := (jv_t (F39 70)).2; have q6 := (jv_t (F39 72)).1; have q7 := (jv_t (F39 72)).2; have q8 := p41.1; have q9 := p41.2; have q10 := p54.1; have q11 := p54.2; have q12 := p19.1; have q13 := p19.2; have q14 := zx61.2.1; have q15 := zx61.2.2; have q16 := zpr.1; have q17 := zpr.2; have q18 := p31.1; have q19 := p31.2; have q20 := p43.1; have q21 := p43.2; have q22 := p57.1; have q23 := p57.2; have q24 := zx12; have q25 := zq72_0; have q26 := zq10; have q27 := zi124_0; have q28 := (gc_le zc30); have q29 := zre; have q30 := zi155_0; have q31 := zi155_1; have q32 := (gc_le zc42); have q33 := (congrArg Int32.toInt (show F50 75 = F39 75 from (cF50 75 rfl))); have q34 := zi341_0; have q35 := (congrArg Int32.toInt (show F50 75 = F39 75 from (cF50 75 rfl))); have q36 := (gc_nle zc55); have q37 := (g_eq0 zx61.1); have q38 := (congrArg Int32.toInt (show F50 75 = F39 75 from (cF50 75 rfl))); omega) (Nat.lt_of_lt_of_le (show (2147483647 - x61.toInt).toNat < (2147483647 - y53.toInt).toNat from by have q0 := (jv_k (x := 1) 1 (by decide)).1; have q1 := (jv_k (x := 1) 1 (by decide)).2; have q2 := z75.1; have q3 := z75.2; have q4 := (jv_t (F39 70)).1; have q5 := (jv_t (F39 70)).2; have q6 := (jv_t (F39 72)).1; have q7 := (jv_t (F39 72)).2; have q8 := p41.1; have q9 := p41.2; have q10 := p54.1; have q11 := p54.2; have q12 := p19.1; have q13 := p19.2; have q14 := zx61.2.1; have q15 := zx61.2.2; have q16 := zpr.1; have q17 := zpr.2; have q18 := p31.1; have q19 := p31.2; have q20 := p43.1; have q21 := p43.2; have q22 := p57.1; have q23 := p57.2; have q24 := zx12; have q25 := zq72_0; have q26 := zq10; have q27 := zi124_0; have q28 := (gc_le zc30); have q29 := zre; have q30 := zi155_0; have q31 := zi155_1; have q32 := (gc_le zc42); have q33 := (congrArg Int32.toInt (show F50 75 = F39 75 from (cF50 75 rfl))); have q34 := zi341_0; have q35 := (congrArg Int32.toInt (show F50 75 = F39 75 from (cF50 75 rfl))); have q36 := (gc_nle zc55); have q37 := (g_eq0 zx61.1); have q38 := (congrArg Int32.toInt (show F50 75 = F39 75 from (cF50 75 rfl))); omega) (Nat.le_of_lt_succ hm341))
                                        · have p62 := gn_eq 0 9 (gc_eq zc60).symm (jv_t a1) p59 (by decide)
                                          refine g_aload_n cx 0 rfl e_X11_put_361 ?_
                                          refine g_get cx cl_X11 fl_X11_122 0 (.ref (ad 38)) e_X11_put_362 rfl rfl ?_
                                          refine g_aload_n cx 0 rfl e_X11_put_365 ?_
                                          refine g_get cx cl_X11 fl_X11_125 0 (.ref (ad 39)) e_X11_put_366 rfl rfl ?_
                                          refine g_iload cx 2 rfl e_X11_put_369 ?_
                                          refine g_iald cx 39 e_X11_put_371 rfl (jv_ix 5 p57 (by decide)) ?_
                                          refine g_topi (fun x63 ex63 => ?_)
                                          have p64 : jv 0 4 x63 := by rw [ex63]; exact g_okR_g oR51 5 rfl (jv_cl 5 p57 (by decide))
                                          refine g_iald cx 38 e_X11_put_372 rfl (jv_ix 5 p64 (by decide)) ?_
                                          refine g_topi (fun x65 ex65 => ?_)
                                          have p66 : jv 0 9 x65 := by rw [ex65]; exact g_okR_g oR51 4 rfl (jv_cl 5 p64 (by decide))
                                          exact hret e_X11_put_373 (Nat.le_of_ble_eq_true rfl) (Nat.le_of_ble_eq_true rfl) rfl ⟨F50, R51, rfl, oF50, oR51, wTF50, wCF50, fF50, fR51, (jv_w p66 (by decide))⟩
                                  refine g_lsub [1, 2, 0] [(0, .ref (ad 0)), (2, .int a1), (5, .int 0)] rfl ?_
                                  exact J341 _ 0 (jv_w (jv_k (x := 0) 0 (by decide)) (by decide)) (by have q0 := z75.1; have q1 := z75.2; have q2 := (jv_t (F39 70)).1; have q3 := (jv_t (F39 70)).2; have q4 := (jv_t (F39 72)).1; have q5 := (jv_t (F39 72)).2; have q6 := p41.1; have q7 := p41.2; have q8 := (g_ok_g oF50 14 rfl).1; have q9 := (g_ok_g oF50 14 rfl).2; have q10 := p19.1; have q11 := p19.2; have q12 := zpr.1; have q13 := zpr.2; have q14 := p31.1; have q15 := p31.2; have q16 := p43.1; have q17 := p43.2; have q18 := zx12; have q19 := zq72_0; have q20 := zq10; have q21 := zi124_0; have q22 := (gc_le zc30); have q23 := zre; have q24 := zi155_0; have q25 := zi155_1; have q26 := (gc_le zc42); have q27 := (congrArg Int32.toInt (show F50 75 = F39 75 from (cF50 75 rfl))); omega) (Nat.lt_succ_self _)
                                · have p67 := gn_eq 12 12 (gc_eq zc52) (jv_t a1) (jv_k (x := 12) 12 (by decide)) (by decide)
                                  refine g_aload_n cx 0 rfl e_X11_put_282 ?_
                                  refine g_cVvW cx [] [] (w_X11_laysThings l X ad F50 R51 oF50 oR51 wTF50 wCF50) ml_X11_425 yV_X11_laysThings e_X11_put_283 (by unfold g_rr; decide) (by decide) 0 rfl rfl rfl (Nat.le_of_ble_eq_true rfl) (fun w69 h70 => ?_)
                                  obtain ⟨F72, R73, rfl, oF72, oR73, wTF72, wCF72, cF72, cR73, zx71⟩ := h70
                                  have fF72 : g_fr md_X11_put F F72 := g_fr_c fF50 cF72 rfl
                                  have fR73 : g_fr mr_X11_put R R73 := g_fr_c fR51 cR73 rfl
                                  refine g_iconst cx 0 (by decide) e_X11_put_286 ?_
                                  refine g_istore cx [(5, .int 0), (0, .ref (ad 0)), (2, .int a1), (4, .int y28)] e_X11_put_287 (by decide) rfl ?_
                                  have J289 : ∀ (N : Nat) (R75 : Nat → Nat → Int32) (y74 : Int32), (g_okR LA_wM R75) → (g_fr mr_X11_put R R75) → (WT F72 R75) → (WC F72 R75) → (jv 0 5 y74) → ((F72 75).toInt = (F24 75).toInt) → (2147483647 - y74.toInt).toNat < N → G X E 7 0 0 (wM X ad F72 R75) [(0, .ref (ad 0)), (5, .int y74)] 289 [] := by
                                    intro N
                                    induction N with
                                    | zero => intro R75 y74 oR75 fR75 wTR75 wCR75 py74 zi289_0 hm; exact absurd hm (Nat.not_lt_zero _)
                                    | succ N ih289 =>
                                      intro R75 y74 oR75 fR75 wTR75 wCR75 py74 zi289_0 hm289
                                      have p76 : jv 2 5 (F72 75) := ⟨by have q0 := z75.1; have q1 := z75.2; have q2 := (jv_t (F39 70)).1; have q3 := (jv_t (F39 70)).2; have q4 := (jv_t (F39 72)).1; have q5 := (jv_t (F39 72)).2; have q6 := p41.1; have q7 := p41.2; have q8 := (g_ok_g oF72 14 rfl).1; have q9 := (g_ok_g oF72 14 rfl).2; have q10 := p19.1; have q11 := p19.2; have q12 := zpr.1; have q13 := zpr.2; have q14 := p31.1; have q15 := p31.2; have q16 := p43.1; have q17 := p43.2; have q18 := zx12; have q19 := zq72_0; have q20 := zq10; have q21 := zi124_0; have q22 := (gc_le zc30); have q23 := zre; have q24 := zi155_0; have q25 := zi155_1; have q26 := (gc_le zc42); have q27 := (congrArg Int32.toInt (show F72 75 = F39 75 from ((cF72 75 rfl).trans (cF50 75 rfl)))); have q28 := zi289_0; have q29 := (congrArg Int32.toInt (show F72 75 = F39 75 from ((cF72 75 rfl).trans (cF50 75 rfl)))); omega, by have q0 := z75.1; have q1 := z75.2; have q2 := (jv_t (F39 70)).1; have q3 := (jv_t (F39 70)).2; have q4 := (jv_t (F39 72)).1; have q5 := (jv_t (F39 72)).2; have q6 := p41.1; have q7 := p41.2; have q8 := (g_ok_g oF72 14 rfl).1; have q9 := (g_ok_g oF72 14 rfl).2; have q10 := p19.1; have q11 := p19.2; have q12 := zpr.1; have q13 := zpr.2; have q14 := p31.1; have q15 := p31.2; have q16 := p43.1; have q17 := p43.2; have q18 := zx12; have q19 := zq72_0; have q20 := zq10; have q21 := zi124_0; have q22 := (gc_le zc30); have q23 := zre; have q24 := zi155_0; have q25 := zi155_1; have q26 := (gc_le zc42); have q27 := (congrArg Int32.toInt (show F72 75 = F39 75 from ((cF72 75 rfl).trans (cF50 75 rfl)))); have q28 := zi289_0; have q29 := (congrArg Int32.toInt (show F72 75 = F39 75 from ((cF72 75 rfl).trans (cF50 75 rfl)))); omega⟩
                                      refine g_iload cx 1 rfl e_X11_put_289 ?_
                                      refine g_aload_n cx 0 rfl e_X11_put_291 ?_
                                      refine g_get cx cl_X11 fl_X11_464 0 (.int (F72 75)) e_X11_put_292 rfl rfl ?_
                                      refine g_toi (F39 75) ((cF72 75 rfl).trans (cF50 75 rfl)) ?_
                                      refine g_icmp_ge cx 333 e_X11_put_295 (by decide) (fun zc77 => ?_) (fun zc77 => ?_)
                                      · have p78 := gn_ge 2 5 (gc_le zc77) py74 p41 (by decide)
                                        refine g_aload_n cx 0 rfl e_X11_put_333 ?_
                                        refine g_get cx cl_X11 fl_X11_449 0 (.int (F72 70)) e_X11_put_334 rfl rfl ?_
                                        refine g_toi (F39 70) ((cF72 70 rfl).trans (cF50 70 rfl)) ?_
                                        exact hret e_X11_put_337 (Nat.le_of_ble_eq_true rfl) (Nat.le_of_ble_eq_true rfl) rfl ⟨F72, R75, rfl, oF72, oR75, wTR75, wCR75, fF72, fR75, (jv_t (F39 70))⟩
                                      · have p79 := gn_lt 0 4 (gc_nle zc77) py74 p41 (by decide)
                                        refine g_aload_n cx 0 rfl e_X11_put_298 ?_
                                        refine g_get cx cl_X11 fl_X11_13 0 (.ref (ad 2)) e_X11_put_299 rfl rfl ?_
                                        refine g_aload_n cx 0 rfl e_X11_put_302 ?_
                                        refine g_get cx cl_X11 fl_X11_122 0 (.ref (ad 38)) e_X11_put_303 rfl rfl ?_
                                        refine g_iload cx 1 rfl e_X11_put_306 ?_
                                        refine g_iald cx 38 e_X11_put_308 rfl (jv_ix 5 p79 (by decide)) ?_
                                        refine g_topi (fun x80 ex80 => ?_)
                                        have p81 : jv 0 9 x80 := by rw [ex80]; exact g_okR_g oR75 4 rfl (jv_cl 5 p79 (by decide))
                                        refine g_aload_n cx 0 rfl e_X11_put_309 ?_
                                        refine g_get cx cl_X11 fl_X11_86 0 (.ref (ad 26)) e_X11_put_310 rfl rfl ?_
                                        refine g_aload_n cx 0 rfl e_X11_put_313 ?_
                                        refine g_get cx cl_X11 fl_X11_122 0 (.ref (ad 38)) e_X11_put_314 rfl rfl ?_
                                        refine g_aload_n cx 0 rfl e_X11_put_317 ?_
                                        refine g_get cx cl_X11 fl_X11_125 0 (.ref (ad 39)) e_X11_put_318 rfl rfl ?_
                                        refine g_iload cx 1 rfl e_X11_put_321 ?_
                                        refine g_iald cx 39 e_X11_put_323 rfl (jv_ix 5 p79 (by decide)) ?_
                                        refine g_topi (fun x82 ex82 => ?_)
                                        have p83 : jv 0 4 x82 := by rw [ex82]; exact g_okR_g oR75 5 rfl (jv_cl 5 p79 (by decide))
                                        refine g_iald cx 38 e_X11_put_324 rfl (jv_ix 5 p83 (by decide)) ?_
                                        refine g_topi (fun x84 ex84 => ?_)
                                        have p85 : jv 0 9 x84 := by rw [ex84]; exact g_okR_g oR75 4 rfl (jv_cl 5 p83 (by decide))
                                        refine g_iald cx 26 e_X11_put_325 rfl (jv_ix 10 p85 (by decide)) ?_
                                        refine g_topi (fun x86 ex86 => ?_)
                                        refine g_iast cx 2 (wM X ad F72 (g_u R75 2 (upd (R75 2) (Int32.toNatClampNeg x80) x86))) e_X11_put_326 rfl (jv_ix 10 p81 (by decide)) rfl ?_
                                        obtain ⟨R87, hR87⟩ : ∃ z, z = g_u R75 2 (upd (R75 2) (Int32.toNatClampNeg x80) x86) := ⟨_, rfl⟩
                                        rw [← hR87]
                                        have oR87 : g_okR LA_wM R87 := by rw [hR87]; exact g_okR_u oR75 rfl
                                        have fR87 : g_fr mr_X11_put R R87 := by rw [hR87]; exact g_fr_r fR75 rfl
                                        have wTR87 : WT F72 R87 := by rw [hR87]; exact WT_r wTR75 rfl
                                        have wCR87 : WC F72 R87 := by rw [hR87]; exact WC_r wCR75 rfl
                                        obtain ⟨x88, ex88⟩ : ∃ z : Int32, z = y74 + Int32.ofInt 1 := ⟨_, rfl⟩
                                        refine g_iinc cx x88 [(5, .int x88), (0, .ref (ad 0))] 1 e_X11_put_327 rfl ex88.symm (by decide) rfl ?_
                                        have zx88 := jv_add 1 5 (show x88 = y74 + 1 from ex88) p79 (jv_k (x := 1) 1 (by decide)) (by decide)
                                        refine g_goto cx 289 e_X11_put_330 (by decide) ?_
                                        refine g_lsub [1, 0] [(0, .ref (ad 0)), (5, .int x88)] rfl ?_
                                        exact ih289 R87 x88 oR87 fR87 wTR87 wCR87 (jv_w zx88.2 (by decide)) (by have q0 := (jv_k (x := 1) 1 (by decide)).1; have q1 := (jv_k (x := 1) 1 (by decide)).2; have q2 := z75.1; have q3 := z75.2; have q4 := (jv_t (F39 70)).1; have q5 := (jv_t (F39 70)).2; have q6 := (jv_t (F39 72)).1; have q7 := (jv_t (F39 72)).2; have q8 := p41.1; have q9 := p41.2; have q10 := p76.1; have q11 := p76.2; have q12 := p19.1; have q13 := p19.2; have q14 := zx88.2.1; have q15 := zx88.2.2; have q16 := zpr.1; have q17 := zpr.2; have q18 := p31.1; have q19 := p31.2; have q20 := p43.1; have q21 := p43.2; have q22 := p79.1; have q23 := p79.2; have q24 := zx12; have q25 := zq72_0; have q26 := zq10; have q27 := zi124_0; have q28 := (gc_le zc30); have q29 := zre; have q30 := zi155_0; have q31 := zi155_1; have q32 := (gc_le zc42); have q33 := (congrArg Int32.toInt (show F72 75 = F39 75 from ((cF72 75 rfl).trans (cF50 75 rfl)))); have q34 := zi289_0; have q35 := (congrArg Int32.toInt (show F72 75 = F39 75 from ((cF72 75 rfl).trans (cF50 75 rfl)))); have q36 := (gc_nle zc77); have q37 := (g_eq0 zx88.1); have q38 := (congrArg Int32.toInt (show F72 75 = F39 75 from ((cF72 75 rfl).trans (cF50 75 rfl)))); omega) (Nat.lt_of_lt_of_le (show (2147483647 - x88.toInt).toNat < (2147483647 - y74.toInt).toNat from by have q0 := (jv_k (x := 1) 1 (by decide)).1; have q1 := (jv_k (x := 1) 1 (by decide)).2; have q2 := z75.1; have q3 := z75.2; have q4 := (jv_t (F39 70)).1; have q5 := (jv_t (F39 70)).2; have q6 := (jv_t (F39 72)).1; have q7 := (jv_t (F39 72)).2; have q8 := p41.1; have q9 := p41.2; have q10 := p76.1; have q11 := p76.2; have q12 := p19.1; have q13 := p19.2; have q14 := zx88.2.1; have q15 := zx88.2.2; have q16 := zpr.1; have q17 := zpr.2; have q18 := p31.1; have q19 := p31.2; have q20 := p43.1; have q21 := p43.2; have q22 := p79.1; have q23 := p79.2; have q24 := zx12; have q25 := zq72_0; have q26 := zq10; have q27 := zi124_0; have q28 := (gc_le zc30); have q29 := zre; have q30 := zi155_0; have q31 := zi155_1; have q32 := (gc_le zc42); have q33 := (congrArg Int32.toInt (show F72 75 = F39 75 from ((cF72 75 rfl).trans (cF50 75 rfl)))); have q34 := zi289_0; have q35 := (congrArg Int32.toInt (show F72 75 = F39 75 from ((cF72 75 rfl).trans (cF50 75 rfl)))); have q36 := (gc_nle zc77); have q37 := (g_eq0 zx88.1); have q38 := (congrArg Int32.toInt (show F72 75 = F39 75 from ((cF72 75 rfl).trans (cF50 75 rfl)))); omega) (Nat.le_of_lt_succ hm289))
                                  refine g_lsub [1, 0] [(0, .ref (ad 0)), (5, .int 0)] rfl ?_
                                  exact J289 _ R73 0 oR73 fR73 wTF72 wCF72 (jv_w (jv_k (x := 0) 0 (by decide)) (by decide)) (by have q0 := z75.1; have q1 := z75.2; have q2 := (jv_t (F39 70)).1; have q3 := (jv_t (F39 70)).2; have q4 := (jv_t (F39 72)).1; have q5 := (jv_t (F39 72)).2; have q6 := p41.1; have q7 := p41.2; have q8 := (g_ok_g oF72 14 rfl).1; have q9 := (g_ok_g oF72 14 rfl).2; have q10 := p19.1; have q11 := p19.2; have q12 := zpr.1; have q13 := zpr.2; have q14 := p31.1; have q15 := p31.2; have q16 := p43.1; have q17 := p43.2; have q18 := zx12; have q19 := zq72_0; have q20 := zq10; have q21 := zi124_0; have q22 := (gc_le zc30); have q23 := zre; have q24 := zi155_0; have q25 := zi155_1; have q26 := (gc_le zc42); have q27 := (congrArg Int32.toInt (show F72 75 = F39 75 from ((cF72 75 rfl).trans (cF50 75 rfl)))); omega) (Nat.lt_succ_self _)
                              · have p89 := gn_eq 10 10 (gc_eq zc45) (jv_t a1) (jv_k (x := 10) 10 (by decide)) (by decide)
                                refine g_aload_n cx 0 rfl e_X11_put_262 ?_
                                refine g_get cx cl_X11 fl_X11_449 0 (.int (F39 70)) e_X11_put_263 rfl rfl ?_
                                exact hret e_X11_put_266 (Nat.le_of_ble_eq_true rfl) (Nat.le_of_ble_eq_true rfl) rfl ⟨F39, R40, rfl, oF39, oR40, wTF39R40, wCF39R40, fF39, fR40, (jv_t (F39 70))⟩
                            · have p90 := gn_eq 11 11 (gc_eq zc44) (jv_t a1) (jv_k (x := 11) 11 (by decide)) (by decide)
                              refine g_aload_n cx 0 rfl e_X11_put_251 ?_
                              refine g_get cx cl_X11 fl_X11_452 0 (.int (F39 71)) e_X11_put_252 rfl rfl ?_
                              exact hret e_X11_put_255 (Nat.le_of_ble_eq_true rfl) (Nat.le_of_ble_eq_true rfl) rfl ⟨F39, R40, rfl, oF39, oR40, wTF39R40, wCF39R40, fF39, fR40, (jv_t (F39 71))⟩
                          · have p91 := gn_lt 0 3124 (gc_nle zc42) py38 zpr (by decide)
                            refine g_aload_n cx 0 rfl e_X11_put_162 ?_
                            refine g_iload cx 3 rfl e_X11_put_163 ?_
                            refine g_cViW cx [.int y38] [] (w_X11_readsRow l X ad F39 R40 oF39 oR40 wTF39R40 wCF39R40 y38 p91 (show jv 2 5 (F39 75) from ⟨by have q0 := z75.1; have q1 := z75.2; have q2 := (jv_t (F39 70)).1; have q3 := (jv_t (F39 70)).2; have q4 := (jv_t (F39 72)).1; have q5 := (jv_t (F39 72)).2; have q6 := p41.1; have q7 := p41.2; have q8 := p19.1; have q9 := p19.2; have q10 := zpr.1; have q11 := zpr.2; have q12 := p31.1; have q13 := p31.2; have q14 := p91.1; have q15 := p91.2; have q16 := zx12; have q17 := zq72_0; have q18 := zq10; have q19 := zi124_0; have q20 := (gc_le zc30); have q21 := zre; have q22 := zi155_0; have q23 := zi155_1; have q24 := (gc_nle zc42); omega, by have q0 := z75.1; have q1 := z75.2; have q2 := (jv_t (F39 70)).1; have q3 := (jv_t (F39 70)).2; have q4 := (jv_t (F39 72)).1; have q5 := (jv_t (F39 72)).2; have q6 := p41.1; have q7 := p41.2; have q8 := p19.1; have q9 := p19.2; have q10 := zpr.1; have q11 := zpr.2; have q12 := p31.1; have q13 := p31.2; have q14 := p91.1; have q15 := p91.2; have q16 := zx12; have q17 := zq72_0; have q18 := zq10; have q19 := zi124_0; have q20 := (gc_le zc30); have q21 := zre; have q22 := zi155_0; have q23 := zi155_1; have q24 := (gc_nle zc42); omega⟩)) ml_X11_467 yV_X11_readsRow e_X11_put_165 (by unfold g_rr; decide) (by decide) 0 rfl rfl rfl (Nat.le_of_ble_eq_true rfl) (fun r92 w93 h94 => ?_)
                            obtain ⟨F96, R97, rfl, oF96, oR97, wTF96, wCF96, cF96, cR97, pr92, zx95⟩ := h94
                            have fF96 : g_fr md_X11_put F F96 := g_fr_c fF39 cF96 rfl
                            have fR97 : g_fr mr_X11_put R R97 := g_fr_c fR40 cR97 rfl
                            have J239 : ∀ (F98 : Nat → Int32) (R99 : Nat → Nat → Int32), (g_ok LK_wM F98) → (g_fr md_X11_put F F98) → (g_okR LA_wM R99) → (g_fr mr_X11_put R R99) → (WT F98 R99) → (WC F98 R99) → ((F98 75).toInt = (F24 75).toInt) → ((0 ≤ (F98 72).toInt ∧ (F98 72).toInt ≤ 3124) ∨ ((F98 70).toInt = -1 ∧ ((F24 75).toInt = 2 ∧ (y38 : Int32).toInt + 1 ≤ 1 ∨ (F24 75).toInt = 3 ∧ (y38 : Int32).toInt + 1 ≤ 5 ∨ (F24 75).toInt = 4 ∧ (y38 : Int32).toInt + 1 ≤ 27 ∨ (F24 75).toInt = 5 ∧ (y38 : Int32).toInt + 1 ≤ 194))) → G X E 7 0 0 (wM X ad F98 R99) [(0, .ref (ad 0)), (2, .int a1), (4, .int y28), (5, .int y38)] 239 [] := by
                              intro F98 R99 oF98 fF98 oR99 fR99 wTF98R99 wCF98R99 zi239_0 zi239_1
                              have p100 : jv 2 5 (F98 75) := ⟨by have q0 := z75.1; have q1 := z75.2; have q2 := (jv_t (F39 70)).1; have q3 := (jv_t (F39 70)).2; have q4 := (jv_t (F39 72)).1; have q5 := (jv_t (F39 72)).2; have q6 := p41.1; have q7 := p41.2; have q8 := (jv_t (F98 70)).1; have q9 := (jv_t (F98 70)).2; have q10 := (jv_t (F98 72)).1; have q11 := (jv_t (F98 72)).2; have q12 := (g_ok_g oF98 14 rfl).1; have q13 := (g_ok_g oF98 14 rfl).2; have q14 := p19.1; have q15 := p19.2; have q16 := zpr.1; have q17 := zpr.2; have q18 := p31.1; have q19 := p31.2; have q20 := p91.1; have q21 := p91.2; have q22 := zx12; have q23 := zq72_0; have q24 := zq10; have q25 := zi124_0; have q26 := (gc_le zc30); have q27 := zre; have q28 := zi155_0; have q29 := zi155_1; have q30 := (gc_nle zc42); have q31 := zi239_0; have q32 := zi239_1; omega, by have q0 := z75.1; have q1 := z75.2; have q2 := (jv_t (F39 70)).1; have q3 := (jv_t (F39 70)).2; have q4 := (jv_t (F39 72)).1; have q5 := (jv_t (F39 72)).2; have q6 := p41.1; have q7 := p41.2; have q8 := (jv_t (F98 70)).1; have q9 := (jv_t (F98 70)).2; have q10 := (jv_t (F98 72)).1; have q11 := (jv_t (F98 72)).2; have q12 := (g_ok_g oF98 14 rfl).1; have q13 := (g_ok_g oF98 14 rfl).2; have q14 := p19.1; have q15 := p19.2; have q16 := zpr.1; have q17 := zpr.2; have q18 := p31.1; have q19 := p31.2; have q20 := p91.1; have q21 := p91.2; have q22 := zx12; have q23 := zq72_0; have q24 := zq10; have q25 := zi124_0; have q26 := (gc_le zc30); have q27 := zre; have q28 := zi155_0; have q29 := zi155_1; have q30 := (gc_nle zc42); have q31 := zi239_0; have q32 := zi239_1; omega⟩
                              obtain ⟨x101, ex101⟩ : ∃ z : Int32, z = y38 + Int32.ofInt 1 := ⟨_, rfl⟩
                              refine g_iinc cx x101 [(5, .int x101), (0, .ref (ad 0)), (2, .int a1), (4, .int y28)] 3 e_X11_put_239 rfl ex101.symm (by decide) rfl ?_
                              have zx101 := jv_add 1 3125 (show x101 = y38 + 1 from ex101) p91 (jv_k (x := 1) 1 (by decide)) (by decide)
                              refine g_goto cx 155 e_X11_put_242 (by decide) ?_
                              refine g_lsub [1, 2, 3, 0] [(0, .ref (ad 0)), (2, .int a1), (4, .int y28), (5, .int x101)] rfl ?_
                              exact ih155 F98 R99 x101 oF98 fF98 oR99 fR99 wTF98R99 wCF98R99 (jv_w zx101.2 (by decide)) (by have q0 := (jv_k (x := 1) 1 (by decide)).1; have q1 := (jv_k (x := 1) 1 (by decide)).2; have q2 := z75.1; have q3 := z75.2; have q4 := (jv_t (F39 70)).1; have q5 := (jv_t (F39 70)).2; have q6 := (jv_t (F39 72)).1; have q7 := (jv_t (F39 72)).2; have q8 := p41.1; have q9 := p41.2; have q10 := (jv_t (F98 70)).1; have q11 := (jv_t (F98 70)).2; have q12 := (jv_t (F98 72)).1; have q13 := (jv_t (F98 72)).2; have q14 := p100.1; have q15 := p100.2; have q16 := p19.1; have q17 := p19.2; have q18 := zx101.2.1; have q19 := zx101.2.2; have q20 := zpr.1; have q21 := zpr.2; have q22 := p31.1; have q23 := p31.2; have q24 := p91.1; have q25 := p91.2; have q26 := zx12; have q27 := zq72_0; have q28 := zq10; have q29 := zi124_0; have q30 := (gc_le zc30); have q31 := zre; have q32 := zi155_0; have q33 := zi155_1; have q34 := (gc_nle zc42); have q35 := zi239_0; have q36 := zi239_1; have q37 := (g_eq0 zx101.1); omega) (by have q0 := (jv_k (x := 1) 1 (by decide)).1; have q1 := (jv_k (x := 1) 1 (by decide)).2; have q2 := z75.1; have q3 := z75.2; have q4 := (jv_t (F39 70)).1; have q5 := (jv_t (F39 70)).2; have q6 := (jv_t (F39 72)).1; have q7 := (jv_t (F39 72)).2; have q8 := p41.1; have q9 := p41.2; have q10 := (jv_t (F98 70)).1; have q11 := (jv_t (F98 70)).2; have q12 := (jv_t (F98 72)).1; have q13 := (jv_t (F98 72)).2; have q14 := p100.1; have q15 := p100.2; have q16 := p19.1; have q17 := p19.2; have q18 := zx101.2.1; have q19 := zx101.2.2; have q20 := zpr.1; have q21 := zpr.2; have q22 := p31.1; have q23 := p31.2; have q24 := p91.1; have q25 := p91.2; have q26 := zx12; have q27 := zq72_0; have q28 := zq10; have q29 := zi124_0; have q30 := (gc_le zc30); have q31 := zre; have q32 := zi155_0; have q33 := zi155_1; have q34 := (gc_nle zc42); have q35 := zi239_0; have q36 := zi239_1; have q37 := (g_eq0 zx101.1); omega) (Nat.lt_of_lt_of_le (show (2147483647 - x101.toInt).toNat < (2147483647 - y38.toInt).toNat from by have q0 := (jv_k (x := 1) 1 (by decide)).1; have q1 := (jv_k (x := 1) 1 (by decide)).2; have q2 := z75.1; have q3 := z75.2; have q4 := (jv_t (F39 70)).1; have q5 := (jv_t (F39 70)).2; have q6 := (jv_t (F39 72)).1; have q7 := (jv_t (F39 72)).2; have q8 := p41.1; have q9 := p41.2; have q10 := (jv_t (F98 70)).1; have q11 := (jv_t (F98 70)).2; have q12 := (jv_t (F98 72)).1; have q13 := (jv_t (F98 72)).2; have q14 := p100.1; have q15 := p100.2; have q16 := p19.1; have q17 := p19.2; have q18 := zx101.2.1; have q19 := zx101.2.2; have q20 := zpr.1; have q21 := zpr.2; have q22 := p31.1; have q23 := p31.2; have q24 := p91.1; have q25 := p91.2; have q26 := zx12; have q27 := zq72_0; have q28 := zq10; have q29 := zi124_0; have q30 := (gc_le zc30); have q31 := zre; have q32 := zi155_0; have q33 := zi155_1; have q34 := (gc_nle zc42); have q35 := zi239_0; have q36 := zi239_1; have q37 := (g_eq0 zx101.1); omega) (Nat.le_of_lt_succ hm155))
                            refine g_if_ne cx 174 e_X11_put_168 (by decide) (fun zc102 => ?_) (fun zc102 => ?_)
                            · have p103 := gn_neL 1 1 (gc_ne zc102) pr92 (jv_k (x := 0) 0 (by decide)) (by decide)
                              refine g_aload_n cx 0 rfl e_X11_put_174 ?_
                              refine g_cVvW cx [] [] (w_X11_laysPull l X ad F96 R97 oF96 oR97 wTF96 wCF96) ml_X11_422 yV_X11_laysPull e_X11_put_175 (by unfold g_rr; decide) (by decide) 0 rfl rfl rfl (Nat.le_of_ble_eq_true rfl) (fun w105 h106 => ?_)
                              obtain ⟨F107, R108, rfl, oF107, oR108, wTF107, wCF107, cF107, cR108⟩ := h106
                              have fF107 : g_fr md_X11_put F F107 := g_fr_c fF96 cF107 rfl
                              have fR108 : g_fr mr_X11_put R R108 := g_fr_c fR97 cR108 rfl
                              refine g_aload_n cx 0 rfl e_X11_put_178 ?_
                              refine g_cVvW cx [] [] (w_X11_laysThings l X ad F107 R108 oF107 oR108 wTF107 wCF107) ml_X11_425 yV_X11_laysThings e_X11_put_179 (by unfold g_rr; decide) (by decide) 0 rfl rfl rfl (Nat.le_of_ble_eq_true rfl) (fun w110 h111 => ?_)
                              obtain ⟨F113, R114, rfl, oF113, oR114, wTF113, wCF113, cF113, cR114, zx112⟩ := h111
                              have fF113 : g_fr md_X11_put F F113 := g_fr_c fF107 cF113 rfl
                              have fR114 : g_fr mr_X11_put R R114 := g_fr_c fR108 cR114 rfl
                              refine g_iconst cx 0 (by decide) e_X11_put_182 ?_
                              refine g_istore cx [(6, .int 0), (0, .ref (ad 0)), (2, .int a1), (4, .int y28), (5, .int y38)] e_X11_put_183 (by decide) rfl ?_
                              have J185 : ∀ (N : Nat) (R116 : Nat → Nat → Int32) (y115 : Int32), (g_okR LA_wM R116) → (g_fr mr_X11_put R R116) → (WT F113 R116) → (WC F113 R116) → (jv 0 5 y115) → ((F113 75).toInt = (F24 75).toInt) → (2147483647 - y115.toInt).toNat < N → G X E 7 0 0 (wM X ad F113 R116) [(0, .ref (ad 0)), (2, .int a1), (4, .int y28), (5, .int y38), (6, .int y115)] 185 [] := by
                                intro N
                                induction N with
                                | zero => intro R116 y115 oR116 fR116 wTR116 wCR116 py115 zi185_0 hm; exact absurd hm (Nat.not_lt_zero _)
                                | succ N ih185 =>
                                  intro R116 y115 oR116 fR116 wTR116 wCR116 py115 zi185_0 hm185
                                  have p117 : jv 2 5 (F113 75) := ⟨by have q0 := (g_ok_g oF113 14 rfl).1; have q1 := (g_ok_g oF113 14 rfl).2; have q2 := z75.1; have q3 := z75.2; have q4 := (jv_t (F39 70)).1; have q5 := (jv_t (F39 70)).2; have q6 := (jv_t (F39 72)).1; have q7 := (jv_t (F39 72)).2; have q8 := p41.1; have q9 := p41.2; have q10 := p19.1; have q11 := p19.2; have q12 := zpr.1; have q13 := zpr.2; have q14 := p31.1; have q15 := p31.2; have q16 := p91.1; have q17 := p91.2; have q18 := zx12; have q19 := zq72_0; have q20 := zq10; have q21 := zi124_0; have q22 := (gc_le zc30); have q23 := zre; have q24 := zi155_0; have q25 := zi155_1; have q26 := (gc_nle zc42); have q27 := (congrArg Int32.toInt (show F113 75 = F39 75 from (((cF113 75 rfl).trans (cF107 75 rfl)).trans (cF96 75 rfl)))); have q28 := zi185_0; have q29 := (congrArg Int32.toInt (show F113 75 = F39 75 from (((cF113 75 rfl).trans (cF107 75 rfl)).trans (cF96 75 rfl)))); omega, by have q0 := (g_ok_g oF113 14 rfl).1; have q1 := (g_ok_g oF113 14 rfl).2; have q2 := z75.1; have q3 := z75.2; have q4 := (jv_t (F39 70)).1; have q5 := (jv_t (F39 70)).2; have q6 := (jv_t (F39 72)).1; have q7 := (jv_t (F39 72)).2; have q8 := p41.1; have q9 := p41.2; have q10 := p19.1; have q11 := p19.2; have q12 := zpr.1; have q13 := zpr.2; have q14 := p31.1; have q15 := p31.2; have q16 := p91.1; have q17 := p91.2; have q18 := zx12; have q19 := zq72_0; have q20 := zq10; have q21 := zi124_0; have q22 := (gc_le zc30); have q23 := zre; have q24 := zi155_0; have q25 := zi155_1; have q26 := (gc_nle zc42); have q27 := (congrArg Int32.toInt (show F113 75 = F39 75 from (((cF113 75 rfl).trans (cF107 75 rfl)).trans (cF96 75 rfl)))); have q28 := zi185_0; have q29 := (congrArg Int32.toInt (show F113 75 = F39 75 from (((cF113 75 rfl).trans (cF107 75 rfl)).trans (cF96 75 rfl)))); omega⟩
                                  refine g_iload cx 4 rfl e_X11_put_185 ?_
                                  refine g_aload_n cx 0 rfl e_X11_put_187 ?_
                                  refine g_get cx cl_X11 fl_X11_464 0 (.int (F113 75)) e_X11_put_188 rfl rfl ?_
                                  refine g_toi (F39 75) (((cF113 75 rfl).trans (cF107 75 rfl)).trans (cF96 75 rfl)) ?_
                                  refine g_icmp_ge cx 229 e_X11_put_191 (by decide) (fun zc118 => ?_) (fun zc118 => ?_)
                                  · have p119 := gn_ge 2 5 (gc_le zc118) py115 p41 (by decide)
                                    refine g_aload_n cx 0 rfl e_X11_put_229 ?_
                                    refine g_cVvW cx [] [] (w_X11_runs l X ad F113 R116 oF113 oR116 wTR116 wCR116 (WN_of wTR116 ((zx112.trans ((((cF113 4 rfl).trans (cF107 4 rfl)).trans (cF96 4 rfl)).trans (fF39 4 rfl))).trans ((((cF113 4 rfl).trans (cF107 4 rfl)).trans (cF96 4 rfl)).trans (fF39 4 rfl)).symm))) ml_X11_428 yV_X11_runs e_X11_put_230 (by unfold g_rr; decide) (by decide) 0 rfl rfl rfl (Nat.le_of_ble_eq_true rfl) (fun w121 h122 => ?_)
                                    obtain ⟨F123, R124, rfl, oF123, oR124, wTF123, wCF123, cF123, cR124⟩ := h122
                                    have fF123 : g_fr md_X11_put F F123 := g_fr_c fF113 cF123 rfl
                                    have fR124 : g_fr mr_X11_put R R124 := g_fr_c fR116 cR124 rfl
                                    refine g_aload_n cx 0 rfl e_X11_put_233 ?_
                                    refine g_iload cx 3 rfl e_X11_put_234 ?_
                                    refine g_cVvW cx [.int y38] [] (w_X11_better2 l X ad F123 R124 oF123 oR124 wTF123 wCF123 y38) ml_X11_461 yV_X11_better e_X11_put_236 (by unfold g_rr; decide) (by decide) 0 rfl rfl rfl (Nat.le_of_ble_eq_true rfl) (fun w126 h127 => ?_)
                                    obtain ⟨F130, R131, rfl, oF130, oR131, wTF130, wCF130, cF130, cR131, zx128, zx129⟩ := h127
                                    have fF130 : g_fr md_X11_put F F130 := g_fr_c fF123 cF130 rfl
                                    have fR131 : g_fr mr_X11_put R R131 := g_fr_c fR124 cR131 rfl
                                    refine g_lsub [0, 1, 2, 3] [(0, .ref (ad 0)), (2, .int a1), (4, .int y28), (5, .int y38)] rfl ?_
                                    exact J239 F130 R131 oF130 fF130 oR131 fR131 wTF130 wCF130 (by have q0 := p117.1; have q1 := p117.2; have q2 := (jv_t (F123 70)).1; have q3 := (jv_t (F123 70)).2; have q4 := (jv_t (F123 72)).1; have q5 := (jv_t (F123 72)).2; have q6 := (jv_t (F130 70)).1; have q7 := (jv_t (F130 70)).2; have q8 := (jv_t (F130 72)).1; have q9 := (jv_t (F130 72)).2; have q10 := (g_ok_g oF130 14 rfl).1; have q11 := (g_ok_g oF130 14 rfl).2; have q12 := z75.1; have q13 := z75.2; have q14 := (jv_t (F39 70)).1; have q15 := (jv_t (F39 70)).2; have q16 := (jv_t (F39 72)).1; have q17 := (jv_t (F39 72)).2; have q18 := p41.1; have q19 := p41.2; have q20 := p19.1; have q21 := p19.2; have q22 := p119.1; have q23 := p119.2; have q24 := zpr.1; have q25 := zpr.2; have q26 := p31.1; have q27 := p31.2; have q28 := p91.1; have q29 := p91.2; have q30 := zx12; have q31 := zq72_0; have q32 := zq10; have q33 := zi124_0; have q34 := (gc_le zc30); have q35 := zre; have q36 := zi155_0; have q37 := zi155_1; have q38 := (gc_nle zc42); have q39 := (congrArg Int32.toInt (show F113 75 = F39 75 from (((cF113 75 rfl).trans (cF107 75 rfl)).trans (cF96 75 rfl)))); have q40 := zi185_0; have q41 := (congrArg Int32.toInt (show F113 75 = F39 75 from (((cF113 75 rfl).trans (cF107 75 rfl)).trans (cF96 75 rfl)))); have q42 := (gc_le zc118); have q43 := zx128; have q44 := (congrArg Int32.toInt (show F123 70 = F39 70 from ((((cF123 70 rfl).trans (cF113 70 rfl)).trans (cF107 70 rfl)).trans (cF96 70 rfl)))); have q45 := (congrArg Int32.toInt (show F123 72 = F39 72 from ((((cF123 72 rfl).trans (cF113 72 rfl)).trans (cF107 72 rfl)).trans (cF96 72 rfl)))); have q46 := zx129; have q47 := (congrArg Int32.toInt (show F130 75 = F39 75 from (((((cF130 75 rfl).trans (cF123 75 rfl)).trans (cF113 75 rfl)).trans (cF107 75 rfl)).trans (cF96 75 rfl)))); omega) (by have q0 := p117.1; have q1 := p117.2; have q2 := (jv_t (F123 70)).1; have q3 := (jv_t (F123 70)).2; have q4 := (jv_t (F123 72)).1; have q5 := (jv_t (F123 72)).2; have q6 := (jv_t (F130 70)).1; have q7 := (jv_t (F130 70)).2; have q8 := (jv_t (F130 72)).1; have q9 := (jv_t (F130 72)).2; have q10 := (g_ok_g oF130 14 rfl).1; have q11 := (g_ok_g oF130 14 rfl).2; have q12 := z75.1; have q13 := z75.2; have q14 := (jv_t (F39 70)).1; have q15 := (jv_t (F39 70)).2; have q16 := (jv_t (F39 72)).1; have q17 := (jv_t (F39 72)).2; have q18 := p41.1; have q19 := p41.2; have q20 := p19.1; have q21 := p19.2; have q22 := p119.1; have q23 := p119.2; have q24 := zpr.1; have q25 := zpr.2; have q26 := p31.1; have q27 := p31.2; have q28 := p91.1; have q29 := p91.2; have q30 := zx12; have q31 := zq72_0; have q32 := zq10; have q33 := zi124_0; have q34 := (gc_le zc30); have q35 := zre; have q36 := zi155_0; have q37 := zi155_1; have q38 := (gc_nle zc42); have q39 := (congrArg Int32.toInt (show F113 75 = F39 75 from (((cF113 75 rfl).trans (cF107 75 rfl)).trans (cF96 75 rfl)))); have q40 := zi185_0; have q41 := (congrArg Int32.toInt (show F113 75 = F39 75 from (((cF113 75 rfl).trans (cF107 75 rfl)).trans (cF96 75 rfl)))); have q42 := (gc_le zc118); have q43 := zx128; have q44 := (congrArg Int32.toInt (show F123 70 = F39 70 from ((((cF123 70 rfl).trans (cF113 70 rfl)).trans (cF107 70 rfl)).trans (cF96 70 rfl)))); have q45 := (congrArg Int32.toInt (show F123 72 = F39 72 from ((((cF123 72 rfl).trans (cF113 72 rfl)).trans (cF107 72 rfl)).trans (cF96 72 rfl)))); have q46 := zx129; have q47 := (congrArg Int32.toInt (show F130 75 = F39 75 from (((((cF130 75 rfl).trans (cF123 75 rfl)).trans (cF113 75 rfl)).trans (cF107 75 rfl)).trans (cF96 75 rfl)))); omega)
                                  · have p132 := gn_lt 0 4 (gc_nle zc118) py115 p41 (by decide)
                                    refine g_aload_n cx 0 rfl e_X11_put_194 ?_
                                    refine g_get cx cl_X11 fl_X11_86 0 (.ref (ad 26)) e_X11_put_195 rfl rfl ?_
                                    refine g_aload_n cx 0 rfl e_X11_put_198 ?_
                                    refine g_get cx cl_X11 fl_X11_122 0 (.ref (ad 38)) e_X11_put_199 rfl rfl ?_
                                    refine g_iload cx 4 rfl e_X11_put_202 ?_
                                    refine g_iald cx 38 e_X11_put_204 rfl (jv_ix 5 p132 (by decide)) ?_
                                    refine g_topi (fun x133 ex133 => ?_)
                                    have p134 : jv 0 9 x133 := by rw [ex133]; exact g_okR_g oR116 4 rfl (jv_cl 5 p132 (by decide))
                                    refine g_aload_n cx 0 rfl e_X11_put_205 ?_
                                    refine g_get cx cl_X11 fl_X11_13 0 (.ref (ad 2)) e_X11_put_206 rfl rfl ?_
                                    refine g_aload_n cx 0 rfl e_X11_put_209 ?_
                                    refine g_get cx cl_X11 fl_X11_122 0 (.ref (ad 38)) e_X11_put_210 rfl rfl ?_
                                    refine g_aload_n cx 0 rfl e_X11_put_213 ?_
                                    refine g_get cx cl_X11 fl_X11_125 0 (.ref (ad 39)) e_X11_put_214 rfl rfl ?_
                                    refine g_iload cx 4 rfl e_X11_put_217 ?_
                                    refine g_iald cx 39 e_X11_put_219 rfl (jv_ix 5 p132 (by decide)) ?_
                                    refine g_topi (fun x135 ex135 => ?_)
                                    have p136 : jv 0 4 x135 := by rw [ex135]; exact g_okR_g oR116 5 rfl (jv_cl 5 p132 (by decide))
                                    refine g_iald cx 38 e_X11_put_220 rfl (jv_ix 5 p136 (by decide)) ?_
                                    refine g_topi (fun x137 ex137 => ?_)
                                    have p138 : jv 0 9 x137 := by rw [ex137]; exact g_okR_g oR116 4 rfl (jv_cl 5 p136 (by decide))
                                    refine g_iald cx 2 e_X11_put_221 rfl (jv_ix 10 p138 (by decide)) ?_
                                    refine g_topi (fun x139 ex139 => ?_)
                                    refine g_iast cx 26 (wM X ad F113 (g_u R116 26 (upd (R116 26) (Int32.toNatClampNeg x133) x139))) e_X11_put_222 rfl (jv_ix 10 p134 (by decide)) rfl ?_
                                    obtain ⟨R140, hR140⟩ : ∃ z, z = g_u R116 26 (upd (R116 26) (Int32.toNatClampNeg x133) x139) := ⟨_, rfl⟩
                                    rw [← hR140]
                                    have oR140 : g_okR LA_wM R140 := by rw [hR140]; exact g_okR_u oR116 rfl
                                    have fR140 : g_fr mr_X11_put R R140 := by rw [hR140]; exact g_fr_r fR116 rfl
                                    have wTR140 : WT F113 R140 := by rw [hR140]; exact WT_r wTR116 rfl
                                    have wCR140 : WC F113 R140 := by rw [hR140]; exact WC_r wCR116 rfl
                                    obtain ⟨x141, ex141⟩ : ∃ z : Int32, z = y115 + Int32.ofInt 1 := ⟨_, rfl⟩
                                    refine g_iinc cx x141 [(6, .int x141), (0, .ref (ad 0)), (2, .int a1), (4, .int y28), (5, .int y38)] 4 e_X11_put_223 rfl ex141.symm (by decide) rfl ?_
                                    have zx141 := jv_add 1 5 (show x141 = y115 + 1 from ex141) p132 (jv_k (x := 1) 1 (by decide)) (by decide)
                                    refine g_goto cx 185 e_X11_put_226 (by decide) ?_
                                    refine g_lsub [1, 2, 3, 4, 0] [(0, .ref (ad 0)), (2, .int a1), (4, .int y28), (5, .int y38), (6, .int x141)] rfl ?_
                                    exact ih185 R140 x141 oR140 fR140 wTR140 wCR140 (jv_w zx141.2 (by decide)) (by have q0 := (jv_k (x := 1) 1 (by decide)).1; have q1 := (jv_k (x := 1) 1 (by decide)).2; have q2 := p117.1; have q3 := p117.2; have q4 := z75.1; have q5 := z75.2; have q6 := (jv_t (F39 70)).1; have q7 := (jv_t (F39 70)).2; have q8 := (jv_t (F39 72)).1; have q9 := (jv_t (F39 72)).2; have q10 := p41.1; have q11 := p41.2; have q12 := p19.1; have q13 := p19.2; have q14 := zx141.2.1; have q15 := zx141.2.2; have q16 := p132.1; have q17 := p132.2; have q18 := zpr.1; have q19 := zpr.2; have q20 := p31.1; have q21 := p31.2; have q22 := p91.1; have q23 := p91.2; have q24 := zx12; have q25 := zq72_0; have q26 := zq10; have q27 := zi124_0; have q28 := (gc_le zc30); have q29 := zre; have q30 := zi155_0; have q31 := zi155_1; have q32 := (gc_nle zc42); have q33 := (congrArg Int32.toInt (show F113 75 = F39 75 from (((cF113 75 rfl).trans (cF107 75 rfl)).trans (cF96 75 rfl)))); have q34 := zi185_0; have q35 := (congrArg Int32.toInt (show F113 75 = F39 75 from (((cF113 75 rfl).trans (cF107 75 rfl)).trans (cF96 75 rfl)))); have q36 := (gc_nle zc118); have q37 := (g_eq0 zx141.1); have q38 := (congrArg Int32.toInt (show F113 75 = F39 75 from (((cF113 75 rfl).trans (cF107 75 rfl)).trans (cF96 75 rfl)))); omega) (Nat.lt_of_lt_of_le (show (2147483647 - x141.toInt).toNat < (2147483647 - y115.toInt).toNat from by have q0 := (jv_k (x := 1) 1 (by decide)).1; have q1 := (jv_k (x := 1) 1 (by decide)).2; have q2 := p117.1; have q3 := p117.2; have q4 := z75.1; have q5 := z75.2; have q6 := (jv_t (F39 70)).1; have q7 := (jv_t (F39 70)).2; have q8 := (jv_t (F39 72)).1; have q9 := (jv_t (F39 72)).2; have q10 := p41.1; have q11 := p41.2; have q12 := p19.1; have q13 := p19.2; have q14 := zx141.2.1; have q15 := zx141.2.2; have q16 := p132.1; have q17 := p132.2; have q18 := zpr.1; have q19 := zpr.2; have q20 := p31.1; have q21 := p31.2; have q22 := p91.1; have q23 := p91.2; have q24 := zx12; have q25 := zq72_0; have q26 := zq10; have q27 := zi124_0; have q28 := (gc_le zc30); have q29 := zre; have q30 := zi155_0; have q31 := zi155_1; have q32 := (gc_nle zc42); have q33 := (congrArg Int32.toInt (show F113 75 = F39 75 from (((cF113 75 rfl).trans (cF107 75 rfl)).trans (cF96 75 rfl)))); have q34 := zi185_0; have q35 := (congrArg Int32.toInt (show F113 75 = F39 75 from (((cF113 75 rfl).trans (cF107 75 rfl)).trans (cF96 75 rfl)))); have q36 := (gc_nle zc118); have q37 := (g_eq0 zx141.1); have q38 := (congrArg Int32.toInt (show F113 75 = F39 75 from (((cF113 75 rfl).trans (cF107 75 rfl)).trans (cF96 75 rfl)))); omega) (Nat.le_of_lt_succ hm185))
                              refine g_lsub [1, 2, 3, 4, 0] [(0, .ref (ad 0)), (2, .int a1), (4, .int y28), (5, .int y38), (6, .int 0)] rfl ?_
                              exact J185 _ R114 0 oR114 fR114 wTF113 wCF113 (jv_w (jv_k (x := 0) 0 (by decide)) (by decide)) (by have q0 := (g_ok_g oF113 14 rfl).1; have q1 := (g_ok_g oF113 14 rfl).2; have q2 := z75.1; have q3 := z75.2; have q4 := (jv_t (F39 70)).1; have q5 := (jv_t (F39 70)).2; have q6 := (jv_t (F39 72)).1; have q7 := (jv_t (F39 72)).2; have q8 := p41.1; have q9 := p41.2; have q10 := p19.1; have q11 := p19.2; have q12 := zpr.1; have q13 := zpr.2; have q14 := p31.1; have q15 := p31.2; have q16 := p91.1; have q17 := p91.2; have q18 := zx12; have q19 := zq72_0; have q20 := zq10; have q21 := zi124_0; have q22 := (gc_le zc30); have q23 := zre; have q24 := zi155_0; have q25 := zi155_1; have q26 := (gc_nle zc42); have q27 := (congrArg Int32.toInt (show F113 75 = F39 75 from (((cF113 75 rfl).trans (cF107 75 rfl)).trans (cF96 75 rfl)))); omega) (Nat.lt_succ_self _)
                            · have p142 := gn_eq 0 0 (gc_eq zc102) pr92 (jv_k (x := 0) 0 (by decide)) (by decide)
                              have zs143 := g_specn (zx95 zc102)
                              refine g_goto cx 239 e_X11_put_171 (by decide) ?_
                              exact J239 F96 R97 oF96 fF96 oR97 fR97 wTF96 wCF96 (by have q0 := z75.1; have q1 := z75.2; have q2 := (jv_t (F39 70)).1; have q3 := (jv_t (F39 70)).2; have q4 := (jv_t (F39 72)).1; have q5 := (jv_t (F39 72)).2; have q6 := p41.1; have q7 := p41.2; have q8 := (jv_t (F96 70)).1; have q9 := (jv_t (F96 70)).2; have q10 := (jv_t (F96 72)).1; have q11 := (jv_t (F96 72)).2; have q12 := (g_ok_g oF96 14 rfl).1; have q13 := (g_ok_g oF96 14 rfl).2; have q14 := p19.1; have q15 := p19.2; have q16 := zpr.1; have q17 := zpr.2; have q18 := p31.1; have q19 := p31.2; have q20 := p91.1; have q21 := p91.2; have q22 := zx12; have q23 := zq72_0; have q24 := zq10; have q25 := zi124_0; have q26 := (gc_le zc30); have q27 := zre; have q28 := zi155_0; have q29 := zi155_1; have q30 := (gc_nle zc42); have q31 := zs143; have q32 := (congrArg Int32.toInt (show F96 75 = F39 75 from (cF96 75 rfl))); have q33 := (congrArg Int32.toInt (show F96 72 = F39 72 from (cF96 72 rfl))); have q34 := (congrArg Int32.toInt (show F96 70 = F39 70 from (cF96 70 rfl))); omega) (by have q0 := z75.1; have q1 := z75.2; have q2 := (jv_t (F39 70)).1; have q3 := (jv_t (F39 70)).2; have q4 := (jv_t (F39 72)).1; have q5 := (jv_t (F39 72)).2; have q6 := p41.1; have q7 := p41.2; have q8 := (jv_t (F96 70)).1; have q9 := (jv_t (F96 70)).2; have q10 := (jv_t (F96 72)).1; have q11 := (jv_t (F96 72)).2; have q12 := (g_ok_g oF96 14 rfl).1; have q13 := (g_ok_g oF96 14 rfl).2; have q14 := p19.1; have q15 := p19.2; have q16 := zpr.1; have q17 := zpr.2; have q18 := p31.1; have q19 := p31.2; have q20 := p91.1; have q21 := p91.2; have q22 := zx12; have q23 := zq72_0; have q24 := zq10; have q25 := zi124_0; have q26 := (gc_le zc30); have q27 := zre; have q28 := zi155_0; have q29 := zi155_1; have q30 := (gc_nle zc42); have q31 := zs143; have q32 := (congrArg Int32.toInt (show F96 75 = F39 75 from (cF96 75 rfl))); have q33 := (congrArg Int32.toInt (show F96 72 = F39 72 from (cF96 72 rfl))); have q34 := (congrArg Int32.toInt (show F96 70 = F39 70 from (cF96 70 rfl))); omega)
                      refine g_lsub [1, 2, 3, 0] [(0, .ref (ad 0)), (2, .int a1), (4, .int y28), (5, .int 0)] rfl ?_
                      exact J155 _ F36 R37 0 oF36 fF36 oR37 fR37 wTF36 wCF36 (jv_w (jv_k (x := 0) 0 (by decide)) (by decide)) (by have q0 := z75.1; have q1 := z75.2; have q2 := (g_ok_g oF36 14 rfl).1; have q3 := (g_ok_g oF36 14 rfl).2; have q4 := p19.1; have q5 := p19.2; have q6 := zpr.1; have q7 := zpr.2; have q8 := p31.1; have q9 := p31.2; have q10 := zx12; have q11 := zq72_0; have q12 := zq10; have q13 := zi124_0; have q14 := (gc_le zc30); have q15 := zre; have q16 := (congrArg Int32.toInt (show F36 75 = F24 75 from (cF36 75 rfl))); omega) (by have q0 := (jv_k (x := 0) 0 (by decide)).1; have q1 := (jv_k (x := 0) 0 (by decide)).2; have q2 := z75.1; have q3 := z75.2; have q4 := (jv_t (F36 70)).1; have q5 := (jv_t (F36 70)).2; have q6 := (jv_t (F36 72)).1; have q7 := (jv_t (F36 72)).2; have q8 := (g_ok_g oF36 14 rfl).1; have q9 := (g_ok_g oF36 14 rfl).2; have q10 := p18.1; have q11 := p18.2; have q12 := p19.1; have q13 := p19.2; have q14 := p8.1; have q15 := p8.2; have q16 := zpr.1; have q17 := zpr.2; have q18 := p31.1; have q19 := p31.2; have q20 := p21.1; have q21 := p21.2; have q22 := (gc_eq zc7); have q23 := zx12; have q24 := (gc_ne zc16); have q25 := (gc_ne zc20); have q26 := zq72_0; have q27 := zq10; have q28 := zi124_0; have q29 := (gc_le zc30); have q30 := zre; have q31 := zx35; have q32 := (congrArg Int32.toInt (show F36 75 = F24 75 from (cF36 75 rfl))); omega) (Nat.lt_succ_self _)
                    · have p144 := gn_lt 0 4 (gc_nle zc30) py29 z75 (by decide)
                      have zpb := g_pw_b (n := (F24 75).toInt) ⟨z75.1, z75.2⟩ (y29 : Int32).toInt.toNat (by have q0 := z75.1; have q1 := z75.2; have q2 := p19.1; have q3 := p19.2; have q4 := p144.1; have q5 := p144.2; have q6 := zx12; have q7 := zq72_0; have q8 := zq10; have q9 := zi124_0; have q10 := (gc_nle zc30); omega)
                      have zpr : jv 1 3125 y28 := by have q := zq124_0; unfold jv; omega
                      refine g_iload cx 2 rfl e_X11_put_133 ?_
                      refine g_aload_n cx 0 rfl e_X11_put_135 ?_
                      refine g_get cx cl_X11 fl_X11_464 0 (.int (F24 75)) e_X11_put_136 rfl rfl ?_
                      refine g_imul cx e_X11_put_139 ?_
                      refine g_topi (fun x145 ex145 => ?_)
                      have zx145 := jv_mul 2 15625 ex145 zpr z75 (by decide)
                      refine g_istore cx [(4, .int x145), (0, .ref (ad 0)), (2, .int a1), (5, .int y29)] e_X11_put_140 (by decide) rfl ?_
                      obtain ⟨x146, ex146⟩ : ∃ z : Int32, z = y29 + Int32.ofInt 1 := ⟨_, rfl⟩
                      refine g_iinc cx x146 [(5, .int x146), (4, .int x145), (0, .ref (ad 0)), (2, .int a1)] 3 e_X11_put_142 rfl ex146.symm (by decide) rfl ?_
                      have zx146 := jv_add 1 5 (show x146 = y29 + 1 from ex146) p144 (jv_k (x := 1) 1 (by decide)) (by decide)
                      refine g_goto cx 124 e_X11_put_145 (by decide) ?_
                      refine g_lsub [2, 3, 1, 0] [(0, .ref (ad 0)), (2, .int a1), (4, .int x145), (5, .int x146)] rfl ?_
                      exact ih124 x145 x146 (jv_w zx145.2 (by decide)) (jv_w zx146.2 (by decide)) (by have q0 := (jv_k (x := 1) 1 (by decide)).1; have q1 := (jv_k (x := 1) 1 (by decide)).2; have q2 := z75.1; have q3 := z75.2; have q4 := p19.1; have q5 := p19.2; have q6 := zx146.2.1; have q7 := zx146.2.2; have q8 := p144.1; have q9 := p144.2; have q10 := zx12; have q11 := zq72_0; have q12 := zq10; have q13 := zi124_0; have q14 := (gc_nle zc30); have q15 := (g_eq0 zx146.1); omega) (((g_eq0 zx145.1).trans (g_pw_s p144 (g_eq0 zx146.1) zq124_0))) (Nat.lt_of_lt_of_le (show (2147483647 - x146.toInt).toNat < (2147483647 - y29.toInt).toNat from by have q0 := (jv_k (x := 1) 1 (by decide)).1; have q1 := (jv_k (x := 1) 1 (by decide)).2; have q2 := z75.1; have q3 := z75.2; have q4 := p19.1; have q5 := p19.2; have q6 := zx146.2.1; have q7 := zx146.2.2; have q8 := p144.1; have q9 := p144.2; have q10 := zx12; have q11 := zq72_0; have q12 := zq10; have q13 := zi124_0; have q14 := (gc_nle zc30); have q15 := (g_eq0 zx146.1); omega) (Nat.le_of_lt_succ hm124))
                refine g_lsub [2, 4, 1, 0] [(0, .ref (ad 0)), (2, .int a1), (4, .int 1), (5, .int 0)] rfl ?_
                exact J124 _ 1 0 (jv_w (jv_k (x := 1) 1 (by decide)) (by decide)) (jv_w (jv_k (x := 0) 0 (by decide)) (by decide)) (by have q0 := (jv_k (x := 0) 0 (by decide)).1; have q1 := (jv_k (x := 0) 0 (by decide)).2; have q2 := z75.1; have q3 := z75.2; have q4 := p18.1; have q5 := p18.2; have q6 := p19.1; have q7 := p19.2; have q8 := p8.1; have q9 := p8.2; have q10 := p21.1; have q11 := p21.2; have q12 := (gc_eq zc7); have q13 := zx12; have q14 := (gc_ne zc16); have q15 := (gc_ne zc20); have q16 := zq72_0; have q17 := zq10; omega) (rfl) (Nat.lt_succ_self _)
              · have p147 := gn_lt 0 9 (gc_nle zc26) py23 (jv_k (x := 10) 10 (by decide)) (by decide)
                refine g_iload_n cx 1 rfl e_X11_put_79 ?_
                refine g_iload cx 3 rfl e_X11_put_80 ?_
                refine g_cSiW cx [.int a0, .int y23] [] (c_X11_has l X (wM X ad F24 R25) a0 y23) ml_X11_175 yS_X11_has rfl e_X11_put_82 (by unfold g_rr; decide) (by decide) rfl (Nat.le_of_ble_eq_true rfl) (fun r148 w149 h150 => ?_)
                obtain ⟨rfl, hr148⟩ := h150
                have pr148 : jv 0 1 r148 := by rcases hr148 with q | q <;> rw [q.1] <;> exact ⟨by decide, by decide⟩
                have J112 : ∀ (F151 : Nat → Int32) (R152 : Nat → Nat → Int32), (g_ok LK_wM F151) → (g_fr md_X11_put F F151) → (g_okR LA_wM R152) → (g_fr mr_X11_put R R152) → (WT F151 R152) → (WC F151 R152) → ((F151 75).toInt = g_bits a0 ((y23 : Int32).toInt.toNat + 1)) → G X E 7 0 0 (wM X ad F151 R152) [(0, .ref (ad 0)), (1, .int a0), (2, .int a1), (4, .int y23)] 112 [] := by
                  intro F151 R152 oF151 fF151 oR152 fR152 wTF151R152 wCF151R152 zq112_0
                  obtain ⟨x153, ex153⟩ : ∃ z : Int32, z = y23 + Int32.ofInt 1 := ⟨_, rfl⟩
                  refine g_iinc cx x153 [(4, .int x153), (0, .ref (ad 0)), (1, .int a0), (2, .int a1)] 3 e_X11_put_112 rfl ex153.symm (by decide) rfl ?_
                  have zx153 := jv_add 1 10 (show x153 = y23 + 1 from ex153) p147 (jv_k (x := 1) 1 (by decide)) (by decide)
                  refine g_goto cx 72 e_X11_put_115 (by decide) ?_
                  refine g_lsub [1, 2, 3, 0] [(0, .ref (ad 0)), (1, .int a0), (2, .int a1), (4, .int x153)] rfl ?_
                  exact ih72 F151 R152 x153 oF151 fF151 oR152 fR152 wTF151R152 wCF151R152 (jv_w zx153.2 (by decide)) ((by rw [show (x153 : Int32).toInt.toNat = (y23 : Int32).toInt.toNat + 1 from by have q0 := (jv_k (x := 1) 1 (by decide)).1; have q1 := (jv_k (x := 1) 1 (by decide)).2; have q2 := (jv_k (x := 10) 10 (by decide)).1; have q3 := (jv_k (x := 10) 10 (by decide)).2; have q4 := zx153.2.1; have q5 := zx153.2.2; have q6 := p147.1; have q7 := p147.2; have q8 := (gc_nle zc26); have q9 := (g_eq0 zx153.1); omega]; exact zq112_0)) (Nat.lt_of_lt_of_le (show (2147483647 - x153.toInt).toNat < (2147483647 - y23.toInt).toNat from by have q0 := (jv_k (x := 1) 1 (by decide)).1; have q1 := (jv_k (x := 1) 1 (by decide)).2; have q2 := (jv_k (x := 10) 10 (by decide)).1; have q3 := (jv_k (x := 10) 10 (by decide)).2; have q4 := zx153.2.1; have q5 := zx153.2.2; have q6 := p147.1; have q7 := p147.2; have q8 := (gc_nle zc26); have q9 := (g_eq0 zx153.1); omega) (Nat.le_of_lt_succ hm72))
                refine g_if_ne cx 91 e_X11_put_85 (by decide) (fun zc154 => ?_) (fun zc154 => ?_)
                · have p155 := gn_neL 1 1 (gc_ne zc154) pr148 (jv_k (x := 0) 0 (by decide)) (by decide)
                  have zb156 : hb a0 y23 := g_hasy hr148 zc154
                  have zy157 := g_bits_y (x := a0) p147 zb156
                  have zm158 := g_bits_m a0 (a := (y23 : Int32).toInt.toNat + 1) (b := 10) (by have q0 := (jv_k (x := 10) 10 (by decide)).1; have q1 := (jv_k (x := 10) 10 (by decide)).2; have q2 := p147.1; have q3 := p147.2; have q4 := (gc_nle zc26); omega)
                  refine g_aload_n cx 0 rfl e_X11_put_91 ?_
                  refine g_get cx cl_X11 fl_X11_122 0 (.ref (ad 38)) e_X11_put_92 rfl rfl ?_
                  refine g_aload_n cx 0 rfl e_X11_put_95 ?_
                  refine g_get cx cl_X11 fl_X11_464 0 (.int (F24 75)) e_X11_put_96 rfl rfl ?_
                  refine g_iload cx 3 rfl e_X11_put_99 ?_
                  refine g_iast cx 38 (wM X ad F24 (g_u R25 38 (upd (R25 38) (Int32.toNatClampNeg (F24 75)) y23))) e_X11_put_101 rfl (vp_in_iff.mpr ⟨by have q0 := (jv_k (x := 10) 10 (by decide)).1; have q1 := (jv_k (x := 10) 10 (by decide)).2; have q2 := (g_ok_g oF24 14 rfl).1; have q3 := (g_ok_g oF24 14 rfl).2; have q4 := p19.1; have q5 := p19.2; have q6 := p147.1; have q7 := p147.2; have q8 := zx12; have q9 := zq72_0; have q10 := (gc_nle zc26); have q11 := zy157; have q12 := zm158; omega, by have q0 := (jv_k (x := 10) 10 (by decide)).1; have q1 := (jv_k (x := 10) 10 (by decide)).2; have q2 := (g_ok_g oF24 14 rfl).1; have q3 := (g_ok_g oF24 14 rfl).2; have q4 := p19.1; have q5 := p19.2; have q6 := p147.1; have q7 := p147.2; have q8 := zx12; have q9 := zq72_0; have q10 := (gc_nle zc26); have q11 := zy157; have q12 := zm158; omega⟩) rfl ?_
                  obtain ⟨R159, hR159⟩ : ∃ z, z = g_u R25 38 (upd (R25 38) (Int32.toNatClampNeg (F24 75)) y23) := ⟨_, rfl⟩
                  rw [← hR159]
                  have oR159 : g_okR LA_wM R159 := by rw [hR159]; exact g_okR_p oR25 p147 rfl
                  have fR159 : g_fr mr_X11_put R R159 := by rw [hR159]; exact g_fr_r fR25 rfl
                  have wTR159 : WT F24 R159 := by rw [hR159]; exact WT_r wTF24R25 rfl
                  have wCR159 : WC F24 R159 := by rw [hR159]; exact WC_r wCF24R25 rfl
                  refine g_aload_n cx 0 rfl e_X11_put_102 ?_
                  refine g_aload_n cx 0 rfl e_X11_put_103 ?_
                  refine g_get cx cl_X11 fl_X11_464 0 (.int (F24 75)) e_X11_put_104 rfl rfl ?_
                  refine g_iconst cx 1 (by decide) e_X11_put_107 ?_
                  refine g_iadd cx e_X11_put_108 ?_
                  refine g_topi (fun x160 ex160 => ?_)
                  have zx160 := jv_add 1 6 ex160 (g_ok_g oF24 14 rfl) (jv_k (x := 1) 1 (by decide)) (by decide)
                  refine g_put cx cl_X11 fl_X11_464 0 (wM X ad (upd F24 75 x160) R159) e_X11_put_109 rfl rfl rfl rfl (Nat.le_of_ble_eq_true rfl) rfl ?_
                  obtain ⟨F161, hF161⟩ : ∃ z, z = upd F24 75 x160 := ⟨_, rfl⟩
                  rw [← hF161]
                  have oF161 : g_ok LK_wM F161 := by rw [hF161]; exact g_ok_p oF24 (show jv 0 5 _ from ⟨by have q0 := (jv_k (x := 1) 1 (by decide)).1; have q1 := (jv_k (x := 1) 1 (by decide)).2; have q2 := (jv_k (x := 10) 10 (by decide)).1; have q3 := (jv_k (x := 10) 10 (by decide)).2; have q4 := (g_ok_g oF24 14 rfl).1; have q5 := (g_ok_g oF24 14 rfl).2; have q6 := p19.1; have q7 := p19.2; have q8 := zx160.2.1; have q9 := zx160.2.2; have q10 := p147.1; have q11 := p147.2; have q12 := zx12; have q13 := zq72_0; have q14 := (gc_nle zc26); have q15 := zy157; have q16 := zm158; have q17 := (g_eq0 zx160.1); omega, by have q0 := (jv_k (x := 1) 1 (by decide)).1; have q1 := (jv_k (x := 1) 1 (by decide)).2; have q2 := (jv_k (x := 10) 10 (by decide)).1; have q3 := (jv_k (x := 10) 10 (by decide)).2; have q4 := (g_ok_g oF24 14 rfl).1; have q5 := (g_ok_g oF24 14 rfl).2; have q6 := p19.1; have q7 := p19.2; have q8 := zx160.2.1; have q9 := zx160.2.2; have q10 := p147.1; have q11 := p147.2; have q12 := zx12; have q13 := zq72_0; have q14 := (gc_nle zc26); have q15 := zy157; have q16 := zm158; have q17 := (g_eq0 zx160.1); omega⟩) rfl
                  have fF161 : g_fr md_X11_put F F161 := by rw [hF161]; exact g_fr_u fF24 rfl
                  have wTF161 : WT F161 R159 := by rw [hF161]; exact WT_u wTR159 rfl
                  have wCF161 : WC F161 R159 := by rw [hF161]; exact WC_u wCR159 rfl
                  exact J112 F161 R159 oF161 fF161 oR159 fR159 wTF161 wCF161 (by have q0 := (jv_k (x := 1) 1 (by decide)).1; have q1 := (jv_k (x := 1) 1 (by decide)).2; have q2 := (jv_k (x := 10) 10 (by decide)).1; have q3 := (jv_k (x := 10) 10 (by decide)).2; have q4 := (g_ok_g oF161 14 rfl).1; have q5 := (g_ok_g oF161 14 rfl).2; have q6 := (g_ok_g oF24 14 rfl).1; have q7 := (g_ok_g oF24 14 rfl).2; have q8 := p19.1; have q9 := p19.2; have q10 := zx160.2.1; have q11 := zx160.2.2; have q12 := p147.1; have q13 := p147.2; have q14 := zx12; have q15 := zq72_0; have q16 := (gc_nle zc26); have q17 := zy157; have q18 := zm158; have q19 := (g_eq0 zx160.1); have q20 := (congrArg Int32.toInt (show F161 75 = x160 from (g_pu1 hF161))); omega)
                · have p162 := gn_eq 0 0 (gc_eq zc154) pr148 (jv_k (x := 0) 0 (by decide)) (by decide)
                  have zy163 := g_bits_n (x := a0) p147 (g_hasn hr148 zc154)
                  refine g_goto cx 112 e_X11_put_88 (by decide) ?_
                  exact J112 F24 R25 oF24 fF24 oR25 fR25 wTF24R25 wCF24R25 (by have q0 := (jv_k (x := 10) 10 (by decide)).1; have q1 := (jv_k (x := 10) 10 (by decide)).2; have q2 := (g_ok_g oF24 14 rfl).1; have q3 := (g_ok_g oF24 14 rfl).2; have q4 := p147.1; have q5 := p147.2; have q6 := zq72_0; have q7 := (gc_nle zc26); have q8 := zy163; omega)
          refine g_lsub [2, 3, 4, 0] [(0, .ref (ad 0)), (1, .int a0), (2, .int a1), (4, .int 0)] rfl ?_
          exact J72 _ F22 R 0 oF22 fF22 hA (g_fr_rf R) wTF22 wCF22 (jv_w (jv_k (x := 0) 0 (by decide)) (by decide)) ((congrArg Int32.toInt (show F22 75 = 0 from (g_pu1 hF22)))) (Nat.lt_succ_self _)
        · have p164 := gn_eq 0 0 (gc_eq zc20) py4 (jv_k (x := 0) 0 (by decide)) (by decide)
          refine g_lsub [] [] rfl ?_
          exact J62  
  have J29 : G X E 7 0 0 (wM X ad F R) [(0, .ref (ad 0)), (1, .int a0), (2, .int a1)] 29 [] := by
    refine g_iconst cx 1 (by decide) e_X11_put_29 ?_
    refine g_goto cx 34 e_X11_put_30 (by decide) ?_
    exact J34 1 (jv_w (jv_k (x := 1) 1 (by decide)) (by decide))
  refine g_if_ne cx 29 e_X11_put_8 (by decide) (fun zc165 => ?_) (fun zc165 => ?_)
  · have p166 := gn_neL 1 1 (gc_ne zc165) pr1 (jv_k (x := 0) 0 (by decide)) (by decide)
    have p167 := jv_i 10 12 (jv_t a1) (gi_in (A := 10) (B := 12) hr1 zc165 (by decide) (by decide)) (by decide)
    exact J29  
  · have p168 := gn_eq 0 0 (gc_eq zc165) pr1 (jv_k (x := 0) 0 (by decide)) (by decide)
    refine g_iload_n cx 2 rfl e_X11_put_11 ?_
    refine g_iconst cx 0 (by decide) e_X11_put_12 ?_
    refine g_bipush cx 9 (by decide) e_X11_put_13 ?_
    refine g_cSiW cx [.int a1, .int 0, .int 9] [] (c_X11_in l X (wM X ad F R) a1 0 9) ml_X11_165 yS_X11_in rfl e_X11_put_15 (by unfold g_rr; decide) (by decide) rfl (Nat.le_of_ble_eq_true rfl) (fun r169 w170 h171 => ?_)
    obtain ⟨rfl, hr169⟩ := h171
    have pr169 : jv 0 1 r169 := by rw [hr169]; exact gi_01 _ _ _
    have J33 : G X E 7 0 0 (wM X ad F R) [(0, .ref (ad 0)), (1, .int a0), (2, .int a1)] 33 [] := by
      refine g_iconst cx 0 (by decide) e_X11_put_33 ?_
      exact J34 0 (jv_w (jv_k (x := 0) 0 (by decide)) (by decide))
    refine g_if_eq cx 33 e_X11_put_18 (by decide) (fun zc172 => ?_) (fun zc172 => ?_)
    · have p173 := gn_eq 0 0 (gc_eq zc172) pr169 (jv_k (x := 0) 0 (by decide)) (by decide)
      exact J33  
    · have p174 := gn_neL 1 1 (gc_ne zc172) pr169 (jv_k (x := 0) 0 (by decide)) (by decide)
      have p175 := jv_i 0 9 (jv_t a1) (gi_in (A := 0) (B := 9) hr169 zc172 (by decide) (by decide)) (by decide)
      refine g_iload_n cx 1 rfl e_X11_put_21 ?_
      refine g_iload_n cx 2 rfl e_X11_put_22 ?_
      refine g_cSiW cx [.int a0, .int a1] [] (c_X11_has l X (wM X ad F R) a0 a1) ml_X11_175 yS_X11_has rfl e_X11_put_23 (by unfold g_rr; decide) (by decide) rfl (Nat.le_of_ble_eq_true rfl) (fun r176 w177 h178 => ?_)
      obtain ⟨rfl, hr176⟩ := h178
      have pr176 : jv 0 1 r176 := by rcases hr176 with q | q <;> rw [q.1] <;> exact ⟨by decide, by decide⟩
      refine g_if_eq cx 33 e_X11_put_26 (by decide) (fun zc179 => ?_) (fun zc179 => ?_)
      · have p180 := gn_eq 0 0 (gc_eq zc179) pr176 (jv_k (x := 0) 0 (by decide)) (by decide)
        exact J33  
      · have p181 := gn_neL 1 1 (gc_ne zc179) pr176 (jv_k (x := 0) 0 (by decide)) (by decide)
        have zb182 : hb a0 a1 := g_hasy hr176 zc179
        exact J29  
