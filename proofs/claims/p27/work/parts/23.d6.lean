def K_X11_put_62 (F : Nat → Int32) (R : Nat → Nat → Int32)  : Int32 × (Nat → Int32) × (Nat → Nat → Int32) :=
  ((-1), F, R)
def KB_X11_put_341 (b341 : (Int32) → Int32 × (Nat → Int32) × (Nat → Nat → Int32)) (F55 : Nat → Int32) (F70 : Nat → Int32) (R71 : Nat → Nat → Int32) (a1 : Int32) (y75 : Int32) : Int32 × (Nat → Int32) × (Nat → Nat → Int32) :=
  if (F55 75) ≤ y75 then ((-1), F70, R71) else k_lt (R71 38 (Int32.toNatClampNeg y75)) (fun x82 => if x82 = a1 then k_lt (R71 39 (Int32.toNatClampNeg y75)) (fun x91 => k_lt (R71 38 (Int32.toNatClampNeg x91)) (fun x94 => (x94, F70, R71))) else k_lt (y75 + 1) (fun x87 => b341 x87))
def K_X11_put_341 (F55 : Nat → Int32) (F70 : Nat → Int32) (R71 : Nat → Nat → Int32) (a1 : Int32) : Nat → (Int32) → Int32 × (Nat → Int32) × (Nat → Nat → Int32)
  | 0 => fun _ => (0, F70, R71)
  | n + 1 => KB_X11_put_341 (K_X11_put_341 F55 F70 R71 a1 n) F55 F70 R71 a1
def KB_X11_put_289 (b289 : (Nat → Nat → Int32) → (Int32) → Int32 × (Nat → Int32) × (Nat → Nat → Int32)) (F55 : Nat → Int32) (F104 : Nat → Int32) (R108 : Nat → Nat → Int32) (y107 : Int32) : Int32 × (Nat → Int32) × (Nat → Nat → Int32) :=
  if (F55 75) ≤ y107 then (F55 70, F104, R108) else k_lt (R108 38 (Int32.toNatClampNeg y107)) (fun x115 => k_lt (R108 39 (Int32.toNatClampNeg y107)) (fun x118 => k_lt (R108 38 (Int32.toNatClampNeg x118)) (fun x121 => k_lt (R108 26 (Int32.toNatClampNeg x121)) (fun x124 => k_lt (g_u R108 2 (upd (R108 2) (Int32.toNatClampNeg x115) x124)) (fun R126 => k_lt (y107 + 1) (fun x128 => b289 R126 x128))))))
def K_X11_put_289 (F55 : Nat → Int32) (F104 : Nat → Int32) : Nat → (Nat → Nat → Int32) → (Int32) → Int32 × (Nat → Int32) × (Nat → Nat → Int32)
  | 0 => fun R108 _ => (0, F104, R108)
  | n + 1 => KB_X11_put_289 (K_X11_put_289 F55 F104 n) F55 F104
def K_X11_put_239 (b155 : (Nat → Int32) → (Nat → Nat → Int32) → (Int32) → Int32 × (Nat → Int32) × (Nat → Nat → Int32)) (y54 : Int32) (F144 : Nat → Int32) (R145 : Nat → Nat → Int32) : Int32 × (Nat → Int32) × (Nat → Nat → Int32) :=
  k_lt (y54 + 1) (fun x147 => b155 F144 R145 x147)
def KB_X11_put_185 (b185 : (Nat → Nat → Int32) → (Int32) → Int32 × (Nat → Int32) × (Nat → Nat → Int32)) (b155 : (Nat → Int32) → (Nat → Nat → Int32) → (Int32) → Int32 × (Nat → Int32) × (Nat → Nat → Int32)) (F55 : Nat → Int32) (F164 : Nat → Int32) (y54 : Int32) (R168 : Nat → Nat → Int32) (y167 : Int32) : Int32 × (Nat → Int32) × (Nat → Nat → Int32) :=
  if (F55 75) ≤ y167 then k_lt2 (sp_X11_runs F164 R168) (fun F177 R178 => k_lt2 (sp_X11_better F177 R178 y54) (fun F186 R187 => K_X11_put_239 b155 y54 F186 R187)) else k_lt (R168 38 (Int32.toNatClampNeg y167)) (fun x191 => k_lt (R168 39 (Int32.toNatClampNeg y167)) (fun x194 => k_lt (R168 38 (Int32.toNatClampNeg x194)) (fun x197 => k_lt (R168 2 (Int32.toNatClampNeg x197)) (fun x200 => k_lt (g_u R168 26 (upd (R168 26) (Int32.toNatClampNeg x191) x200)) (fun R202 => k_lt (y167 + 1) (fun x204 => b185 R202 x204))))))
def K_X11_put_185 (b155 : (Nat → Int32) → (Nat → Nat → Int32) → (Int32) → Int32 × (Nat → Int32) × (Nat → Nat → Int32)) (F55 : Nat → Int32) (F164 : Nat → Int32) (y54 : Int32) : Nat → (Nat → Nat → Int32) → (Int32) → Int32 × (Nat → Int32) × (Nat → Nat → Int32)
  | 0 => fun R168 _ => (0, F164, R168)
  | n + 1 => KB_X11_put_185 (K_X11_put_185 b155 F55 F164 y54 n) b155 F55 F164 y54
def KB_X11_put_155 (b155 : (Nat → Int32) → (Nat → Nat → Int32) → (Int32) → Int32 × (Nat → Int32) × (Nat → Nat → Int32)) (a1 : Int32) (y41 : Int32) (F55 : Nat → Int32) (R56 : Nat → Nat → Int32) (y54 : Int32) : Int32 × (Nat → Int32) × (Nat → Nat → Int32) :=
  if y41 ≤ y54 then if a1 = 11 then (F55 71, F55, R56) else if a1 = 10 then (F55 70, F55, R56) else k_lt3 (sp_X11_readsRow F55 R56 (F55 72)) (fun r65 F70 R71 => if a1 = 12 then k_lt2 (sp_X11_laysThings F70 R71) (fun F104 R105 => K_X11_put_289 F55 F104 8589934592 R105 0) else K_X11_put_341 F55 F70 R71 a1 8589934592 0) else k_lt3 (sp_X11_readsRow F55 R56 y54) (fun r136 F141 R142 => if r136 = 0 then K_X11_put_239 b155 y54 F141 R142 else k_lt2 (sp_X11_laysPull F141 R142) (fun F156 R157 => k_lt2 (sp_X11_laysThings F156 R157) (fun F164 R165 => K_X11_put_185 b155 F55 F164 y54 8589934592 R165 0)))
def K_X11_put_155 (a1 : Int32) (y41 : Int32) : Nat → (Nat → Int32) → (Nat → Nat → Int32) → (Int32) → Int32 × (Nat → Int32) × (Nat → Nat → Int32)
  | 0 => fun F55 R56 _ => (0, F55, R56)
  | n + 1 => KB_X11_put_155 (K_X11_put_155 a1 y41 n) a1 y41
def KB_X11_put_124 (b124 : (Int32) → (Int32) → Int32 × (Nat → Int32) × (Nat → Nat → Int32)) (F36 : Nat → Int32) (R37 : Nat → Nat → Int32) (a1 : Int32) (y41 : Int32) (y42 : Int32) : Int32 × (Nat → Int32) × (Nat → Nat → Int32) :=
  if (F36 75) ≤ y42 then k_lt2 (sp_X11_forgetsBest F36 R37) (fun F51 R52 => K_X11_put_155 a1 y41 8589934592 F51 R52 0) else k_lt (y41 * (F36 75)) (fun x211 => k_lt (y42 + 1) (fun x213 => b124 x211 x213))
def K_X11_put_124 (F36 : Nat → Int32) (R37 : Nat → Nat → Int32) (a1 : Int32) : Nat → (Int32) → (Int32) → Int32 × (Nat → Int32) × (Nat → Nat → Int32)
  | 0 => fun _ _ => (0, F36, R37)
  | n + 1 => KB_X11_put_124 (K_X11_put_124 F36 R37 a1 n) F36 R37 a1
def K_X11_put_112 (b72 : (Nat → Int32) → (Nat → Nat → Int32) → (Int32) → Int32 × (Nat → Int32) × (Nat → Nat → Int32)) (y35 : Int32) (F221 : Nat → Int32) (R222 : Nat → Nat → Int32) : Int32 × (Nat → Int32) × (Nat → Nat → Int32) :=
  k_lt (y35 + 1) (fun x223 => b72 F221 R222 x223)
def KB_X11_put_72 (b72 : (Nat → Int32) → (Nat → Nat → Int32) → (Int32) → Int32 × (Nat → Int32) × (Nat → Nat → Int32)) (a0 : Int32) (a1 : Int32) (F36 : Nat → Int32) (R37 : Nat → Nat → Int32) (y35 : Int32) : Int32 × (Nat → Int32) × (Nat → Nat → Int32) :=
  if 10 ≤ y35 then K_X11_put_124 F36 R37 a1 8589934592 1 0 else k_lt (g_hasv a0 y35) (fun r217 => if r217 = 0 then K_X11_put_112 b72 y35 F36 R37 else k_lt (g_u R37 38 (upd (R37 38) (Int32.toNatClampNeg (F36 75)) y35)) (fun R231 => k_lt ((F36 75) + 1) (fun x233 => k_lt (upd F36 75 x233) (fun F235 => K_X11_put_112 b72 y35 F235 R231))))
def K_X11_put_72 (a0 : Int32) (a1 : Int32) : Nat → (Nat → Int32) → (Nat → Nat → Int32) → (Int32) → Int32 × (Nat → Int32) × (Nat → Nat → Int32)
  | 0 => fun F36 R37 _ => (0, F36, R37)
  | n + 1 => KB_X11_put_72 (K_X11_put_72 a0 a1 n) a0 a1
def K_X11_put_34 (F : Nat → Int32) (R : Nat → Nat → Int32) (a0 : Int32) (a1 : Int32) (y5 : Int32) : Int32 × (Nat → Int32) × (Nat → Nat → Int32) :=
  k_lt ((F 4) ^^^ (-1)) (fun x6 => k_lt (a0 &&& x6) (fun x8 => if x8 = 0 then k_lt (sp_X11_bits F R a0) (fun r14 => k_lt (g_in r14 2 5) (fun r20 => if r20 = 0 then K_X11_put_62 F R else if y5 = 0 then K_X11_put_62 F R else k_lt (upd F 75 0) (fun F33 => K_X11_put_72 a0 a1 8589934592 F33 R 0))) else K_X11_put_62 F R))
def K_X11_put_29 (F : Nat → Int32) (R : Nat → Nat → Int32) (a0 : Int32) (a1 : Int32)  : Int32 × (Nat → Int32) × (Nat → Nat → Int32) :=
  K_X11_put_34 F R a0 a1 1
def K_X11_put_33 (F : Nat → Int32) (R : Nat → Nat → Int32) (a0 : Int32) (a1 : Int32)  : Int32 × (Nat → Int32) × (Nat → Nat → Int32) :=
  K_X11_put_34 F R a0 a1 0
def sp_X11_put (F : Nat → Int32) (R : Nat → Nat → Int32) (a0 : Int32) (a1 : Int32) : Int32 × (Nat → Int32) × (Nat → Nat → Int32) :=
  k_lt (g_in a1 10 12) (fun r1 => if r1 = 0 then k_lt (g_in a1 0 9) (fun r248 => if r248 = 0 then K_X11_put_33 F R a0 a1 else k_lt (g_hasv a0 a1) (fun r258 => if r258 = 0 then K_X11_put_33 F R a0 a1 else K_X11_put_29 F R a0 a1)) else K_X11_put_29 F R a0 a1)
theorem e_X11_put_0 : g_dc cX11_put 0 (.iload_n 2) 1 1 := ⟨by decide +kernel, rfl⟩
theorem e_X11_put_1 : g_dc cX11_put 1 (.bipush 10) 2 3 := ⟨by decide +kernel, rfl⟩
theorem e_X11_put_3 : g_dc cX11_put 3 (.bipush 12) 2 5 := ⟨by decide +kernel, rfl⟩
theorem e_X11_put_5 : g_dc cX11_put 5 (.invokestatic 165) 3 8 := ⟨by decide +kernel, rfl⟩
theorem e_X11_put_8 : g_dc cX11_put 8 (.ifCond .ne 21) 3 11 := ⟨by decide +kernel, rfl⟩
theorem e_X11_put_11 : g_dc cX11_put 11 (.iload_n 2) 1 12 := ⟨by decide +kernel, rfl⟩
theorem e_X11_put_12 : g_dc cX11_put 12 (.iconst 0) 1 13 := ⟨by decide +kernel, rfl⟩
theorem e_X11_put_13 : g_dc cX11_put 13 (.bipush 9) 2 15 := ⟨by decide +kernel, rfl⟩
theorem e_X11_put_15 : g_dc cX11_put 15 (.invokestatic 165) 3 18 := ⟨by decide +kernel, rfl⟩
theorem e_X11_put_18 : g_dc cX11_put 18 (.ifCond .eq 15) 3 21 := ⟨by decide +kernel, rfl⟩
theorem e_X11_put_21 : g_dc cX11_put 21 (.iload_n 1) 1 22 := ⟨by decide +kernel, rfl⟩
theorem e_X11_put_22 : g_dc cX11_put 22 (.iload_n 2) 1 23 := ⟨by decide +kernel, rfl⟩
theorem e_X11_put_23 : g_dc cX11_put 23 (.invokestatic 175) 3 26 := ⟨by decide +kernel, rfl⟩
theorem e_X11_put_26 : g_dc cX11_put 26 (.ifCond .eq 7) 3 29 := ⟨by decide +kernel, rfl⟩
theorem e_X11_put_29 : g_dc cX11_put 29 (.iconst 1) 1 30 := ⟨by decide +kernel, rfl⟩
theorem e_X11_put_30 : g_dc cX11_put 30 (.goto 4) 3 33 := ⟨by decide +kernel, rfl⟩
theorem e_X11_put_33 : g_dc cX11_put 33 (.iconst 0) 1 34 := ⟨by decide +kernel, rfl⟩
theorem e_X11_put_34 : g_dc cX11_put 34 (.istore_n 3) 1 35 := ⟨by decide +kernel, rfl⟩
theorem e_X11_put_35 : g_dc cX11_put 35 (.iload_n 1) 1 36 := ⟨by decide +kernel, rfl⟩
theorem e_X11_put_36 : g_dc cX11_put 36 (.aload_n 0) 1 37 := ⟨by decide +kernel, rfl⟩
theorem e_X11_put_37 : g_dc cX11_put 37 (.getfield 172) 3 40 := ⟨by decide +kernel, rfl⟩
theorem e_X11_put_40 : g_dc cX11_put 40 (.iconst (-1)) 1 41 := ⟨by decide +kernel, rfl⟩
theorem e_X11_put_41 : g_dc cX11_put 41 (.ixor) 1 42 := ⟨by decide +kernel, rfl⟩
theorem e_X11_put_42 : g_dc cX11_put 42 (.iand) 1 43 := ⟨by decide +kernel, rfl⟩
theorem e_X11_put_43 : g_dc cX11_put 43 (.ifCond .ne 19) 3 46 := ⟨by decide +kernel, rfl⟩
theorem e_X11_put_46 : g_dc cX11_put 46 (.iload_n 1) 1 47 := ⟨by decide +kernel, rfl⟩
theorem e_X11_put_47 : g_dc cX11_put 47 (.invokestatic 410) 3 50 := ⟨by decide +kernel, rfl⟩
theorem e_X11_put_50 : g_dc cX11_put 50 (.iconst 2) 1 51 := ⟨by decide +kernel, rfl⟩
theorem e_X11_put_51 : g_dc cX11_put 51 (.iconst 5) 1 52 := ⟨by decide +kernel, rfl⟩
theorem e_X11_put_52 : g_dc cX11_put 52 (.invokestatic 165) 3 55 := ⟨by decide +kernel, rfl⟩
theorem e_X11_put_55 : g_dc cX11_put 55 (.ifCond .eq 7) 3 58 := ⟨by decide +kernel, rfl⟩
theorem e_X11_put_58 : g_dc cX11_put 58 (.iload_n 3) 1 59 := ⟨by decide +kernel, rfl⟩
theorem e_X11_put_59 : g_dc cX11_put 59 (.ifCond .ne 5) 3 62 := ⟨by decide +kernel, rfl⟩
theorem e_X11_put_62 : g_dc cX11_put 62 (.iconst (-1)) 1 63 := ⟨by decide +kernel, rfl⟩
theorem e_X11_put_63 : g_dc cX11_put 63 (.ireturn) 1 64 := ⟨by decide +kernel, rfl⟩
theorem e_X11_put_64 : g_dc cX11_put 64 (.aload_n 0) 1 65 := ⟨by decide +kernel, rfl⟩
theorem e_X11_put_65 : g_dc cX11_put 65 (.iconst 0) 1 66 := ⟨by decide +kernel, rfl⟩
theorem e_X11_put_66 : g_dc cX11_put 66 (.putfield 464) 3 69 := ⟨by decide +kernel, rfl⟩
theorem e_X11_put_69 : g_dc cX11_put 69 (.iconst 0) 1 70 := ⟨by decide +kernel, rfl⟩
theorem e_X11_put_70 : g_dc cX11_put 70 (.istore 4) 2 72 := ⟨by decide +kernel, rfl⟩
theorem e_X11_put_72 : g_dc cX11_put 72 (.iload 4) 2 74 := ⟨by decide +kernel, rfl⟩
theorem e_X11_put_74 : g_dc cX11_put 74 (.bipush 10) 2 76 := ⟨by decide +kernel, rfl⟩
theorem e_X11_put_76 : g_dc cX11_put 76 (.if_icmp .ge 42) 3 79 := ⟨by decide +kernel, rfl⟩
theorem e_X11_put_79 : g_dc cX11_put 79 (.iload_n 1) 1 80 := ⟨by decide +kernel, rfl⟩
theorem e_X11_put_80 : g_dc cX11_put 80 (.iload 4) 2 82 := ⟨by decide +kernel, rfl⟩
theorem e_X11_put_82 : g_dc cX11_put 82 (.invokestatic 175) 3 85 := ⟨by decide +kernel, rfl⟩
theorem e_X11_put_85 : g_dc cX11_put 85 (.ifCond .ne 6) 3 88 := ⟨by decide +kernel, rfl⟩
theorem e_X11_put_88 : g_dc cX11_put 88 (.goto 24) 3 91 := ⟨by decide +kernel, rfl⟩
theorem e_X11_put_91 : g_dc cX11_put 91 (.aload_n 0) 1 92 := ⟨by decide +kernel, rfl⟩
theorem e_X11_put_92 : g_dc cX11_put 92 (.getfield 122) 3 95 := ⟨by decide +kernel, rfl⟩
theorem e_X11_put_95 : g_dc cX11_put 95 (.aload_n 0) 1 96 := ⟨by decide +kernel, rfl⟩
theorem e_X11_put_96 : g_dc cX11_put 96 (.getfield 464) 3 99 := ⟨by decide +kernel, rfl⟩
theorem e_X11_put_99 : g_dc cX11_put 99 (.iload 4) 2 101 := ⟨by decide +kernel, rfl⟩
theorem e_X11_put_101 : g_dc cX11_put 101 (.iastore) 1 102 := ⟨by decide +kernel, rfl⟩
theorem e_X11_put_102 : g_dc cX11_put 102 (.aload_n 0) 1 103 := ⟨by decide +kernel, rfl⟩
theorem e_X11_put_103 : g_dc cX11_put 103 (.aload_n 0) 1 104 := ⟨by decide +kernel, rfl⟩
theorem e_X11_put_104 : g_dc cX11_put 104 (.getfield 464) 3 107 := ⟨by decide +kernel, rfl⟩
theorem e_X11_put_107 : g_dc cX11_put 107 (.iconst 1) 1 108 := ⟨by decide +kernel, rfl⟩
theorem e_X11_put_108 : g_dc cX11_put 108 (.iadd) 1 109 := ⟨by decide +kernel, rfl⟩
theorem e_X11_put_109 : g_dc cX11_put 109 (.putfield 464) 3 112 := ⟨by decide +kernel, rfl⟩
theorem e_X11_put_112 : g_dc cX11_put 112 (.iinc 4 1) 3 115 := ⟨by decide +kernel, rfl⟩
theorem e_X11_put_115 : g_dc cX11_put 115 (.goto (-43)) 3 118 := ⟨by decide +kernel, rfl⟩
theorem e_X11_put_118 : g_dc cX11_put 118 (.iconst 1) 1 119 := ⟨by decide +kernel, rfl⟩
theorem e_X11_put_119 : g_dc cX11_put 119 (.istore 4) 2 121 := ⟨by decide +kernel, rfl⟩
theorem e_X11_put_121 : g_dc cX11_put 121 (.iconst 0) 1 122 := ⟨by decide +kernel, rfl⟩
theorem e_X11_put_122 : g_dc cX11_put 122 (.istore 5) 2 124 := ⟨by decide +kernel, rfl⟩
theorem e_X11_put_124 : g_dc cX11_put 124 (.iload 5) 2 126 := ⟨by decide +kernel, rfl⟩
theorem e_X11_put_126 : g_dc cX11_put 126 (.aload_n 0) 1 127 := ⟨by decide +kernel, rfl⟩
theorem e_X11_put_127 : g_dc cX11_put 127 (.getfield 464) 3 130 := ⟨by decide +kernel, rfl⟩
theorem e_X11_put_130 : g_dc cX11_put 130 (.if_icmp .ge 18) 3 133 := ⟨by decide +kernel, rfl⟩
theorem e_X11_put_133 : g_dc cX11_put 133 (.iload 4) 2 135 := ⟨by decide +kernel, rfl⟩
theorem e_X11_put_135 : g_dc cX11_put 135 (.aload_n 0) 1 136 := ⟨by decide +kernel, rfl⟩
theorem e_X11_put_136 : g_dc cX11_put 136 (.getfield 464) 3 139 := ⟨by decide +kernel, rfl⟩
theorem e_X11_put_139 : g_dc cX11_put 139 (.imul) 1 140 := ⟨by decide +kernel, rfl⟩
theorem e_X11_put_140 : g_dc cX11_put 140 (.istore 4) 2 142 := ⟨by decide +kernel, rfl⟩
theorem e_X11_put_142 : g_dc cX11_put 142 (.iinc 5 1) 3 145 := ⟨by decide +kernel, rfl⟩
theorem e_X11_put_145 : g_dc cX11_put 145 (.goto (-21)) 3 148 := ⟨by decide +kernel, rfl⟩
theorem e_X11_put_148 : g_dc cX11_put 148 (.aload_n 0) 1 149 := ⟨by decide +kernel, rfl⟩
theorem e_X11_put_149 : g_dc cX11_put 149 (.invokevirtual 458) 3 152 := ⟨by decide +kernel, rfl⟩
theorem e_X11_put_152 : g_dc cX11_put 152 (.iconst 0) 1 153 := ⟨by decide +kernel, rfl⟩
theorem e_X11_put_153 : g_dc cX11_put 153 (.istore 5) 2 155 := ⟨by decide +kernel, rfl⟩
theorem e_X11_put_155 : g_dc cX11_put 155 (.iload 5) 2 157 := ⟨by decide +kernel, rfl⟩
theorem e_X11_put_157 : g_dc cX11_put 157 (.iload 4) 2 159 := ⟨by decide +kernel, rfl⟩
theorem e_X11_put_159 : g_dc cX11_put 159 (.if_icmp .ge 86) 3 162 := ⟨by decide +kernel, rfl⟩
theorem e_X11_put_162 : g_dc cX11_put 162 (.aload_n 0) 1 163 := ⟨by decide +kernel, rfl⟩
theorem e_X11_put_163 : g_dc cX11_put 163 (.iload 5) 2 165 := ⟨by decide +kernel, rfl⟩
theorem e_X11_put_165 : g_dc cX11_put 165 (.invokevirtual 467) 3 168 := ⟨by decide +kernel, rfl⟩
theorem e_X11_put_168 : g_dc cX11_put 168 (.ifCond .ne 6) 3 171 := ⟨by decide +kernel, rfl⟩
theorem e_X11_put_171 : g_dc cX11_put 171 (.goto 68) 3 174 := ⟨by decide +kernel, rfl⟩
theorem e_X11_put_174 : g_dc cX11_put 174 (.aload_n 0) 1 175 := ⟨by decide +kernel, rfl⟩
theorem e_X11_put_175 : g_dc cX11_put 175 (.invokevirtual 422) 3 178 := ⟨by decide +kernel, rfl⟩
theorem e_X11_put_178 : g_dc cX11_put 178 (.aload_n 0) 1 179 := ⟨by decide +kernel, rfl⟩
theorem e_X11_put_179 : g_dc cX11_put 179 (.invokevirtual 425) 3 182 := ⟨by decide +kernel, rfl⟩
theorem e_X11_put_182 : g_dc cX11_put 182 (.iconst 0) 1 183 := ⟨by decide +kernel, rfl⟩
theorem e_X11_put_183 : g_dc cX11_put 183 (.istore 6) 2 185 := ⟨by decide +kernel, rfl⟩
theorem e_X11_put_185 : g_dc cX11_put 185 (.iload 6) 2 187 := ⟨by decide +kernel, rfl⟩
theorem e_X11_put_187 : g_dc cX11_put 187 (.aload_n 0) 1 188 := ⟨by decide +kernel, rfl⟩
theorem e_X11_put_188 : g_dc cX11_put 188 (.getfield 464) 3 191 := ⟨by decide +kernel, rfl⟩
theorem e_X11_put_191 : g_dc cX11_put 191 (.if_icmp .ge 38) 3 194 := ⟨by decide +kernel, rfl⟩
theorem e_X11_put_194 : g_dc cX11_put 194 (.aload_n 0) 1 195 := ⟨by decide +kernel, rfl⟩
theorem e_X11_put_195 : g_dc cX11_put 195 (.getfield 86) 3 198 := ⟨by decide +kernel, rfl⟩
theorem e_X11_put_198 : g_dc cX11_put 198 (.aload_n 0) 1 199 := ⟨by decide +kernel, rfl⟩
theorem e_X11_put_199 : g_dc cX11_put 199 (.getfield 122) 3 202 := ⟨by decide +kernel, rfl⟩
theorem e_X11_put_202 : g_dc cX11_put 202 (.iload 6) 2 204 := ⟨by decide +kernel, rfl⟩
theorem e_X11_put_204 : g_dc cX11_put 204 (.iaload) 1 205 := ⟨by decide +kernel, rfl⟩
theorem e_X11_put_205 : g_dc cX11_put 205 (.aload_n 0) 1 206 := ⟨by decide +kernel, rfl⟩
theorem e_X11_put_206 : g_dc cX11_put 206 (.getfield 13) 3 209 := ⟨by decide +kernel, rfl⟩
theorem e_X11_put_209 : g_dc cX11_put 209 (.aload_n 0) 1 210 := ⟨by decide +kernel, rfl⟩
theorem e_X11_put_210 : g_dc cX11_put 210 (.getfield 122) 3 213 := ⟨by decide +kernel, rfl⟩
theorem e_X11_put_213 : g_dc cX11_put 213 (.aload_n 0) 1 214 := ⟨by decide +kernel, rfl⟩
theorem e_X11_put_214 : g_dc cX11_put 214 (.getfield 125) 3 217 := ⟨by decide +kernel, rfl⟩
theorem e_X11_put_217 : g_dc cX11_put 217 (.iload 6) 2 219 := ⟨by decide +kernel, rfl⟩
theorem e_X11_put_219 : g_dc cX11_put 219 (.iaload) 1 220 := ⟨by decide +kernel, rfl⟩
theorem e_X11_put_220 : g_dc cX11_put 220 (.iaload) 1 221 := ⟨by decide +kernel, rfl⟩
theorem e_X11_put_221 : g_dc cX11_put 221 (.iaload) 1 222 := ⟨by decide +kernel, rfl⟩
theorem e_X11_put_222 : g_dc cX11_put 222 (.iastore) 1 223 := ⟨by decide +kernel, rfl⟩
theorem e_X11_put_223 : g_dc cX11_put 223 (.iinc 6 1) 3 226 := ⟨by decide +kernel, rfl⟩
theorem e_X11_put_226 : g_dc cX11_put 226 (.goto (-41)) 3 229 := ⟨by decide +kernel, rfl⟩
theorem e_X11_put_229 : g_dc cX11_put 229 (.aload_n 0) 1 230 := ⟨by decide +kernel, rfl⟩
theorem e_X11_put_230 : g_dc cX11_put 230 (.invokevirtual 428) 3 233 := ⟨by decide +kernel, rfl⟩
theorem e_X11_put_233 : g_dc cX11_put 233 (.aload_n 0) 1 234 := ⟨by decide +kernel, rfl⟩
theorem e_X11_put_234 : g_dc cX11_put 234 (.iload 5) 2 236 := ⟨by decide +kernel, rfl⟩
theorem e_X11_put_236 : g_dc cX11_put 236 (.invokevirtual 461) 3 239 := ⟨by decide +kernel, rfl⟩
theorem e_X11_put_239 : g_dc cX11_put 239 (.iinc 5 1) 3 242 := ⟨by decide +kernel, rfl⟩
theorem e_X11_put_242 : g_dc cX11_put 242 (.goto (-87)) 3 245 := ⟨by decide +kernel, rfl⟩
theorem e_X11_put_245 : g_dc cX11_put 245 (.iload_n 2) 1 246 := ⟨by decide +kernel, rfl⟩
theorem e_X11_put_246 : g_dc cX11_put 246 (.bipush 11) 2 248 := ⟨by decide +kernel, rfl⟩
theorem e_X11_put_248 : g_dc cX11_put 248 (.if_icmp .ne 8) 3 251 := ⟨by decide +kernel, rfl⟩
theorem e_X11_put_251 : g_dc cX11_put 251 (.aload_n 0) 1 252 := ⟨by decide +kernel, rfl⟩
theorem e_X11_put_252 : g_dc cX11_put 252 (.getfield 452) 3 255 := ⟨by decide +kernel, rfl⟩
theorem e_X11_put_255 : g_dc cX11_put 255 (.ireturn) 1 256 := ⟨by decide +kernel, rfl⟩
theorem e_X11_put_256 : g_dc cX11_put 256 (.iload_n 2) 1 257 := ⟨by decide +kernel, rfl⟩
theorem e_X11_put_257 : g_dc cX11_put 257 (.bipush 10) 2 259 := ⟨by decide +kernel, rfl⟩
theorem e_X11_put_259 : g_dc cX11_put 259 (.if_icmp .ne 8) 3 262 := ⟨by decide +kernel, rfl⟩
theorem e_X11_put_262 : g_dc cX11_put 262 (.aload_n 0) 1 263 := ⟨by decide +kernel, rfl⟩
theorem e_X11_put_263 : g_dc cX11_put 263 (.getfield 449) 3 266 := ⟨by decide +kernel, rfl⟩
theorem e_X11_put_266 : g_dc cX11_put 266 (.ireturn) 1 267 := ⟨by decide +kernel, rfl⟩
theorem e_X11_put_267 : g_dc cX11_put 267 (.aload_n 0) 1 268 := ⟨by decide +kernel, rfl⟩
theorem e_X11_put_268 : g_dc cX11_put 268 (.aload_n 0) 1 269 := ⟨by decide +kernel, rfl⟩
theorem e_X11_put_269 : g_dc cX11_put 269 (.getfield 455) 3 272 := ⟨by decide +kernel, rfl⟩
theorem e_X11_put_272 : g_dc cX11_put 272 (.invokevirtual 467) 3 275 := ⟨by decide +kernel, rfl⟩
theorem e_X11_put_275 : g_dc cX11_put 275 (.pop) 1 276 := ⟨by decide +kernel, rfl⟩
theorem e_X11_put_276 : g_dc cX11_put 276 (.iload_n 2) 1 277 := ⟨by decide +kernel, rfl⟩
theorem e_X11_put_277 : g_dc cX11_put 277 (.bipush 12) 2 279 := ⟨by decide +kernel, rfl⟩
theorem e_X11_put_279 : g_dc cX11_put 279 (.if_icmp .ne 59) 3 282 := ⟨by decide +kernel, rfl⟩
theorem e_X11_put_282 : g_dc cX11_put 282 (.aload_n 0) 1 283 := ⟨by decide +kernel, rfl⟩
theorem e_X11_put_283 : g_dc cX11_put 283 (.invokevirtual 425) 3 286 := ⟨by decide +kernel, rfl⟩
theorem e_X11_put_286 : g_dc cX11_put 286 (.iconst 0) 1 287 := ⟨by decide +kernel, rfl⟩
theorem e_X11_put_287 : g_dc cX11_put 287 (.istore 5) 2 289 := ⟨by decide +kernel, rfl⟩
theorem e_X11_put_289 : g_dc cX11_put 289 (.iload 5) 2 291 := ⟨by decide +kernel, rfl⟩
theorem e_X11_put_291 : g_dc cX11_put 291 (.aload_n 0) 1 292 := ⟨by decide +kernel, rfl⟩
theorem e_X11_put_292 : g_dc cX11_put 292 (.getfield 464) 3 295 := ⟨by decide +kernel, rfl⟩
theorem e_X11_put_295 : g_dc cX11_put 295 (.if_icmp .ge 38) 3 298 := ⟨by decide +kernel, rfl⟩
theorem e_X11_put_298 : g_dc cX11_put 298 (.aload_n 0) 1 299 := ⟨by decide +kernel, rfl⟩
theorem e_X11_put_299 : g_dc cX11_put 299 (.getfield 13) 3 302 := ⟨by decide +kernel, rfl⟩
theorem e_X11_put_302 : g_dc cX11_put 302 (.aload_n 0) 1 303 := ⟨by decide +kernel, rfl⟩
theorem e_X11_put_303 : g_dc cX11_put 303 (.getfield 122) 3 306 := ⟨by decide +kernel, rfl⟩
theorem e_X11_put_306 : g_dc cX11_put 306 (.iload 5) 2 308 := ⟨by decide +kernel, rfl⟩
theorem e_X11_put_308 : g_dc cX11_put 308 (.iaload) 1 309 := ⟨by decide +kernel, rfl⟩
theorem e_X11_put_309 : g_dc cX11_put 309 (.aload_n 0) 1 310 := ⟨by decide +kernel, rfl⟩
theorem e_X11_put_310 : g_dc cX11_put 310 (.getfield 86) 3 313 := ⟨by decide +kernel, rfl⟩
theorem e_X11_put_313 : g_dc cX11_put 313 (.aload_n 0) 1 314 := ⟨by decide +kernel, rfl⟩
theorem e_X11_put_314 : g_dc cX11_put 314 (.getfield 122) 3 317 := ⟨by decide +kernel, rfl⟩
theorem e_X11_put_317 : g_dc cX11_put 317 (.aload_n 0) 1 318 := ⟨by decide +kernel, rfl⟩
theorem e_X11_put_318 : g_dc cX11_put 318 (.getfield 125) 3 321 := ⟨by decide +kernel, rfl⟩
theorem e_X11_put_321 : g_dc cX11_put 321 (.iload 5) 2 323 := ⟨by decide +kernel, rfl⟩
theorem e_X11_put_323 : g_dc cX11_put 323 (.iaload) 1 324 := ⟨by decide +kernel, rfl⟩
theorem e_X11_put_324 : g_dc cX11_put 324 (.iaload) 1 325 := ⟨by decide +kernel, rfl⟩
theorem e_X11_put_325 : g_dc cX11_put 325 (.iaload) 1 326 := ⟨by decide +kernel, rfl⟩
theorem e_X11_put_326 : g_dc cX11_put 326 (.iastore) 1 327 := ⟨by decide +kernel, rfl⟩
theorem e_X11_put_327 : g_dc cX11_put 327 (.iinc 5 1) 3 330 := ⟨by decide +kernel, rfl⟩
theorem e_X11_put_330 : g_dc cX11_put 330 (.goto (-41)) 3 333 := ⟨by decide +kernel, rfl⟩
theorem e_X11_put_333 : g_dc cX11_put 333 (.aload_n 0) 1 334 := ⟨by decide +kernel, rfl⟩
theorem e_X11_put_334 : g_dc cX11_put 334 (.getfield 449) 3 337 := ⟨by decide +kernel, rfl⟩
theorem e_X11_put_337 : g_dc cX11_put 337 (.ireturn) 1 338 := ⟨by decide +kernel, rfl⟩
theorem e_X11_put_338 : g_dc cX11_put 338 (.iconst 0) 1 339 := ⟨by decide +kernel, rfl⟩
theorem e_X11_put_339 : g_dc cX11_put 339 (.istore 5) 2 341 := ⟨by decide +kernel, rfl⟩
theorem e_X11_put_341 : g_dc cX11_put 341 (.iload 5) 2 343 := ⟨by decide +kernel, rfl⟩
theorem e_X11_put_343 : g_dc cX11_put 343 (.aload_n 0) 1 344 := ⟨by decide +kernel, rfl⟩
theorem e_X11_put_344 : g_dc cX11_put 344 (.getfield 464) 3 347 := ⟨by decide +kernel, rfl⟩
theorem e_X11_put_347 : g_dc cX11_put 347 (.if_icmp .ge 33) 3 350 := ⟨by decide +kernel, rfl⟩
theorem e_X11_put_350 : g_dc cX11_put 350 (.aload_n 0) 1 351 := ⟨by decide +kernel, rfl⟩
theorem e_X11_put_351 : g_dc cX11_put 351 (.getfield 122) 3 354 := ⟨by decide +kernel, rfl⟩
theorem e_X11_put_354 : g_dc cX11_put 354 (.iload 5) 2 356 := ⟨by decide +kernel, rfl⟩
theorem e_X11_put_356 : g_dc cX11_put 356 (.iaload) 1 357 := ⟨by decide +kernel, rfl⟩
theorem e_X11_put_357 : g_dc cX11_put 357 (.iload_n 2) 1 358 := ⟨by decide +kernel, rfl⟩
theorem e_X11_put_358 : g_dc cX11_put 358 (.if_icmp .ne 16) 3 361 := ⟨by decide +kernel, rfl⟩
theorem e_X11_put_361 : g_dc cX11_put 361 (.aload_n 0) 1 362 := ⟨by decide +kernel, rfl⟩
theorem e_X11_put_362 : g_dc cX11_put 362 (.getfield 122) 3 365 := ⟨by decide +kernel, rfl⟩
theorem e_X11_put_365 : g_dc cX11_put 365 (.aload_n 0) 1 366 := ⟨by decide +kernel, rfl⟩
theorem e_X11_put_366 : g_dc cX11_put 366 (.getfield 125) 3 369 := ⟨by decide +kernel, rfl⟩
theorem e_X11_put_369 : g_dc cX11_put 369 (.iload 5) 2 371 := ⟨by decide +kernel, rfl⟩
theorem e_X11_put_371 : g_dc cX11_put 371 (.iaload) 1 372 := ⟨by decide +kernel, rfl⟩
theorem e_X11_put_372 : g_dc cX11_put 372 (.iaload) 1 373 := ⟨by decide +kernel, rfl⟩
theorem e_X11_put_373 : g_dc cX11_put 373 (.ireturn) 1 374 := ⟨by decide +kernel, rfl⟩
theorem e_X11_put_374 : g_dc cX11_put 374 (.iinc 5 1) 3 377 := ⟨by decide +kernel, rfl⟩
theorem e_X11_put_377 : g_dc cX11_put 377 (.goto (-36)) 3 380 := ⟨by decide +kernel, rfl⟩
theorem e_X11_put_380 : g_dc cX11_put 380 (.iconst (-1)) 1 381 := ⟨by decide +kernel, rfl⟩
theorem e_X11_put_381 : g_dc cX11_put 381 (.ireturn) 1 382 := ⟨by decide +kernel, rfl⟩
def md_X11_put : List Nat := [3, 42, 43, 44, 45, 46, 47, 48, 49, 50, 51, 65, 66, 67, 68, 69, 70, 71, 72, 75]
def mr_X11_put : List Nat := [2, 23, 24, 25, 26, 27, 28, 29, 30, 31, 32, 33, 34, 35, 36, 37, 38, 39]
set_option maxHeartbeats 4000000 in
set_option maxRecDepth 100000 in
theorem w_X11_put (l : Launch) (X : gX) (ad : Nat → Nat) (F : Nat → Int32) (R : Nat → Nat → Int32) (hI : g_ok LK_wM F) (hA : g_okR LA_wM R) (hWT : WT F R) (hWC : WC F R) (a0 : Int32) (a1 : Int32) : g_Ci l X yX11_put cX11_put 7 (some .int) 7 0 0 [.ref (ad 0), .int a0, .int a1] (wM X ad F R) (fun r w => ∃ (F' : Nat → Int32) (R' : Nat → Nat → Int32), w = wM X ad F' R' ∧ g_ok LK_wM F' ∧ g_okR LA_wM R' ∧ WT F' R' ∧ WC F' R' ∧ g_fr md_X11_put F F' ∧ g_fr mr_X11_put R R' ∧ jv (-2147483648) 2147483647 r ∧ (r, F', R') = sp_X11_put F R a0 a1) := by
  refine g_mi (by decide +kernel) (Nat.le_of_ble_eq_true rfl) (fun E cx hret => ?_)
  obtain ⟨SP, hSP⟩ : ∃ z, z = sp_X11_put F R a0 a1 := ⟨_, rfl⟩
  have hk0 := hSP
  unfold sp_X11_put at hk0
  refine g_iload_n cx 2 rfl e_X11_put_0 ?_
  refine g_bipush cx 10 (by decide) e_X11_put_1 ?_
  refine g_bipush cx 12 (by decide) e_X11_put_3 ?_
  refine g_cSiW cx [.int a1, .int 10, .int 12] [] (c_X11_in l X (wM X ad F R) a1 10 12) ml_X11_165 yS_X11_in rfl e_X11_put_5 (by unfold g_rr; decide) (by decide) rfl (Nat.le_of_ble_eq_true rfl) (fun r1 w2 h3 => ?_)
  obtain ⟨rfl, hr1⟩ := h3
  have pr1 : jv 0 1 r1 := by rw [hr1]; exact gi_01 _ _ _
  have hk4 := k_ls hk0 hr1
  have J34 : ∀ (y5 : Int32), (jv 0 1 y5) → (SP = K_X11_put_34 F R a0 a1 y5) → G X E 7 0 0 (wM X ad F R) [(0, .ref (ad 0)), (1, .int a0), (2, .int a1)] 34 [.int y5] := by
    intro y5 py5 hkJ34
    unfold K_X11_put_34 at hkJ34
    refine g_istore_n cx [(3, .int y5), (0, .ref (ad 0)), (1, .int a0), (2, .int a1)] e_X11_put_34 (by decide) rfl ?_
    refine g_iload_n cx 2 rfl e_X11_put_35 ?_
    refine g_aload_n cx 1 rfl e_X11_put_36 ?_
    refine g_get cx cl_X11 fl_X11_172 0 (.int (F 4)) e_X11_put_37 rfl rfl ?_
    refine g_iconst cx (-1) (by decide) e_X11_put_40 ?_
    refine g_ixor cx e_X11_put_41 ?_
    refine g_topi (fun x6 ex6 => ?_)
    have hk7 := k_ls hkJ34 ex6
    refine g_iand cx e_X11_put_42 ?_
    refine g_topi (fun x8 ex8 => ?_)
    have hk9 := k_ls hk7 ex8
    have J62 : (SP = K_X11_put_62 F R) → G X E 7 0 0 (wM X ad F R) [] 62 [] := by
      intro   hkJ62
      unfold K_X11_put_62 at hkJ62
      refine g_iconst cx (-1) (by decide) e_X11_put_62 ?_
      exact hret e_X11_put_63 (Nat.le_of_ble_eq_true rfl) (Nat.le_of_ble_eq_true rfl) rfl ⟨F, R, rfl, hI, hA, hWT, hWC, (g_fr_rf F), (g_fr_rf R), (jv_w (jv_k (x := (-1)) (-1) (by decide)) (by decide)), (hkJ62.symm.trans hSP)⟩
    refine g_if_ne cx 62 e_X11_put_43 (by decide) (fun zc10 => ?_) (fun zc10 => ?_)
    · have hk11 := hk9.trans (if_neg zc10)
      refine g_lsub [] [] rfl ?_
      exact J62  hk11
    · have p12 := gn_eq 0 0 (gc_eq zc10) (jv_t x8) (jv_k (x := 0) 0 (by decide)) (by decide)
      have hk13 := hk9.trans (if_pos zc10)
      refine g_iload_n cx 2 rfl e_X11_put_46 ?_
      refine g_cSiW cx [.int a0] [] (w_X11_bits l X ad F R hI hA a0) ml_X11_410 yS_X11_bits rfl e_X11_put_47 (by unfold g_rr; decide) (by decide) rfl (Nat.le_of_ble_eq_true rfl) (fun r14 w15 h16 => ?_)
      obtain ⟨rfl, pr14, zx17, hx18⟩ := h16
      have hk19 := k_ls hk13 hx18
      refine g_iconst cx 2 (by decide) e_X11_put_50 ?_
      refine g_iconst cx 5 (by decide) e_X11_put_51 ?_
      refine g_cSiW cx [.int r14, .int 2, .int 5] [] (c_X11_in l X (wM X ad F R) r14 2 5) ml_X11_165 yS_X11_in rfl e_X11_put_52 (by unfold g_rr; decide) (by decide) rfl (Nat.le_of_ble_eq_true rfl) (fun r20 w21 h22 => ?_)
      obtain ⟨rfl, hr20⟩ := h22
      have pr20 : jv 0 1 r20 := by rw [hr20]; exact gi_01 _ _ _
      have hk23 := k_ls hk19 hr20
      refine g_if_eq cx 62 e_X11_put_55 (by decide) (fun zc24 => ?_) (fun zc24 => ?_)
      · have p25 := gn_eq 0 0 (gc_eq zc24) pr20 (jv_k (x := 0) 0 (by decide)) (by decide)
        have hk26 := hk23.trans (if_pos zc24)
        refine g_lsub [] [] rfl ?_
        exact J62  hk26
      · have p27 := gn_neL 1 1 (gc_ne zc24) pr20 (jv_k (x := 0) 0 (by decide)) (by decide)
        have p28 := jv_i 2 5 pr14 (gi_in (A := 2) (B := 5) hr20 zc24 (by decide) (by decide)) (by decide)
        have hk29 := hk23.trans (if_neg zc24)
        refine g_iload_n cx 0 rfl e_X11_put_58 ?_
        refine g_if_ne cx 64 e_X11_put_59 (by decide) (fun zc30 => ?_) (fun zc30 => ?_)
        · have p31 := gn_neL 1 1 (gc_ne zc30) py5 (jv_k (x := 0) 0 (by decide)) (by decide)
          have hk32 := hk29.trans (if_neg zc30)
          refine g_aload_n cx 1 rfl e_X11_put_64 ?_
          refine g_iconst cx 0 (by decide) e_X11_put_65 ?_
          refine g_put cx cl_X11 fl_X11_464 0 (wM X ad (upd F 75 0) R) e_X11_put_66 rfl rfl rfl rfl (Nat.le_of_ble_eq_true rfl) rfl ?_
          obtain ⟨F33, hF33⟩ : ∃ z, z = upd F 75 0 := ⟨_, rfl⟩
          rw [← hF33]
          have hk34 := k_ls hk32 hF33
          have oF33 : g_ok LK_wM F33 := by rw [hF33]; exact g_ok_p hI (jv_k (x := 0) 0 (by decide)) rfl
          have fF33 : g_fr md_X11_put F F33 := by rw [hF33]; exact g_fr_u (g_fr_rf F) rfl
          have wTF33 : WT F33 R := by rw [hF33]; exact WT_u hWT rfl
          have wCF33 : WC F33 R := by rw [hF33]; exact WC_u hWC rfl
          refine g_iconst cx 0 (by decide) e_X11_put_69 ?_
          refine g_istore cx [(4, .int 0), (3, .int y5), (0, .ref (ad 0)), (1, .int a0), (2, .int a1)] e_X11_put_70 (by decide) rfl ?_
          have J72 : ∀ (N : Nat) (F36 : Nat → Int32) (R37 : Nat → Nat → Int32) (y35 : Int32), (g_ok LK_wM F36) → (g_fr md_X11_put F F36) → (g_okR LA_wM R37) → (g_fr mr_X11_put R R37) → (WT F36 R37) → (WC F36 R37) → (jv 0 10 y35) → ((F36 75).toInt = g_bits a0 (y35 : Int32).toInt.toNat) → (SP = K_X11_put_72 a0 a1 N F36 R37 y35) → (2147483647 - y35.toInt).toNat < N → G X E 7 0 0 (wM X ad F36 R37) [(0, .ref (ad 0)), (1, .int a0), (2, .int a1), (4, .int y35)] 72 [] := by
            intro N
            induction N with
            | zero => intro F36 R37 y35 oF36 fF36 oR37 fR37 wTF36R37 wCF36R37 py35 zq72_0 hkJ72 hm; exact absurd hm (Nat.not_lt_zero _)
            | succ N ih72 =>
              intro F36 R37 y35 oF36 fF36 oR37 fR37 wTF36R37 wCF36R37 py35 zq72_0 hkJ72 hm72
              have hkK72 : SP = KB_X11_put_72 (K_X11_put_72 a0 a1 N) a0 a1 F36 R37 y35 := hkJ72
              obtain ⟨b72, hb72⟩ : ∃ z, z = K_X11_put_72 a0 a1 N := ⟨_, rfl⟩
              rw [← hb72] at hkK72
              unfold KB_X11_put_72 at hkK72
              refine g_iload cx 3 rfl e_X11_put_72 ?_
              refine g_bipush cx 10 (by decide) e_X11_put_74 ?_
              refine g_icmp_ge cx 118 e_X11_put_76 (by decide) (fun zc38 => ?_) (fun zc38 => ?_)
              · have p39 := gn_ge 10 10 (gc_le zc38) py35 (jv_k (x := 10) 10 (by decide)) (by decide)
                have hk40 := hkK72.trans (if_pos zc38)
                have zq10 : (F36 75).toInt = g_bits a0 10 := by have q := zq72_0; rw [show (y35 : Int32).toInt.toNat = 10 from by have q0 := (jv_k (x := 10) 10 (by decide)).1; have q1 := (jv_k (x := 10) 10 (by decide)).2; have q2 := p39.1; have q3 := p39.2; have q4 := (gc_le zc38); omega] at q; exact q
                have z75 : jv 2 5 (F36 75) := ⟨by have q0 := (g_ok_g oF36 14 rfl).1; have q1 := (g_ok_g oF36 14 rfl).2; have q2 := p28.1; have q3 := p28.2; have q4 := zx17; have q5 := zq72_0; have q6 := zq10; omega, by have q0 := (g_ok_g oF36 14 rfl).1; have q1 := (g_ok_g oF36 14 rfl).2; have q2 := p28.1; have q3 := p28.2; have q4 := zx17; have q5 := zq72_0; have q6 := zq10; omega⟩
                refine g_iconst cx 1 (by decide) e_X11_put_118 ?_
                refine g_istore cx [(4, .int 1), (0, .ref (ad 0)), (1, .int a0), (2, .int a1)] e_X11_put_119 (by decide) rfl ?_
                refine g_iconst cx 0 (by decide) e_X11_put_121 ?_
                refine g_istore cx [(5, .int 0), (4, .int 1), (0, .ref (ad 0)), (1, .int a0), (2, .int a1)] e_X11_put_122 (by decide) rfl ?_
                have J124 : ∀ (N : Nat) (y41 : Int32) (y42 : Int32), (jv 1 13631487 y41) → (jv 0 5 y42) → (0 ≤ (y42 : Int32).toInt ∧ (y42 : Int32).toInt ≤ (F36 75).toInt) → ((y41 : Int32).toInt = g_pw (F36 75).toInt (y42 : Int32).toInt.toNat) → (SP = K_X11_put_124 F36 R37 a1 N y41 y42) → (2147483647 - y42.toInt).toNat < N → G X E 7 0 0 (wM X ad F36 R37) [(0, .ref (ad 0)), (2, .int a1), (4, .int y41), (5, .int y42)] 124 [] := by
                  intro N
                  induction N with
                  | zero => intro y41 y42 py41 py42 zi124_0 zq124_0 hkJ124 hm; exact absurd hm (Nat.not_lt_zero _)
                  | succ N ih124 =>
                    intro y41 y42 py41 py42 zi124_0 zq124_0 hkJ124 hm124
                    have hkK124 : SP = KB_X11_put_124 (K_X11_put_124 F36 R37 a1 N) F36 R37 a1 y41 y42 := hkJ124
                    obtain ⟨b124, hb124⟩ : ∃ z, z = K_X11_put_124 F36 R37 a1 N := ⟨_, rfl⟩
                    rw [← hb124] at hkK124
                    unfold KB_X11_put_124 at hkK124
                    refine g_iload cx 3 rfl e_X11_put_124 ?_
                    refine g_aload_n cx 0 rfl e_X11_put_126 ?_
                    refine g_get cx cl_X11 fl_X11_464 0 (.int (F36 75)) e_X11_put_127 rfl rfl ?_
                    refine g_icmp_ge cx 148 e_X11_put_130 (by decide) (fun zc43 => ?_) (fun zc43 => ?_)
                    · have p44 := gn_ge 2 5 (gc_le zc43) py42 z75 (by decide)
                      have hk45 := hkK124.trans (if_pos zc43)
                      have zre := g_pw_e (n := (F36 75).toInt) (r := (y41 : Int32).toInt) ⟨z75.1, z75.2⟩ (by have q := zq124_0; rw [show (y42 : Int32).toInt.toNat = (F36 75).toInt.toNat from by have q0 := z75.1; have q1 := z75.2; have q2 := p28.1; have q3 := p28.2; have q4 := p44.1; have q5 := p44.2; have q6 := zx17; have q7 := zq72_0; have q8 := zq10; have q9 := zi124_0; have q10 := (gc_le zc43); omega] at q; exact q)
                      have zpr : jv 4 3125 y41 := ⟨by have q0 := z75.1; have q1 := z75.2; have q2 := p28.1; have q3 := p28.2; have q4 := py41.1; have q5 := py41.2; have q6 := p44.1; have q7 := p44.2; have q8 := zx17; have q9 := zq72_0; have q10 := zq10; have q11 := zi124_0; have q12 := (gc_le zc43); have q13 := zre; omega, by have q0 := z75.1; have q1 := z75.2; have q2 := p28.1; have q3 := p28.2; have q4 := py41.1; have q5 := py41.2; have q6 := p44.1; have q7 := p44.2; have q8 := zx17; have q9 := zq72_0; have q10 := zq10; have q11 := zi124_0; have q12 := (gc_le zc43); have q13 := zre; omega⟩
                      refine g_aload_n cx 0 rfl e_X11_put_148 ?_
                      refine g_cVvW cx [] [] (w_X11_forgetsBest l X ad F36 R37 oF36 oR37 wTF36R37 wCF36R37) ml_X11_458 yV_X11_forgetsBest e_X11_put_149 (by unfold g_rr; decide) (by decide) 0 rfl rfl rfl (Nat.le_of_ble_eq_true rfl) (fun w47 h48 => ?_)
                      obtain ⟨F51, R52, rfl, oF51, oR52, wTF51, wCF51, cF51, cR52, zx49, hx50⟩ := h48
                      have hk53 := k_ls2 hk45 hx50
                      have fF51 : g_fr md_X11_put F F51 := g_fr_c fF36 cF51 rfl
                      have fR52 : g_fr mr_X11_put R R52 := g_fr_c fR37 cR52 rfl
                      refine g_iconst cx 0 (by decide) e_X11_put_152 ?_
                      refine g_istore cx [(5, .int 0), (0, .ref (ad 0)), (2, .int a1), (4, .int y41)] e_X11_put_153 (by decide) rfl ?_
                      have J155 : ∀ (N : Nat) (F55 : Nat → Int32) (R56 : Nat → Nat → Int32) (y54 : Int32), (g_ok LK_wM F55) → (g_fr md_X11_put F F55) → (g_okR LA_wM R56) → (g_fr mr_X11_put R R56) → (WT F55 R56) → (WC F55 R56) → (jv 0 3125 y54) → ((F55 75).toInt = (F36 75).toInt) → ((0 ≤ (F55 72).toInt ∧ (F55 72).toInt ≤ 3124) ∨ ((F55 70).toInt = -1 ∧ ((F36 75).toInt = 2 ∧ (y54 : Int32).toInt ≤ 1 ∨ (F36 75).toInt = 3 ∧ (y54 : Int32).toInt ≤ 5 ∨ (F36 75).toInt = 4 ∧ (y54 : Int32).toInt ≤ 27 ∨ (F36 75).toInt = 5 ∧ (y54 : Int32).toInt ≤ 194))) → (SP = K_X11_put_155 a1 y41 N F55 R56 y54) → (2147483647 - y54.toInt).toNat < N → G X E 7 0 0 (wM X ad F55 R56) [(0, .ref (ad 0)), (2, .int a1), (4, .int y41), (5, .int y54)] 155 [] := by
                        intro N
                        induction N with
                        | zero => intro F55 R56 y54 oF55 fF55 oR56 fR56 wTF55R56 wCF55R56 py54 zi155_0 zi155_1 hkJ155 hm; exact absurd hm (Nat.not_lt_zero _)
                        | succ N ih155 =>
                          intro F55 R56 y54 oF55 fF55 oR56 fR56 wTF55R56 wCF55R56 py54 zi155_0 zi155_1 hkJ155 hm155
                          have hkK155 : SP = KB_X11_put_155 (K_X11_put_155 a1 y41 N) a1 y41 F55 R56 y54 := hkJ155
                          obtain ⟨b155, hb155⟩ : ∃ z, z = K_X11_put_155 a1 y41 N := ⟨_, rfl⟩
                          rw [← hb155] at hkK155
                          unfold KB_X11_put_155 at hkK155
                          have p57 : jv 2 5 (F55 75) := ⟨by have q0 := z75.1; have q1 := z75.2; have q2 := (jv_t (F55 70)).1; have q3 := (jv_t (F55 70)).2; have q4 := (jv_t (F55 72)).1; have q5 := (jv_t (F55 72)).2; have q6 := (g_ok_g oF55 14 rfl).1; have q7 := (g_ok_g oF55 14 rfl).2; have q8 := p28.1; have q9 := p28.2; have q10 := zpr.1; have q11 := zpr.2; have q12 := p44.1; have q13 := p44.2; have q14 := py54.1; have q15 := py54.2; have q16 := zx17; have q17 := zq72_0; have q18 := zq10; have q19 := zi124_0; have q20 := (gc_le zc43); have q21 := zre; have q22 := zi155_0; have q23 := zi155_1; omega, by have q0 := z75.1; have q1 := z75.2; have q2 := (jv_t (F55 70)).1; have q3 := (jv_t (F55 70)).2; have q4 := (jv_t (F55 72)).1; have q5 := (jv_t (F55 72)).2; have q6 := (g_ok_g oF55 14 rfl).1; have q7 := (g_ok_g oF55 14 rfl).2; have q8 := p28.1; have q9 := p28.2; have q10 := zpr.1; have q11 := zpr.2; have q12 := p44.1; have q13 := p44.2; have q14 := py54.1; have q15 := py54.2; have q16 := zx17; have q17 := zq72_0; have q18 := zq10; have q19 := zi124_0; have q20 := (gc_le zc43); have q21 := zre; have q22 := zi155_0; have q23 := zi155_1; omega⟩
                          refine g_iload cx 3 rfl e_X11_put_155 ?_
                          refine g_iload cx 2 rfl e_X11_put_157 ?_
                          refine g_icmp_ge cx 245 e_X11_put_159 (by decide) (fun zc58 => ?_) (fun zc58 => ?_)
                          · have p59 := gn_ge 4 3125 (gc_le zc58) py54 zpr (by decide)
                            have hk60 := hkK155.trans (if_pos zc58)
                            refine g_iload_n cx 1 rfl e_X11_put_245 ?_
                            refine g_bipush cx 11 (by decide) e_X11_put_246 ?_
                            refine g_icmp_ne cx 256 e_X11_put_248 (by decide) (fun zc61 => ?_) (fun zc61 => ?_)
                            · have hk62 := hk60.trans (if_neg zc61)
                              refine g_iload_n cx 1 rfl e_X11_put_256 ?_
                              refine g_bipush cx 10 (by decide) e_X11_put_257 ?_
                              refine g_icmp_ne cx 267 e_X11_put_259 (by decide) (fun zc63 => ?_) (fun zc63 => ?_)
                              · have hk64 := hk62.trans (if_neg zc63)
                                refine g_aload_n cx 0 rfl e_X11_put_267 ?_
                                refine g_aload_n cx 0 rfl e_X11_put_268 ?_
                                refine g_get cx cl_X11 fl_X11_455 0 (.int (F55 72)) e_X11_put_269 rfl rfl ?_
                                refine g_cViW cx [.int (F55 72)] [] (w_X11_readsRow l X ad F55 R56 oF55 oR56 wTF55R56 wCF55R56 (F55 72) (show jv 0 3124 (F55 72) from ⟨by have q0 := z75.1; have q1 := z75.2; have q2 := (jv_t (F55 70)).1; have q3 := (jv_t (F55 70)).2; have q4 := (jv_t (F55 72)).1; have q5 := (jv_t (F55 72)).2; have q6 := p57.1; have q7 := p57.2; have q8 := p28.1; have q9 := p28.2; have q10 := zpr.1; have q11 := zpr.2; have q12 := p44.1; have q13 := p44.2; have q14 := p59.1; have q15 := p59.2; have q16 := zx17; have q17 := zq72_0; have q18 := zq10; have q19 := zi124_0; have q20 := (gc_le zc43); have q21 := zre; have q22 := zi155_0; have q23 := zi155_1; have q24 := (gc_le zc58); omega, by have q0 := z75.1; have q1 := z75.2; have q2 := (jv_t (F55 70)).1; have q3 := (jv_t (F55 70)).2; have q4 := (jv_t (F55 72)).1; have q5 := (jv_t (F55 72)).2; have q6 := p57.1; have q7 := p57.2; have q8 := p28.1; have q9 := p28.2; have q10 := zpr.1; have q11 := zpr.2; have q12 := p44.1; have q13 := p44.2; have q14 := p59.1; have q15 := p59.2; have q16 := zx17; have q17 := zq72_0; have q18 := zq10; have q19 := zi124_0; have q20 := (gc_le zc43); have q21 := zre; have q22 := zi155_0; have q23 := zi155_1; have q24 := (gc_le zc58); omega⟩) (show jv 2 5 (F55 75) from ⟨by have q0 := z75.1; have q1 := z75.2; have q2 := (jv_t (F55 70)).1; have q3 := (jv_t (F55 70)).2; have q4 := (jv_t (F55 72)).1; have q5 := (jv_t (F55 72)).2; have q6 := p57.1; have q7 := p57.2; have q8 := p28.1; have q9 := p28.2; have q10 := zpr.1; have q11 := zpr.2; have q12 := p44.1; have q13 := p44.2; have q14 := p59.1; have q15 := p59.2; have q16 := zx17; have q17 := zq72_0; have q18 := zq10; have q19 := zi124_0; have q20 := (gc_le zc43); have q21 := zre; have q22 := zi155_0; have q23 := zi155_1; have q24 := (gc_le zc58); omega, by have q0 := z75.1; have q1 := z75.2; have q2 := (jv_t (F55 70)).1; have q3 := (jv_t (F55 70)).2; have q4 := (jv_t (F55 72)).1; have q5 := (jv_t (F55 72)).2; have q6 := p57.1; have q7 := p57.2; have q8 := p28.1; have q9 := p28.2; have q10 := zpr.1; have q11 := zpr.2; have q12 := p44.1; have q13 := p44.2; have q14 := p59.1; have q15 := p59.2; have q16 := zx17; have q17 := zq72_0; have q18 := zq10; have q19 := zi124_0; have q20 := (gc_le zc43); have q21 := zre; have q22 := zi155_0; have q23 := zi155_1; have q24 := (gc_le zc58); omega⟩)) ml_X11_467 yV_X11_readsRow e_X11_put_272 (by unfold g_rr; decide) (by decide) 0 rfl rfl rfl (Nat.le_of_ble_eq_true rfl) (fun r65 w66 h67 => ?_)
                                obtain ⟨F70, R71, rfl, oF70, oR71, wTF70, wCF70, cF70, cR71, pr65, zx68, hx69⟩ := h67
                                have hk72 := k_ls3 hk64 hx69
                                have fF70 : g_fr md_X11_put F F70 := g_fr_c fF55 cF70 rfl
                                have fR71 : g_fr mr_X11_put R R71 := g_fr_c fR56 cR71 rfl
                                refine g_pop cx rfl e_X11_put_275 ?_
                                refine g_iload_n cx 1 rfl e_X11_put_276 ?_
                                refine g_bipush cx 12 (by decide) e_X11_put_277 ?_
                                refine g_icmp_ne cx 338 e_X11_put_279 (by decide) (fun zc73 => ?_) (fun zc73 => ?_)
                                · have hk74 := hk72.trans (if_neg zc73)
                                  refine g_iconst cx 0 (by decide) e_X11_put_338 ?_
                                  refine g_istore cx [(5, .int 0), (0, .ref (ad 0)), (2, .int a1), (4, .int y41)] e_X11_put_339 (by decide) rfl ?_
                                  have J341 : ∀ (N : Nat) (y75 : Int32), (jv 0 5 y75) → ((F70 75).toInt = (F36 75).toInt) → (SP = K_X11_put_341 F55 F70 R71 a1 N y75) → (2147483647 - y75.toInt).toNat < N → G X E 7 0 0 (wM X ad F70 R71) [(0, .ref (ad 0)), (2, .int a1), (5, .int y75)] 341 [] := by
                                    intro N
                                    induction N with
                                    | zero => intro y75 py75 zi341_0 hkJ341 hm; exact absurd hm (Nat.not_lt_zero _)
                                    | succ N ih341 =>
                                      intro y75 py75 zi341_0 hkJ341 hm341
                                      have hkK341 : SP = KB_X11_put_341 (K_X11_put_341 F55 F70 R71 a1 N) F55 F70 R71 a1 y75 := hkJ341
                                      obtain ⟨b341, hb341⟩ : ∃ z, z = K_X11_put_341 F55 F70 R71 a1 N := ⟨_, rfl⟩
                                      rw [← hb341] at hkK341
                                      unfold KB_X11_put_341 at hkK341
                                      have p76 : jv 2 5 (F70 75) := ⟨by have q0 := z75.1; have q1 := z75.2; have q2 := (jv_t (F55 70)).1; have q3 := (jv_t (F55 70)).2; have q4 := (jv_t (F55 72)).1; have q5 := (jv_t (F55 72)).2; have q6 := p57.1; have q7 := p57.2; have q8 := (g_ok_g oF70 14 rfl).1; have q9 := (g_ok_g oF70 14 rfl).2; have q10 := p28.1; have q11 := p28.2; have q12 := zpr.1; have q13 := zpr.2; have q14 := p44.1; have q15 := p44.2; have q16 := p59.1; have q17 := p59.2; have q18 := zx17; have q19 := zq72_0; have q20 := zq10; have q21 := zi124_0; have q22 := (gc_le zc43); have q23 := zre; have q24 := zi155_0; have q25 := zi155_1; have q26 := (gc_le zc58); have q27 := (congrArg Int32.toInt (show F70 75 = F55 75 from (cF70 75 rfl))); have q28 := zi341_0; have q29 := (congrArg Int32.toInt (show F70 75 = F55 75 from (cF70 75 rfl))); omega, by have q0 := z75.1; have q1 := z75.2; have q2 := (jv_t (F55 70)).1; have q3 := (jv_t (F55 70)).2; have q4 := (jv_t (F55 72)).1; have q5 := (jv_t (F55 72)).2; have q6 := p57.1; have q7 := p57.2; have q8 := (g_ok_g oF70 14 rfl).1; have q9 := (g_ok_g oF70 14 rfl).2; have q10 := p28.1; have q11 := p28.2; have q12 := zpr.1; have q13 := zpr.2; have q14 := p44.1; have q15 := p44.2; have q16 := p59.1; have q17 := p59.2; have q18 := zx17; have q19 := zq72_0; have q20 := zq10; have q21 := zi124_0; have q22 := (gc_le zc43); have q23 := zre; have q24 := zi155_0; have q25 := zi155_1; have q26 := (gc_le zc58); have q27 := (congrArg Int32.toInt (show F70 75 = F55 75 from (cF70 75 rfl))); have q28 := zi341_0; have q29 := (congrArg Int32.toInt (show F70 75 = F55 75 from (cF70 75 rfl))); omega⟩
                                      refine g_iload cx 2 rfl e_X11_put_341 ?_
                                      refine g_aload_n cx 0 rfl e_X11_put_343 ?_
                                      refine g_get cx cl_X11 fl_X11_464 0 (.int (F70 75)) e_X11_put_344 rfl rfl ?_
                                      refine g_toi (F55 75) (cF70 75 rfl) ?_
                                      refine g_icmp_ge cx 380 e_X11_put_347 (by decide) (fun zc77 => ?_) (fun zc77 => ?_)
                                      · have p78 := gn_ge 2 5 (gc_le zc77) py75 p57 (by decide)
                                        have hk79 := hkK341.trans (if_pos zc77)
                                        refine g_iconst cx (-1) (by decide) e_X11_put_380 ?_
                                        exact hret e_X11_put_381 (Nat.le_of_ble_eq_true rfl) (Nat.le_of_ble_eq_true rfl) rfl ⟨F70, R71, rfl, oF70, oR71, wTF70, wCF70, fF70, fR71, (jv_w (jv_k (x := (-1)) (-1) (by decide)) (by decide)), (hk79.symm.trans hSP)⟩
                                      · have p80 := gn_lt 0 4 (gc_nle zc77) py75 p57 (by decide)
                                        have hk81 := hkK341.trans (if_neg zc77)
                                        refine g_aload_n cx 0 rfl e_X11_put_350 ?_
                                        refine g_get cx cl_X11 fl_X11_122 0 (.ref (ad 38)) e_X11_put_351 rfl rfl ?_
                                        refine g_iload cx 2 rfl e_X11_put_354 ?_
                                        refine g_iald cx 38 e_X11_put_356 rfl (jv_ix 5 p80 (by decide)) ?_
                                        refine g_topi (fun x82 ex82 => ?_)
                                        have hk83 := k_ls hk81 ex82
                                        have p84 : jv 0 9 x82 := by rw [ex82]; exact g_okR_g oR71 4 rfl (jv_cl 5 p80 (by decide))
                                        refine g_iload_n cx 1 rfl e_X11_put_357 ?_
                                        refine g_icmp_ne cx 374 e_X11_put_358 (by decide) (fun zc85 => ?_) (fun zc85 => ?_)
                                        · have hk86 := hk83.trans (if_neg zc85)
                                          obtain ⟨x87, ex87⟩ : ∃ z : Int32, z = y75 + Int32.ofInt 1 := ⟨_, rfl⟩
                                          have hk88 := k_ls hk86 (show x87 = y75 + 1 from ex87)
                                          refine g_iinc cx x87 [(5, .int x87), (0, .ref (ad 0)), (2, .int a1)] 2 e_X11_put_374 rfl ex87.symm (by decide) rfl ?_
                                          have zx87 := jv_add 1 5 (show x87 = y75 + 1 from ex87) p80 (jv_k (x := 1) 1 (by decide)) (by decide)
                                          refine g_goto cx 341 e_X11_put_377 (by decide) ?_
                                          refine g_lsub [1, 2, 0] [(0, .ref (ad 0)), (2, .int a1), (5, .int x87)] rfl ?_
                                          exact ih341 x87 (jv_w zx87.2 (by decide)) (by have q0 := (jv_k (x := 1) 1 (by decide)).1; have q1 := (jv_k (x := 1) 1 (by decide)).2; have q2 := z75.1; have q3 := z75.2; have q4 := (jv_t (F55 70)).1; have q5 := (jv_t (F55 70)).2; have q6 := (jv_t (F55 72)).1; have q7 := (jv_t (F55 72)).2; have q8 := p57.1; have q9 := p57.2; have q10 := p76.1; have q11 := p76.2; have q12 := p28.1; have q13 := p28.2; have q14 := zx87.2.1; have q15 := zx87.2.2; have q16 := zpr.1; have q17 := zpr.2; have q18 := p44.1; have q19 := p44.2; have q20 := p59.1; have q21 := p59.2; have q22 := p80.1; have q23 := p80.2; have q24 := zx17; have q25 := zq72_0; have q26 := zq10; have q27 := zi124_0; have q28 := (gc_le zc43); have q29 := zre; have q30 := zi155_0; have q31 := zi155_1; have q32 := (gc_le zc58); have q33 := (congrArg Int32.toInt (show F70 75 = F55 75 from (cF70 75 rfl))); have q34 := zi341_0; have q35 := (congrArg Int32.toInt (show F70 75 = F55 75 from (cF70 75 rfl))); have q36 := (gc_nle zc77); have q37 := (g_eq0 zx87.1); have q38 := (congrArg Int32.toInt (show F70 75 = F55 75 from (cF70 75 rfl))); omega) (hk88.trans (by rw [hb341])) (Nat.lt_of_lt_of_le (show (2147483647 - x87.toInt).toNat < (2147483647 - y75.toInt).toNat from by have q0 := (jv_k (x := 1) 1 (by decide)).1; have q1 := (jv_k (x := 1) 1 (by decide)).2; have q2 := z75.1; have q3 := z75.2; have q4 := (jv_t (F55 70)).1; have q5 := (jv_t (F55 70)).2; have q6 := (jv_t (F55 72)).1; have q7 := (jv_t (F55 72)).2; have q8 := p57.1; have q9 := p57.2; have q10 := p76.1; have q11 := p76.2; have q12 := p28.1; have q13 := p28.2; have q14 := zx87.2.1; have q15 := zx87.2.2; have q16 := zpr.1; have q17 := zpr.2; have q18 := p44.1; have q19 := p44.2; have q20 := p59.1; have q21 := p59.2; have q22 := p80.1; have q23 := p80.2; have q24 := zx17; have q25 := zq72_0; have q26 := zq10; have q27 := zi124_0; have q28 := (gc_le zc43); have q29 := zre; have q30 := zi155_0; have q31 := zi155_1; have q32 := (gc_le zc58); have q33 := (congrArg Int32.toInt (show F70 75 = F55 75 from (cF70 75 rfl))); have q34 := zi341_0; have q35 := (congrArg Int32.toInt (show F70 75 = F55 75 from (cF70 75 rfl))); have q36 := (gc_nle zc77); have q37 := (g_eq0 zx87.1); have q38 := (congrArg Int32.toInt (show F70 75 = F55 75 from (cF70 75 rfl))); omega) (Nat.le_of_lt_succ hm341))
                                        · have p89 := gn_eq 0 9 (gc_eq zc85).symm (jv_t a1) p84 (by decide)
                                          have hk90 := hk83.trans (if_pos zc85)
                                          refine g_aload_n cx 0 rfl e_X11_put_361 ?_
                                          refine g_get cx cl_X11 fl_X11_122 0 (.ref (ad 38)) e_X11_put_362 rfl rfl ?_
                                          refine g_aload_n cx 0 rfl e_X11_put_365 ?_
                                          refine g_get cx cl_X11 fl_X11_125 0 (.ref (ad 39)) e_X11_put_366 rfl rfl ?_
                                          refine g_iload cx 2 rfl e_X11_put_369 ?_
                                          refine g_iald cx 39 e_X11_put_371 rfl (jv_ix 5 p80 (by decide)) ?_
                                          refine g_topi (fun x91 ex91 => ?_)
                                          have hk92 := k_ls hk90 ex91
                                          have p93 : jv 0 4 x91 := by rw [ex91]; exact g_okR_g oR71 5 rfl (jv_cl 5 p80 (by decide))
                                          refine g_iald cx 38 e_X11_put_372 rfl (jv_ix 5 p93 (by decide)) ?_
                                          refine g_topi (fun x94 ex94 => ?_)
                                          have hk95 := k_ls hk92 ex94
                                          have p96 : jv 0 9 x94 := by rw [ex94]; exact g_okR_g oR71 4 rfl (jv_cl 5 p93 (by decide))
                                          exact hret e_X11_put_373 (Nat.le_of_ble_eq_true rfl) (Nat.le_of_ble_eq_true rfl) rfl ⟨F70, R71, rfl, oF70, oR71, wTF70, wCF70, fF70, fR71, (jv_w p96 (by decide)), (hk95.symm.trans hSP)⟩
                                  refine g_lsub [1, 2, 0] [(0, .ref (ad 0)), (2, .int a1), (5, .int 0)] rfl ?_
                                  exact J341 8589934592 0 (jv_w (jv_k (x := 0) 0 (by decide)) (by decide)) (by have q0 := z75.1; have q1 := z75.2; have q2 := (jv_t (F55 70)).1; have q3 := (jv_t (F55 70)).2; have q4 := (jv_t (F55 72)).1; have q5 := (jv_t (F55 72)).2; have q6 := p57.1; have q7 := p57.2; have q8 := (g_ok_g oF70 14 rfl).1; have q9 := (g_ok_g oF70 14 rfl).2; have q10 := p28.1; have q11 := p28.2; have q12 := zpr.1; have q13 := zpr.2; have q14 := p44.1; have q15 := p44.2; have q16 := p59.1; have q17 := p59.2; have q18 := zx17; have q19 := zq72_0; have q20 := zq10; have q21 := zi124_0; have q22 := (gc_le zc43); have q23 := zre; have q24 := zi155_0; have q25 := zi155_1; have q26 := (gc_le zc58); have q27 := (congrArg Int32.toInt (show F70 75 = F55 75 from (cF70 75 rfl))); omega) hk74 (show (2147483647 - (0 : Int32).toInt).toNat < 8589934592 from by have q0 := (jv_k (x := 0) 0 (by decide)).1; have q1 := (jv_k (x := 0) 0 (by decide)).2; omega)
                                · have p97 := gn_eq 12 12 (gc_eq zc73) (jv_t a1) (jv_k (x := 12) 12 (by decide)) (by decide)
                                  have hk98 := hk72.trans (if_pos zc73)
                                  refine g_aload_n cx 0 rfl e_X11_put_282 ?_
                                  refine g_cVvW cx [] [] (w_X11_laysThings l X ad F70 R71 oF70 oR71 wTF70 wCF70) ml_X11_425 yV_X11_laysThings e_X11_put_283 (by unfold g_rr; decide) (by decide) 0 rfl rfl rfl (Nat.le_of_ble_eq_true rfl) (fun w100 h101 => ?_)
                                  obtain ⟨F104, R105, rfl, oF104, oR105, wTF104, wCF104, cF104, cR105, zx102, hx103⟩ := h101
                                  have hk106 := k_ls2 hk98 hx103
                                  have fF104 : g_fr md_X11_put F F104 := g_fr_c fF70 cF104 rfl
                                  have fR105 : g_fr mr_X11_put R R105 := g_fr_c fR71 cR105 rfl
                                  refine g_iconst cx 0 (by decide) e_X11_put_286 ?_
                                  refine g_istore cx [(5, .int 0), (0, .ref (ad 0)), (2, .int a1), (4, .int y41)] e_X11_put_287 (by decide) rfl ?_
                                  have J289 : ∀ (N : Nat) (R108 : Nat → Nat → Int32) (y107 : Int32), (g_okR LA_wM R108) → (g_fr mr_X11_put R R108) → (WT F104 R108) → (WC F104 R108) → (jv 0 5 y107) → ((F104 75).toInt = (F36 75).toInt) → (SP = K_X11_put_289 F55 F104 N R108 y107) → (2147483647 - y107.toInt).toNat < N → G X E 7 0 0 (wM X ad F104 R108) [(0, .ref (ad 0)), (5, .int y107)] 289 [] := by
                                    intro N
                                    induction N with
                                    | zero => intro R108 y107 oR108 fR108 wTR108 wCR108 py107 zi289_0 hkJ289 hm; exact absurd hm (Nat.not_lt_zero _)
                                    | succ N ih289 =>
                                      intro R108 y107 oR108 fR108 wTR108 wCR108 py107 zi289_0 hkJ289 hm289
                                      have hkK289 : SP = KB_X11_put_289 (K_X11_put_289 F55 F104 N) F55 F104 R108 y107 := hkJ289
                                      obtain ⟨b289, hb289⟩ : ∃ z, z = K_X11_put_289 F55 F104 N := ⟨_, rfl⟩
                                      rw [← hb289] at hkK289
                                      unfold KB_X11_put_289 at hkK289
                                      have p109 : jv 2 5 (F104 75) := ⟨by have q0 := (g_ok_g oF104 14 rfl).1; have q1 := (g_ok_g oF104 14 rfl).2; have q2 := z75.1; have q3 := z75.2; have q4 := (jv_t (F55 70)).1; have q5 := (jv_t (F55 70)).2; have q6 := (jv_t (F55 72)).1; have q7 := (jv_t (F55 72)).2; have q8 := p57.1; have q9 := p57.2; have q10 := p28.1; have q11 := p28.2; have q12 := zpr.1; have q13 := zpr.2; have q14 := p44.1; have q15 := p44.2; have q16 := p59.1; have q17 := p59.2; have q18 := zx17; have q19 := zq72_0; have q20 := zq10; have q21 := zi124_0; have q22 := (gc_le zc43); have q23 := zre; have q24 := zi155_0; have q25 := zi155_1; have q26 := (gc_le zc58); have q27 := (congrArg Int32.toInt (show F104 75 = F55 75 from ((cF104 75 rfl).trans (cF70 75 rfl)))); have q28 := zi289_0; have q29 := (congrArg Int32.toInt (show F104 75 = F55 75 from ((cF104 75 rfl).trans (cF70 75 rfl)))); omega, by have q0 := (g_ok_g oF104 14 rfl).1; have q1 := (g_ok_g oF104 14 rfl).2; have q2 := z75.1; have q3 := z75.2; have q4 := (jv_t (F55 70)).1; have q5 := (jv_t (F55 70)).2; have q6 := (jv_t (F55 72)).1; have q7 := (jv_t (F55 72)).2; have q8 := p57.1; have q9 := p57.2; have q10 := p28.1; have q11 := p28.2; have q12 := zpr.1; have q13 := zpr.2; have q14 := p44.1; have q15 := p44.2; have q16 := p59.1; have q17 := p59.2; have q18 := zx17; have q19 := zq72_0; have q20 := zq10; have q21 := zi124_0; have q22 := (gc_le zc43); have q23 := zre; have q24 := zi155_0; have q25 := zi155_1; have q26 := (gc_le zc58); have q27 := (congrArg Int32.toInt (show F104 75 = F55 75 from ((cF104 75 rfl).trans (cF70 75 rfl)))); have q28 := zi289_0; have q29 := (congrArg Int32.toInt (show F104 75 = F55 75 from ((cF104 75 rfl).trans (cF70 75 rfl)))); omega⟩
                                      refine g_iload cx 1 rfl e_X11_put_289 ?_
                                      refine g_aload_n cx 0 rfl e_X11_put_291 ?_
                                      refine g_get cx cl_X11 fl_X11_464 0 (.int (F104 75)) e_X11_put_292 rfl rfl ?_
                                      refine g_toi (F55 75) ((cF104 75 rfl).trans (cF70 75 rfl)) ?_
                                      refine g_icmp_ge cx 333 e_X11_put_295 (by decide) (fun zc110 => ?_) (fun zc110 => ?_)
                                      · have p111 := gn_ge 2 5 (gc_le zc110) py107 p57 (by decide)
                                        have hk112 := hkK289.trans (if_pos zc110)
                                        refine g_aload_n cx 0 rfl e_X11_put_333 ?_
                                        refine g_get cx cl_X11 fl_X11_449 0 (.int (F104 70)) e_X11_put_334 rfl rfl ?_
                                        refine g_toi (F55 70) ((cF104 70 rfl).trans (cF70 70 rfl)) ?_
                                        exact hret e_X11_put_337 (Nat.le_of_ble_eq_true rfl) (Nat.le_of_ble_eq_true rfl) rfl ⟨F104, R108, rfl, oF104, oR108, wTR108, wCR108, fF104, fR108, (jv_t (F55 70)), (hk112.symm.trans hSP)⟩
                                      · have p113 := gn_lt 0 4 (gc_nle zc110) py107 p57 (by decide)
                                        have hk114 := hkK289.trans (if_neg zc110)
                                        refine g_aload_n cx 0 rfl e_X11_put_298 ?_
                                        refine g_get cx cl_X11 fl_X11_13 0 (.ref (ad 2)) e_X11_put_299 rfl rfl ?_
                                        refine g_aload_n cx 0 rfl e_X11_put_302 ?_
                                        refine g_get cx cl_X11 fl_X11_122 0 (.ref (ad 38)) e_X11_put_303 rfl rfl ?_
                                        refine g_iload cx 1 rfl e_X11_put_306 ?_
                                        refine g_iald cx 38 e_X11_put_308 rfl (jv_ix 5 p113 (by decide)) ?_
                                        refine g_topi (fun x115 ex115 => ?_)
                                        have hk116 := k_ls hk114 ex115
                                        have p117 : jv 0 9 x115 := by rw [ex115]; exact g_okR_g oR108 4 rfl (jv_cl 5 p113 (by decide))
                                        refine g_aload_n cx 0 rfl e_X11_put_309 ?_
                                        refine g_get cx cl_X11 fl_X11_86 0 (.ref (ad 26)) e_X11_put_310 rfl rfl ?_
                                        refine g_aload_n cx 0 rfl e_X11_put_313 ?_
                                        refine g_get cx cl_X11 fl_X11_122 0 (.ref (ad 38)) e_X11_put_314 rfl rfl ?_
                                        refine g_aload_n cx 0 rfl e_X11_put_317 ?_
                                        refine g_get cx cl_X11 fl_X11_125 0 (.ref (ad 39)) e_X11_put_318 rfl rfl ?_
                                        refine g_iload cx 1 rfl e_X11_put_321 ?_
                                        refine g_iald cx 39 e_X11_put_323 rfl (jv_ix 5 p113 (by decide)) ?_
                                        refine g_topi (fun x118 ex118 => ?_)
                                        have hk119 := k_ls hk116 ex118
                                        have p120 : jv 0 4 x118 := by rw [ex118]; exact g_okR_g oR108 5 rfl (jv_cl 5 p113 (by decide))
                                        refine g_iald cx 38 e_X11_put_324 rfl (jv_ix 5 p120 (by decide)) ?_
                                        refine g_topi (fun x121 ex121 => ?_)
                                        have hk122 := k_ls hk119 ex121
                                        have p123 : jv 0 9 x121 := by rw [ex121]; exact g_okR_g oR108 4 rfl (jv_cl 5 p120 (by decide))
                                        refine g_iald cx 26 e_X11_put_325 rfl (jv_ix 10 p123 (by decide)) ?_
                                        refine g_topi (fun x124 ex124 => ?_)
                                        have hk125 := k_ls hk122 ex124
                                        refine g_iast cx 2 (wM X ad F104 (g_u R108 2 (upd (R108 2) (Int32.toNatClampNeg x115) x124))) e_X11_put_326 rfl (jv_ix 10 p117 (by decide)) rfl ?_
                                        obtain ⟨R126, hR126⟩ : ∃ z, z = g_u R108 2 (upd (R108 2) (Int32.toNatClampNeg x115) x124) := ⟨_, rfl⟩
                                        rw [← hR126]
                                        have hk127 := k_ls hk125 hR126
                                        have oR126 : g_okR LA_wM R126 := by rw [hR126]; exact g_okR_u oR108 rfl
                                        have fR126 : g_fr mr_X11_put R R126 := by rw [hR126]; exact g_fr_r fR108 rfl
                                        have wTR126 : WT F104 R126 := by rw [hR126]; exact WT_r wTR108 rfl
                                        have wCR126 : WC F104 R126 := by rw [hR126]; exact WC_r wCR108 rfl
                                        obtain ⟨x128, ex128⟩ : ∃ z : Int32, z = y107 + Int32.ofInt 1 := ⟨_, rfl⟩
                                        have hk129 := k_ls hk127 (show x128 = y107 + 1 from ex128)
                                        refine g_iinc cx x128 [(5, .int x128), (0, .ref (ad 0))] 1 e_X11_put_327 rfl ex128.symm (by decide) rfl ?_
                                        have zx128 := jv_add 1 5 (show x128 = y107 + 1 from ex128) p113 (jv_k (x := 1) 1 (by decide)) (by decide)
                                        refine g_goto cx 289 e_X11_put_330 (by decide) ?_
                                        refine g_lsub [1, 0] [(0, .ref (ad 0)), (5, .int x128)] rfl ?_
                                        exact ih289 R126 x128 oR126 fR126 wTR126 wCR126 (jv_w zx128.2 (by decide)) (by have q0 := (jv_k (x := 1) 1 (by decide)).1; have q1 := (jv_k (x := 1) 1 (by decide)).2; have q2 := p109.1; have q3 := p109.2; have q4 := z75.1; have q5 := z75.2; have q6 := (jv_t (F55 70)).1; have q7 := (jv_t (F55 70)).2; have q8 := (jv_t (F55 72)).1; have q9 := (jv_t (F55 72)).2; have q10 := p57.1; have q11 := p57.2; have q12 := p28.1; have q13 := p28.2; have q14 := zx128.2.1; have q15 := zx128.2.2; have q16 := p113.1; have q17 := p113.2; have q18 := zpr.1; have q19 := zpr.2; have q20 := p44.1; have q21 := p44.2; have q22 := p59.1; have q23 := p59.2; have q24 := zx17; have q25 := zq72_0; have q26 := zq10; have q27 := zi124_0; have q28 := (gc_le zc43); have q29 := zre; have q30 := zi155_0; have q31 := zi155_1; have q32 := (gc_le zc58); have q33 := (congrArg Int32.toInt (show F104 75 = F55 75 from ((cF104 75 rfl).trans (cF70 75 rfl)))); have q34 := zi289_0; have q35 := (congrArg Int32.toInt (show F104 75 = F55 75 from ((cF104 75 rfl).trans (cF70 75 rfl)))); have q36 := (gc_nle zc110); have q37 := (g_eq0 zx128.1); have q38 := (congrArg Int32.toInt (show F104 75 = F55 75 from ((cF104 75 rfl).trans (cF70 75 rfl)))); omega) (hk129.trans (by rw [hb289])) (Nat.lt_of_lt_of_le (show (2147483647 - x128.toInt).toNat < (2147483647 - y107.toInt).toNat from by have q0 := (jv_k (x := 1) 1 (by decide)).1; have q1 := (jv_k (x := 1) 1 (by decide)).2; have q2 := p109.1; have q3 := p109.2; have q4 := z75.1; have q5 := z75.2; have q6 := (jv_t (F55 70)).1; have q7 := (jv_t (F55 70)).2; have q8 := (jv_t (F55 72)).1; have q9 := (jv_t (F55 72)).2; have q10 := p57.1; have q11 := p57.2; have q12 := p28.1; have q13 := p28.2; have q14 := zx128.2.1; have q15 := zx128.2.2; have q16 := p113.1; have q17 := p113.2; have q18 := zpr.1; have q19 := zpr.2; have q20 := p44.1; have q21 := p44.2; have q22 := p59.1; have q23 := p59.2; have q24 := zx17; have q25 := zq72_0; have q26 := zq10; have q27 := zi124_0; have q28 := (gc_le zc43); have q29 := zre; have q30 := zi155_0; have q31 := zi155_1; have q32 := (gc_le zc58); have q33 := (congrArg Int32.toInt (show F104 75 = F55 75 from ((cF104 75 rfl).trans (cF70 75 rfl)))); have q34 := zi289_0; have q35 := (congrArg Int32.toInt (show F104 75 = F55 75 from ((cF104 75 rfl).trans (cF70 75 rfl)))); have q36 := (gc_nle zc110); have q37 := (g_eq0 zx128.1); have q38 := (congrArg Int32.toInt (show F104 75 = F55 75 from ((cF104 75 rfl).trans (cF70 75 rfl)))); omega) (Nat.le_of_lt_succ hm289))
                                  refine g_lsub [1, 0] [(0, .ref (ad 0)), (5, .int 0)] rfl ?_
                                  exact J289 8589934592 R105 0 oR105 fR105 wTF104 wCF104 (jv_w (jv_k (x := 0) 0 (by decide)) (by decide)) (by have q0 := (g_ok_g oF104 14 rfl).1; have q1 := (g_ok_g oF104 14 rfl).2; have q2 := z75.1; have q3 := z75.2; have q4 := (jv_t (F55 70)).1; have q5 := (jv_t (F55 70)).2; have q6 := (jv_t (F55 72)).1; have q7 := (jv_t (F55 72)).2; have q8 := p57.1; have q9 := p57.2; have q10 := p28.1; have q11 := p28.2; have q12 := zpr.1; have q13 := zpr.2; have q14 := p44.1; have q15 := p44.2; have q16 := p59.1; have q17 := p59.2; have q18 := zx17; have q19 := zq72_0; have q20 := zq10; have q21 := zi124_0; have q22 := (gc_le zc43); have q23 := zre; have q24 := zi155_0; have q25 := zi155_1; have q26 := (gc_le zc58); have q27 := (congrArg Int32.toInt (show F104 75 = F55 75 from ((cF104 75 rfl).trans (cF70 75 rfl)))); omega) hk106 (show (2147483647 - (0 : Int32).toInt).toNat < 8589934592 from by have q0 := (jv_k (x := 0) 0 (by decide)).1; have q1 := (jv_k (x := 0) 0 (by decide)).2; omega)
                              · have p130 := gn_eq 10 10 (gc_eq zc63) (jv_t a1) (jv_k (x := 10) 10 (by decide)) (by decide)
                                have hk131 := hk62.trans (if_pos zc63)
                                refine g_aload_n cx 0 rfl e_X11_put_262 ?_
                                refine g_get cx cl_X11 fl_X11_449 0 (.int (F55 70)) e_X11_put_263 rfl rfl ?_
                                exact hret e_X11_put_266 (Nat.le_of_ble_eq_true rfl) (Nat.le_of_ble_eq_true rfl) rfl ⟨F55, R56, rfl, oF55, oR56, wTF55R56, wCF55R56, fF55, fR56, (jv_t (F55 70)), (hk131.symm.trans hSP)⟩
                            · have p132 := gn_eq 11 11 (gc_eq zc61) (jv_t a1) (jv_k (x := 11) 11 (by decide)) (by decide)
                              have hk133 := hk60.trans (if_pos zc61)
                              refine g_aload_n cx 0 rfl e_X11_put_251 ?_
                              refine g_get cx cl_X11 fl_X11_452 0 (.int (F55 71)) e_X11_put_252 rfl rfl ?_
                              exact hret e_X11_put_255 (Nat.le_of_ble_eq_true rfl) (Nat.le_of_ble_eq_true rfl) rfl ⟨F55, R56, rfl, oF55, oR56, wTF55R56, wCF55R56, fF55, fR56, (jv_t (F55 71)), (hk133.symm.trans hSP)⟩
                          · have p134 := gn_lt 0 3124 (gc_nle zc58) py54 zpr (by decide)
                            have hk135 := hkK155.trans (if_neg zc58)
                            refine g_aload_n cx 0 rfl e_X11_put_162 ?_
                            refine g_iload cx 3 rfl e_X11_put_163 ?_
                            refine g_cViW cx [.int y54] [] (w_X11_readsRow l X ad F55 R56 oF55 oR56 wTF55R56 wCF55R56 y54 p134 (show jv 2 5 (F55 75) from ⟨by have q0 := z75.1; have q1 := z75.2; have q2 := (jv_t (F55 70)).1; have q3 := (jv_t (F55 70)).2; have q4 := (jv_t (F55 72)).1; have q5 := (jv_t (F55 72)).2; have q6 := p57.1; have q7 := p57.2; have q8 := p28.1; have q9 := p28.2; have q10 := zpr.1; have q11 := zpr.2; have q12 := p44.1; have q13 := p44.2; have q14 := p134.1; have q15 := p134.2; have q16 := zx17; have q17 := zq72_0; have q18 := zq10; have q19 := zi124_0; have q20 := (gc_le zc43); have q21 := zre; have q22 := zi155_0; have q23 := zi155_1; have q24 := (gc_nle zc58); omega, by have q0 := z75.1; have q1 := z75.2; have q2 := (jv_t (F55 70)).1; have q3 := (jv_t (F55 70)).2; have q4 := (jv_t (F55 72)).1; have q5 := (jv_t (F55 72)).2; have q6 := p57.1; have q7 := p57.2; have q8 := p28.1; have q9 := p28.2; have q10 := zpr.1; have q11 := zpr.2; have q12 := p44.1; have q13 := p44.2; have q14 := p134.1; have q15 := p134.2; have q16 := zx17; have q17 := zq72_0; have q18 := zq10; have q19 := zi124_0; have q20 := (gc_le zc43); have q21 := zre; have q22 := zi155_0; have q23 := zi155_1; have q24 := (gc_nle zc58); omega⟩)) ml_X11_467 yV_X11_readsRow e_X11_put_165 (by unfold g_rr; decide) (by decide) 0 rfl rfl rfl (Nat.le_of_ble_eq_true rfl) (fun r136 w137 h138 => ?_)
                            obtain ⟨F141, R142, rfl, oF141, oR142, wTF141, wCF141, cF141, cR142, pr136, zx139, hx140⟩ := h138
                            have hk143 := k_ls3 hk135 hx140
                            have fF141 : g_fr md_X11_put F F141 := g_fr_c fF55 cF141 rfl
                            have fR142 : g_fr mr_X11_put R R142 := g_fr_c fR56 cR142 rfl
                            have J239 : ∀ (F144 : Nat → Int32) (R145 : Nat → Nat → Int32), (g_ok LK_wM F144) → (g_fr md_X11_put F F144) → (g_okR LA_wM R145) → (g_fr mr_X11_put R R145) → (WT F144 R145) → (WC F144 R145) → ((F144 75).toInt = (F36 75).toInt) → ((0 ≤ (F144 72).toInt ∧ (F144 72).toInt ≤ 3124) ∨ ((F144 70).toInt = -1 ∧ ((F36 75).toInt = 2 ∧ (y54 : Int32).toInt + 1 ≤ 1 ∨ (F36 75).toInt = 3 ∧ (y54 : Int32).toInt + 1 ≤ 5 ∨ (F36 75).toInt = 4 ∧ (y54 : Int32).toInt + 1 ≤ 27 ∨ (F36 75).toInt = 5 ∧ (y54 : Int32).toInt + 1 ≤ 194))) → (SP = K_X11_put_239 b155 y54 F144 R145) → G X E 7 0 0 (wM X ad F144 R145) [(0, .ref (ad 0)), (2, .int a1), (4, .int y41), (5, .int y54)] 239 [] := by
                              intro F144 R145 oF144 fF144 oR145 fR145 wTF144R145 wCF144R145 zi239_0 zi239_1 hkJ239
                              unfold K_X11_put_239 at hkJ239
                              have p146 : jv 2 5 (F144 75) := ⟨by have q0 := (jv_t (F144 70)).1; have q1 := (jv_t (F144 70)).2; have q2 := (jv_t (F144 72)).1; have q3 := (jv_t (F144 72)).2; have q4 := (g_ok_g oF144 14 rfl).1; have q5 := (g_ok_g oF144 14 rfl).2; have q6 := z75.1; have q7 := z75.2; have q8 := (jv_t (F55 70)).1; have q9 := (jv_t (F55 70)).2; have q10 := (jv_t (F55 72)).1; have q11 := (jv_t (F55 72)).2; have q12 := p57.1; have q13 := p57.2; have q14 := p28.1; have q15 := p28.2; have q16 := zpr.1; have q17 := zpr.2; have q18 := p44.1; have q19 := p44.2; have q20 := p134.1; have q21 := p134.2; have q22 := zx17; have q23 := zq72_0; have q24 := zq10; have q25 := zi124_0; have q26 := (gc_le zc43); have q27 := zre; have q28 := zi155_0; have q29 := zi155_1; have q30 := (gc_nle zc58); have q31 := zi239_0; have q32 := zi239_1; omega, by have q0 := (jv_t (F144 70)).1; have q1 := (jv_t (F144 70)).2; have q2 := (jv_t (F144 72)).1; have q3 := (jv_t (F144 72)).2; have q4 := (g_ok_g oF144 14 rfl).1; have q5 := (g_ok_g oF144 14 rfl).2; have q6 := z75.1; have q7 := z75.2; have q8 := (jv_t (F55 70)).1; have q9 := (jv_t (F55 70)).2; have q10 := (jv_t (F55 72)).1; have q11 := (jv_t (F55 72)).2; have q12 := p57.1; have q13 := p57.2; have q14 := p28.1; have q15 := p28.2; have q16 := zpr.1; have q17 := zpr.2; have q18 := p44.1; have q19 := p44.2; have q20 := p134.1; have q21 := p134.2; have q22 := zx17; have q23 := zq72_0; have q24 := zq10; have q25 := zi124_0; have q26 := (gc_le zc43); have q27 := zre; have q28 := zi155_0; have q29 := zi155_1; have q30 := (gc_nle zc58); have q31 := zi239_0; have q32 := zi239_1; omega⟩
                              obtain ⟨x147, ex147⟩ : ∃ z : Int32, z = y54 + Int32.ofInt 1 := ⟨_, rfl⟩
                              have hk148 := k_ls hkJ239 (show x147 = y54 + 1 from ex147)
                              refine g_iinc cx x147 [(5, .int x147), (0, .ref (ad 0)), (2, .int a1), (4, .int y41)] 3 e_X11_put_239 rfl ex147.symm (by decide) rfl ?_
                              have zx147 := jv_add 1 3125 (show x147 = y54 + 1 from ex147) p134 (jv_k (x := 1) 1 (by decide)) (by decide)
                              refine g_goto cx 155 e_X11_put_242 (by decide) ?_
                              refine g_lsub [1, 2, 3, 0] [(0, .ref (ad 0)), (2, .int a1), (4, .int y41), (5, .int x147)] rfl ?_
                              exact ih155 F144 R145 x147 oF144 fF144 oR145 fR145 wTF144R145 wCF144R145 (jv_w zx147.2 (by decide)) (by have q0 := (jv_k (x := 1) 1 (by decide)).1; have q1 := (jv_k (x := 1) 1 (by decide)).2; have q2 := (jv_t (F144 70)).1; have q3 := (jv_t (F144 70)).2; have q4 := (jv_t (F144 72)).1; have q5 := (jv_t (F144 72)).2; have q6 := p146.1; have q7 := p146.2; have q8 := z75.1; have q9 := z75.2; have q10 := (jv_t (F55 70)).1; have q11 := (jv_t (F55 70)).2; have q12 := (jv_t (F55 72)).1; have q13 := (jv_t (F55 72)).2; have q14 := p57.1; have q15 := p57.2; have q16 := p28.1; have q17 := p28.2; have q18 := zx147.2.1; have q19 := zx147.2.2; have q20 := zpr.1; have q21 := zpr.2; have q22 := p44.1; have q23 := p44.2; have q24 := p134.1; have q25 := p134.2; have q26 := zx17; have q27 := zq72_0; have q28 := zq10; have q29 := zi124_0; have q30 := (gc_le zc43); have q31 := zre; have q32 := zi155_0; have q33 := zi155_1; have q34 := (gc_nle zc58); have q35 := zi239_0; have q36 := zi239_1; have q37 := (g_eq0 zx147.1); omega) (by have q0 := (jv_k (x := 1) 1 (by decide)).1; have q1 := (jv_k (x := 1) 1 (by decide)).2; have q2 := (jv_t (F144 70)).1; have q3 := (jv_t (F144 70)).2; have q4 := (jv_t (F144 72)).1; have q5 := (jv_t (F144 72)).2; have q6 := p146.1; have q7 := p146.2; have q8 := z75.1; have q9 := z75.2; have q10 := (jv_t (F55 70)).1; have q11 := (jv_t (F55 70)).2; have q12 := (jv_t (F55 72)).1; have q13 := (jv_t (F55 72)).2; have q14 := p57.1; have q15 := p57.2; have q16 := p28.1; have q17 := p28.2; have q18 := zx147.2.1; have q19 := zx147.2.2; have q20 := zpr.1; have q21 := zpr.2; have q22 := p44.1; have q23 := p44.2; have q24 := p134.1; have q25 := p134.2; have q26 := zx17; have q27 := zq72_0; have q28 := zq10; have q29 := zi124_0; have q30 := (gc_le zc43); have q31 := zre; have q32 := zi155_0; have q33 := zi155_1; have q34 := (gc_nle zc58); have q35 := zi239_0; have q36 := zi239_1; have q37 := (g_eq0 zx147.1); omega) (hk148.trans (by rw [hb155])) (Nat.lt_of_lt_of_le (show (2147483647 - x147.toInt).toNat < (2147483647 - y54.toInt).toNat from by have q0 := (jv_k (x := 1) 1 (by decide)).1; have q1 := (jv_k (x := 1) 1 (by decide)).2; have q2 := (jv_t (F144 70)).1; have q3 := (jv_t (F144 70)).2; have q4 := (jv_t (F144 72)).1; have q5 := (jv_t (F144 72)).2; have q6 := p146.1; have q7 := p146.2; have q8 := z75.1; have q9 := z75.2; have q10 := (jv_t (F55 70)).1; have q11 := (jv_t (F55 70)).2; have q12 := (jv_t (F55 72)).1; have q13 := (jv_t (F55 72)).2; have q14 := p57.1; have q15 := p57.2; have q16 := p28.1; have q17 := p28.2; have q18 := zx147.2.1; have q19 := zx147.2.2; have q20 := zpr.1; have q21 := zpr.2; have q22 := p44.1; have q23 := p44.2; have q24 := p134.1; have q25 := p134.2; have q26 := zx17; have q27 := zq72_0; have q28 := zq10; have q29 := zi124_0; have q30 := (gc_le zc43); have q31 := zre; have q32 := zi155_0; have q33 := zi155_1; have q34 := (gc_nle zc58); have q35 := zi239_0; have q36 := zi239_1; have q37 := (g_eq0 zx147.1); omega) (Nat.le_of_lt_succ hm155))
                            refine g_if_ne cx 174 e_X11_put_168 (by decide) (fun zc149 => ?_) (fun zc149 => ?_)
                            · have p150 := gn_neL 1 1 (gc_ne zc149) pr136 (jv_k (x := 0) 0 (by decide)) (by decide)
                              have hk151 := hk143.trans (if_neg zc149)
                              refine g_aload_n cx 0 rfl e_X11_put_174 ?_
                              refine g_cVvW cx [] [] (w_X11_laysPull l X ad F141 R142 oF141 oR142 wTF141 wCF141) ml_X11_422 yV_X11_laysPull e_X11_put_175 (by unfold g_rr; decide) (by decide) 0 rfl rfl rfl (Nat.le_of_ble_eq_true rfl) (fun w153 h154 => ?_)
                              obtain ⟨F156, R157, rfl, oF156, oR157, wTF156, wCF156, cF156, cR157, hx155⟩ := h154
                              have hk158 := k_ls2 hk151 hx155
                              have fF156 : g_fr md_X11_put F F156 := g_fr_c fF141 cF156 rfl
                              have fR157 : g_fr mr_X11_put R R157 := g_fr_c fR142 cR157 rfl
                              refine g_aload_n cx 0 rfl e_X11_put_178 ?_
                              refine g_cVvW cx [] [] (w_X11_laysThings l X ad F156 R157 oF156 oR157 wTF156 wCF156) ml_X11_425 yV_X11_laysThings e_X11_put_179 (by unfold g_rr; decide) (by decide) 0 rfl rfl rfl (Nat.le_of_ble_eq_true rfl) (fun w160 h161 => ?_)
                              obtain ⟨F164, R165, rfl, oF164, oR165, wTF164, wCF164, cF164, cR165, zx162, hx163⟩ := h161
                              have hk166 := k_ls2 hk158 hx163
                              have fF164 : g_fr md_X11_put F F164 := g_fr_c fF156 cF164 rfl
                              have fR165 : g_fr mr_X11_put R R165 := g_fr_c fR157 cR165 rfl
                              refine g_iconst cx 0 (by decide) e_X11_put_182 ?_
                              refine g_istore cx [(6, .int 0), (0, .ref (ad 0)), (2, .int a1), (4, .int y41), (5, .int y54)] e_X11_put_183 (by decide) rfl ?_
                              have J185 : ∀ (N : Nat) (R168 : Nat → Nat → Int32) (y167 : Int32), (g_okR LA_wM R168) → (g_fr mr_X11_put R R168) → (WT F164 R168) → (WC F164 R168) → (jv 0 5 y167) → ((F164 75).toInt = (F36 75).toInt) → (SP = K_X11_put_185 b155 F55 F164 y54 N R168 y167) → (2147483647 - y167.toInt).toNat < N → G X E 7 0 0 (wM X ad F164 R168) [(0, .ref (ad 0)), (2, .int a1), (4, .int y41), (5, .int y54), (6, .int y167)] 185 [] := by
                                intro N
                                induction N with
                                | zero => intro R168 y167 oR168 fR168 wTR168 wCR168 py167 zi185_0 hkJ185 hm; exact absurd hm (Nat.not_lt_zero _)
                                | succ N ih185 =>
                                  intro R168 y167 oR168 fR168 wTR168 wCR168 py167 zi185_0 hkJ185 hm185
                                  have hkK185 : SP = KB_X11_put_185 (K_X11_put_185 b155 F55 F164 y54 N) b155 F55 F164 y54 R168 y167 := hkJ185
                                  obtain ⟨b185, hb185⟩ : ∃ z, z = K_X11_put_185 b155 F55 F164 y54 N := ⟨_, rfl⟩
                                  rw [← hb185] at hkK185
                                  unfold KB_X11_put_185 at hkK185
                                  have p169 : jv 2 5 (F164 75) := ⟨by have q0 := (g_ok_g oF164 14 rfl).1; have q1 := (g_ok_g oF164 14 rfl).2; have q2 := z75.1; have q3 := z75.2; have q4 := (jv_t (F55 70)).1; have q5 := (jv_t (F55 70)).2; have q6 := (jv_t (F55 72)).1; have q7 := (jv_t (F55 72)).2; have q8 := p57.1; have q9 := p57.2; have q10 := p28.1; have q11 := p28.2; have q12 := zpr.1; have q13 := zpr.2; have q14 := p44.1; have q15 := p44.2; have q16 := p134.1; have q17 := p134.2; have q18 := zx17; have q19 := zq72_0; have q20 := zq10; have q21 := zi124_0; have q22 := (gc_le zc43); have q23 := zre; have q24 := zi155_0; have q25 := zi155_1; have q26 := (gc_nle zc58); have q27 := (congrArg Int32.toInt (show F164 75 = F55 75 from (((cF164 75 rfl).trans (cF156 75 rfl)).trans (cF141 75 rfl)))); have q28 := zi185_0; have q29 := (congrArg Int32.toInt (show F164 75 = F55 75 from (((cF164 75 rfl).trans (cF156 75 rfl)).trans (cF141 75 rfl)))); omega, by have q0 := (g_ok_g oF164 14 rfl).1; have q1 := (g_ok_g oF164 14 rfl).2; have q2 := z75.1; have q3 := z75.2; have q4 := (jv_t (F55 70)).1; have q5 := (jv_t (F55 70)).2; have q6 := (jv_t (F55 72)).1; have q7 := (jv_t (F55 72)).2; have q8 := p57.1; have q9 := p57.2; have q10 := p28.1; have q11 := p28.2; have q12 := zpr.1; have q13 := zpr.2; have q14 := p44.1; have q15 := p44.2; have q16 := p134.1; have q17 := p134.2; have q18 := zx17; have q19 := zq72_0; have q20 := zq10; have q21 := zi124_0; have q22 := (gc_le zc43); have q23 := zre; have q24 := zi155_0; have q25 := zi155_1; have q26 := (gc_nle zc58); have q27 := (congrArg Int32.toInt (show F164 75 = F55 75 from (((cF164 75 rfl).trans (cF156 75 rfl)).trans (cF141 75 rfl)))); have q28 := zi185_0; have q29 := (congrArg Int32.toInt (show F164 75 = F55 75 from (((cF164 75 rfl).trans (cF156 75 rfl)).trans (cF141 75 rfl)))); omega⟩
                                  refine g_iload cx 4 rfl e_X11_put_185 ?_
                                  refine g_aload_n cx 0 rfl e_X11_put_187 ?_
                                  refine g_get cx cl_X11 fl_X11_464 0 (.int (F164 75)) e_X11_put_188 rfl rfl ?_
                                  refine g_toi (F55 75) (((cF164 75 rfl).trans (cF156 75 rfl)).trans (cF141 75 rfl)) ?_
                                  refine g_icmp_ge cx 229 e_X11_put_191 (by decide) (fun zc170 => ?_) (fun zc170 => ?_)
                                  · have p171 := gn_ge 2 5 (gc_le zc170) py167 p57 (by decide)
                                    have hk172 := hkK185.trans (if_pos zc170)
                                    refine g_aload_n cx 0 rfl e_X11_put_229 ?_
                                    refine g_cVvW cx [] [] (w_X11_runs l X ad F164 R168 oF164 oR168 wTR168 wCR168 (WN_of wTR168 ((zx162.trans ((((cF164 4 rfl).trans (cF156 4 rfl)).trans (cF141 4 rfl)).trans (fF55 4 rfl))).trans ((((cF164 4 rfl).trans (cF156 4 rfl)).trans (cF141 4 rfl)).trans (fF55 4 rfl)).symm))) ml_X11_428 yV_X11_runs e_X11_put_230 (by unfold g_rr; decide) (by decide) 0 rfl rfl rfl (Nat.le_of_ble_eq_true rfl) (fun w174 h175 => ?_)
                                    obtain ⟨F177, R178, rfl, oF177, oR178, wTF177, wCF177, cF177, cR178, hx176⟩ := h175
                                    have hk179 := k_ls2 hk172 hx176
                                    have fF177 : g_fr md_X11_put F F177 := g_fr_c fF164 cF177 rfl
                                    have fR178 : g_fr mr_X11_put R R178 := g_fr_c fR168 cR178 rfl
                                    refine g_aload_n cx 0 rfl e_X11_put_233 ?_
                                    refine g_iload cx 3 rfl e_X11_put_234 ?_
                                    refine g_cVvW cx [.int y54] [] (w_X11_better l X ad F177 R178 oF177 oR178 wTF177 wCF177 y54) ml_X11_461 yV_X11_better e_X11_put_236 (by unfold g_rr; decide) (by decide) 0 rfl rfl rfl (Nat.le_of_ble_eq_true rfl) (fun w181 h182 => ?_)
                                    obtain ⟨F186, R187, rfl, oF186, oR187, wTF186, wCF186, cF186, cR187, zx183, zx184, hx185⟩ := h182
                                    have hk188 := k_ls2 hk179 hx185
                                    have fF186 : g_fr md_X11_put F F186 := g_fr_c fF177 cF186 rfl
                                    have fR187 : g_fr mr_X11_put R R187 := g_fr_c fR178 cR187 rfl
                                    refine g_lsub [0, 1, 2, 3] [(0, .ref (ad 0)), (2, .int a1), (4, .int y41), (5, .int y54)] rfl ?_
                                    exact J239 F186 R187 oF186 fF186 oR187 fR187 wTF186 wCF186 (by have q0 := p169.1; have q1 := p169.2; have q2 := (jv_t (F177 70)).1; have q3 := (jv_t (F177 70)).2; have q4 := (jv_t (F177 72)).1; have q5 := (jv_t (F177 72)).2; have q6 := (jv_t (F186 70)).1; have q7 := (jv_t (F186 70)).2; have q8 := (jv_t (F186 72)).1; have q9 := (jv_t (F186 72)).2; have q10 := (g_ok_g oF186 14 rfl).1; have q11 := (g_ok_g oF186 14 rfl).2; have q12 := z75.1; have q13 := z75.2; have q14 := (jv_t (F55 70)).1; have q15 := (jv_t (F55 70)).2; have q16 := (jv_t (F55 72)).1; have q17 := (jv_t (F55 72)).2; have q18 := p57.1; have q19 := p57.2; have q20 := p28.1; have q21 := p28.2; have q22 := p171.1; have q23 := p171.2; have q24 := zpr.1; have q25 := zpr.2; have q26 := p44.1; have q27 := p44.2; have q28 := p134.1; have q29 := p134.2; have q30 := zx17; have q31 := zq72_0; have q32 := zq10; have q33 := zi124_0; have q34 := (gc_le zc43); have q35 := zre; have q36 := zi155_0; have q37 := zi155_1; have q38 := (gc_nle zc58); have q39 := (congrArg Int32.toInt (show F164 75 = F55 75 from (((cF164 75 rfl).trans (cF156 75 rfl)).trans (cF141 75 rfl)))); have q40 := zi185_0; have q41 := (congrArg Int32.toInt (show F164 75 = F55 75 from (((cF164 75 rfl).trans (cF156 75 rfl)).trans (cF141 75 rfl)))); have q42 := (gc_le zc170); have q43 := zx183; have q44 := (congrArg Int32.toInt (show F177 70 = F55 70 from ((((cF177 70 rfl).trans (cF164 70 rfl)).trans (cF156 70 rfl)).trans (cF141 70 rfl)))); have q45 := (congrArg Int32.toInt (show F177 72 = F55 72 from ((((cF177 72 rfl).trans (cF164 72 rfl)).trans (cF156 72 rfl)).trans (cF141 72 rfl)))); have q46 := zx184; have q47 := (congrArg Int32.toInt (show F186 75 = F55 75 from (((((cF186 75 rfl).trans (cF177 75 rfl)).trans (cF164 75 rfl)).trans (cF156 75 rfl)).trans (cF141 75 rfl)))); omega) (by have q0 := p169.1; have q1 := p169.2; have q2 := (jv_t (F177 70)).1; have q3 := (jv_t (F177 70)).2; have q4 := (jv_t (F177 72)).1; have q5 := (jv_t (F177 72)).2; have q6 := (jv_t (F186 70)).1; have q7 := (jv_t (F186 70)).2; have q8 := (jv_t (F186 72)).1; have q9 := (jv_t (F186 72)).2; have q10 := (g_ok_g oF186 14 rfl).1; have q11 := (g_ok_g oF186 14 rfl).2; have q12 := z75.1; have q13 := z75.2; have q14 := (jv_t (F55 70)).1; have q15 := (jv_t (F55 70)).2; have q16 := (jv_t (F55 72)).1; have q17 := (jv_t (F55 72)).2; have q18 := p57.1; have q19 := p57.2; have q20 := p28.1; have q21 := p28.2; have q22 := p171.1; have q23 := p171.2; have q24 := zpr.1; have q25 := zpr.2; have q26 := p44.1; have q27 := p44.2; have q28 := p134.1; have q29 := p134.2; have q30 := zx17; have q31 := zq72_0; have q32 := zq10; have q33 := zi124_0; have q34 := (gc_le zc43); have q35 := zre; have q36 := zi155_0; have q37 := zi155_1; have q38 := (gc_nle zc58); have q39 := (congrArg Int32.toInt (show F164 75 = F55 75 from (((cF164 75 rfl).trans (cF156 75 rfl)).trans (cF141 75 rfl)))); have q40 := zi185_0; have q41 := (congrArg Int32.toInt (show F164 75 = F55 75 from (((cF164 75 rfl).trans (cF156 75 rfl)).trans (cF141 75 rfl)))); have q42 := (gc_le zc170); have q43 := zx183; have q44 := (congrArg Int32.toInt (show F177 70 = F55 70 from ((((cF177 70 rfl).trans (cF164 70 rfl)).trans (cF156 70 rfl)).trans (cF141 70 rfl)))); have q45 := (congrArg Int32.toInt (show F177 72 = F55 72 from ((((cF177 72 rfl).trans (cF164 72 rfl)).trans (cF156 72 rfl)).trans (cF141 72 rfl)))); have q46 := zx184; have q47 := (congrArg Int32.toInt (show F186 75 = F55 75 from (((((cF186 75 rfl).trans (cF177 75 rfl)).trans (cF164 75 rfl)).trans (cF156 75 rfl)).trans (cF141 75 rfl)))); omega) hk188
                                  · have p189 := gn_lt 0 4 (gc_nle zc170) py167 p57 (by decide)
                                    have hk190 := hkK185.trans (if_neg zc170)
                                    refine g_aload_n cx 0 rfl e_X11_put_194 ?_
                                    refine g_get cx cl_X11 fl_X11_86 0 (.ref (ad 26)) e_X11_put_195 rfl rfl ?_
                                    refine g_aload_n cx 0 rfl e_X11_put_198 ?_
                                    refine g_get cx cl_X11 fl_X11_122 0 (.ref (ad 38)) e_X11_put_199 rfl rfl ?_
                                    refine g_iload cx 4 rfl e_X11_put_202 ?_
                                    refine g_iald cx 38 e_X11_put_204 rfl (jv_ix 5 p189 (by decide)) ?_
                                    refine g_topi (fun x191 ex191 => ?_)
                                    have hk192 := k_ls hk190 ex191
                                    have p193 : jv 0 9 x191 := by rw [ex191]; exact g_okR_g oR168 4 rfl (jv_cl 5 p189 (by decide))
                                    refine g_aload_n cx 0 rfl e_X11_put_205 ?_
                                    refine g_get cx cl_X11 fl_X11_13 0 (.ref (ad 2)) e_X11_put_206 rfl rfl ?_
                                    refine g_aload_n cx 0 rfl e_X11_put_209 ?_
                                    refine g_get cx cl_X11 fl_X11_122 0 (.ref (ad 38)) e_X11_put_210 rfl rfl ?_
                                    refine g_aload_n cx 0 rfl e_X11_put_213 ?_
                                    refine g_get cx cl_X11 fl_X11_125 0 (.ref (ad 39)) e_X11_put_214 rfl rfl ?_
                                    refine g_iload cx 4 rfl e_X11_put_217 ?_
                                    refine g_iald cx 39 e_X11_put_219 rfl (jv_ix 5 p189 (by decide)) ?_
                                    refine g_topi (fun x194 ex194 => ?_)
                                    have hk195 := k_ls hk192 ex194
                                    have p196 : jv 0 4 x194 := by rw [ex194]; exact g_okR_g oR168 5 rfl (jv_cl 5 p189 (by decide))
                                    refine g_iald cx 38 e_X11_put_220 rfl (jv_ix 5 p196 (by decide)) ?_
                                    refine g_topi (fun x197 ex197 => ?_)
                                    have hk198 := k_ls hk195 ex197
                                    have p199 : jv 0 9 x197 := by rw [ex197]; exact g_okR_g oR168 4 rfl (jv_cl 5 p196 (by decide))
                                    refine g_iald cx 2 e_X11_put_221 rfl (jv_ix 10 p199 (by decide)) ?_
                                    refine g_topi (fun x200 ex200 => ?_)
                                    have hk201 := k_ls hk198 ex200
                                    refine g_iast cx 26 (wM X ad F164 (g_u R168 26 (upd (R168 26) (Int32.toNatClampNeg x191) x200))) e_X11_put_222 rfl (jv_ix 10 p193 (by decide)) rfl ?_
                                    obtain ⟨R202, hR202⟩ : ∃ z, z = g_u R168 26 (upd (R168 26) (Int32.toNatClampNeg x191) x200) := ⟨_, rfl⟩
                                    rw [← hR202]
                                    have hk203 := k_ls hk201 hR202
                                    have oR202 : g_okR LA_wM R202 := by rw [hR202]; exact g_okR_u oR168 rfl
                                    have fR202 : g_fr mr_X11_put R R202 := by rw [hR202]; exact g_fr_r fR168 rfl
                                    have wTR202 : WT F164 R202 := by rw [hR202]; exact WT_r wTR168 rfl
                                    have wCR202 : WC F164 R202 := by rw [hR202]; exact WC_r wCR168 rfl
                                    obtain ⟨x204, ex204⟩ : ∃ z : Int32, z = y167 + Int32.ofInt 1 := ⟨_, rfl⟩
                                    have hk205 := k_ls hk203 (show x204 = y167 + 1 from ex204)
                                    refine g_iinc cx x204 [(6, .int x204), (0, .ref (ad 0)), (2, .int a1), (4, .int y41), (5, .int y54)] 4 e_X11_put_223 rfl ex204.symm (by decide) rfl ?_
                                    have zx204 := jv_add 1 5 (show x204 = y167 + 1 from ex204) p189 (jv_k (x := 1) 1 (by decide)) (by decide)
                                    refine g_goto cx 185 e_X11_put_226 (by decide) ?_
                                    refine g_lsub [1, 2, 3, 4, 0] [(0, .ref (ad 0)), (2, .int a1), (4, .int y41), (5, .int y54), (6, .int x204)] rfl ?_
                                    exact ih185 R202 x204 oR202 fR202 wTR202 wCR202 (jv_w zx204.2 (by decide)) (by have q0 := (jv_k (x := 1) 1 (by decide)).1; have q1 := (jv_k (x := 1) 1 (by decide)).2; have q2 := p169.1; have q3 := p169.2; have q4 := z75.1; have q5 := z75.2; have q6 := (jv_t (F55 70)).1; have q7 := (jv_t (F55 70)).2; have q8 := (jv_t (F55 72)).1; have q9 := (jv_t (F55 72)).2; have q10 := p57.1; have q11 := p57.2; have q12 := p28.1; have q13 := p28.2; have q14 := zx204.2.1; have q15 := zx204.2.2; have q16 := p189.1; have q17 := p189.2; have q18 := zpr.1; have q19 := zpr.2; have q20 := p44.1; have q21 := p44.2; have q22 := p134.1; have q23 := p134.2; have q24 := zx17; have q25 := zq72_0; have q26 := zq10; have q27 := zi124_0; have q28 := (gc_le zc43); have q29 := zre; have q30 := zi155_0; have q31 := zi155_1; have q32 := (gc_nle zc58); have q33 := (congrArg Int32.toInt (show F164 75 = F55 75 from (((cF164 75 rfl).trans (cF156 75 rfl)).trans (cF141 75 rfl)))); have q34 := zi185_0; have q35 := (congrArg Int32.toInt (show F164 75 = F55 75 from (((cF164 75 rfl).trans (cF156 75 rfl)).trans (cF141 75 rfl)))); have q36 := (gc_nle zc170); have q37 := (g_eq0 zx204.1); have q38 := (congrArg Int32.toInt (show F164 75 = F55 75 from (((cF164 75 rfl).trans (cF156 75 rfl)).trans (cF141 75 rfl)))); omega) (hk205.trans (by rw [hb185])) (Nat.lt_of_lt_of_le (show (2147483647 - x204.toInt).toNat < (2147483647 - y167.toInt).toNat from by have q0 := (jv_k (x := 1) 1 (by decide)).1; have q1 := (jv_k (x := 1) 1 (by decide)).2; have q2 := p169.1; have q3 := p169.2; have q4 := z75.1; have q5 := z75.2; have q6 := (jv_t (F55 70)).1; have q7 := (jv_t (F55 70)).2; have q8 := (jv_t (F55 72)).1; have q9 := (jv_t (F55 72)).2; have q10 := p57.1; have q11 := p57.2; have q12 := p28.1; have q13 := p28.2; have q14 := zx204.2.1; have q15 := zx204.2.2; have q16 := p189.1; have q17 := p189.2; have q18 := zpr.1; have q19 := zpr.2; have q20 := p44.1; have q21 := p44.2; have q22 := p134.1; have q23 := p134.2; have q24 := zx17; have q25 := zq72_0; have q26 := zq10; have q27 := zi124_0; have q28 := (gc_le zc43); have q29 := zre; have q30 := zi155_0; have q31 := zi155_1; have q32 := (gc_nle zc58); have q33 := (congrArg Int32.toInt (show F164 75 = F55 75 from (((cF164 75 rfl).trans (cF156 75 rfl)).trans (cF141 75 rfl)))); have q34 := zi185_0; have q35 := (congrArg Int32.toInt (show F164 75 = F55 75 from (((cF164 75 rfl).trans (cF156 75 rfl)).trans (cF141 75 rfl)))); have q36 := (gc_nle zc170); have q37 := (g_eq0 zx204.1); have q38 := (congrArg Int32.toInt (show F164 75 = F55 75 from (((cF164 75 rfl).trans (cF156 75 rfl)).trans (cF141 75 rfl)))); omega) (Nat.le_of_lt_succ hm185))
                              refine g_lsub [1, 2, 3, 4, 0] [(0, .ref (ad 0)), (2, .int a1), (4, .int y41), (5, .int y54), (6, .int 0)] rfl ?_
                              exact J185 8589934592 R165 0 oR165 fR165 wTF164 wCF164 (jv_w (jv_k (x := 0) 0 (by decide)) (by decide)) (by have q0 := (g_ok_g oF164 14 rfl).1; have q1 := (g_ok_g oF164 14 rfl).2; have q2 := z75.1; have q3 := z75.2; have q4 := (jv_t (F55 70)).1; have q5 := (jv_t (F55 70)).2; have q6 := (jv_t (F55 72)).1; have q7 := (jv_t (F55 72)).2; have q8 := p57.1; have q9 := p57.2; have q10 := p28.1; have q11 := p28.2; have q12 := zpr.1; have q13 := zpr.2; have q14 := p44.1; have q15 := p44.2; have q16 := p134.1; have q17 := p134.2; have q18 := zx17; have q19 := zq72_0; have q20 := zq10; have q21 := zi124_0; have q22 := (gc_le zc43); have q23 := zre; have q24 := zi155_0; have q25 := zi155_1; have q26 := (gc_nle zc58); have q27 := (congrArg Int32.toInt (show F164 75 = F55 75 from (((cF164 75 rfl).trans (cF156 75 rfl)).trans (cF141 75 rfl)))); omega) hk166 (show (2147483647 - (0 : Int32).toInt).toNat < 8589934592 from by have q0 := (jv_k (x := 0) 0 (by decide)).1; have q1 := (jv_k (x := 0) 0 (by decide)).2; omega)
                            · have p206 := gn_eq 0 0 (gc_eq zc149) pr136 (jv_k (x := 0) 0 (by decide)) (by decide)
                              have zs207 := g_specn (zx139 zc149)
                              have hk208 := hk143.trans (if_pos zc149)
                              refine g_goto cx 239 e_X11_put_171 (by decide) ?_
                              exact J239 F141 R142 oF141 fF141 oR142 fR142 wTF141 wCF141 (by have q0 := (jv_t (F141 70)).1; have q1 := (jv_t (F141 70)).2; have q2 := (jv_t (F141 72)).1; have q3 := (jv_t (F141 72)).2; have q4 := (g_ok_g oF141 14 rfl).1; have q5 := (g_ok_g oF141 14 rfl).2; have q6 := z75.1; have q7 := z75.2; have q8 := (jv_t (F55 70)).1; have q9 := (jv_t (F55 70)).2; have q10 := (jv_t (F55 72)).1; have q11 := (jv_t (F55 72)).2; have q12 := p57.1; have q13 := p57.2; have q14 := p28.1; have q15 := p28.2; have q16 := zpr.1; have q17 := zpr.2; have q18 := p44.1; have q19 := p44.2; have q20 := p134.1; have q21 := p134.2; have q22 := zx17; have q23 := zq72_0; have q24 := zq10; have q25 := zi124_0; have q26 := (gc_le zc43); have q27 := zre; have q28 := zi155_0; have q29 := zi155_1; have q30 := (gc_nle zc58); have q31 := zs207; have q32 := (congrArg Int32.toInt (show F141 75 = F55 75 from (cF141 75 rfl))); have q33 := (congrArg Int32.toInt (show F141 72 = F55 72 from (cF141 72 rfl))); have q34 := (congrArg Int32.toInt (show F141 70 = F55 70 from (cF141 70 rfl))); omega) (by have q0 := (jv_t (F141 70)).1; have q1 := (jv_t (F141 70)).2; have q2 := (jv_t (F141 72)).1; have q3 := (jv_t (F141 72)).2; have q4 := (g_ok_g oF141 14 rfl).1; have q5 := (g_ok_g oF141 14 rfl).2; have q6 := z75.1; have q7 := z75.2; have q8 := (jv_t (F55 70)).1; have q9 := (jv_t (F55 70)).2; have q10 := (jv_t (F55 72)).1; have q11 := (jv_t (F55 72)).2; have q12 := p57.1; have q13 := p57.2; have q14 := p28.1; have q15 := p28.2; have q16 := zpr.1; have q17 := zpr.2; have q18 := p44.1; have q19 := p44.2; have q20 := p134.1; have q21 := p134.2; have q22 := zx17; have q23 := zq72_0; have q24 := zq10; have q25 := zi124_0; have q26 := (gc_le zc43); have q27 := zre; have q28 := zi155_0; have q29 := zi155_1; have q30 := (gc_nle zc58); have q31 := zs207; have q32 := (congrArg Int32.toInt (show F141 75 = F55 75 from (cF141 75 rfl))); have q33 := (congrArg Int32.toInt (show F141 72 = F55 72 from (cF141 72 rfl))); have q34 := (congrArg Int32.toInt (show F141 70 = F55 70 from (cF141 70 rfl))); omega) hk208
                      refine g_lsub [1, 2, 3, 0] [(0, .ref (ad 0)), (2, .int a1), (4, .int y41), (5, .int 0)] rfl ?_
                      exact J155 8589934592 F51 R52 0 oF51 fF51 oR52 fR52 wTF51 wCF51 (jv_w (jv_k (x := 0) 0 (by decide)) (by decide)) (by have q0 := z75.1; have q1 := z75.2; have q2 := (g_ok_g oF51 14 rfl).1; have q3 := (g_ok_g oF51 14 rfl).2; have q4 := p28.1; have q5 := p28.2; have q6 := zpr.1; have q7 := zpr.2; have q8 := p44.1; have q9 := p44.2; have q10 := zx17; have q11 := zq72_0; have q12 := zq10; have q13 := zi124_0; have q14 := (gc_le zc43); have q15 := zre; have q16 := (congrArg Int32.toInt (show F51 75 = F36 75 from (cF51 75 rfl))); omega) (by have q0 := (jv_k (x := 0) 0 (by decide)).1; have q1 := (jv_k (x := 0) 0 (by decide)).2; have q2 := z75.1; have q3 := z75.2; have q4 := (jv_t (F51 70)).1; have q5 := (jv_t (F51 70)).2; have q6 := (jv_t (F51 72)).1; have q7 := (jv_t (F51 72)).2; have q8 := (g_ok_g oF51 14 rfl).1; have q9 := (g_ok_g oF51 14 rfl).2; have q10 := p28.1; have q11 := p28.2; have q12 := p27.1; have q13 := p27.2; have q14 := p12.1; have q15 := p12.2; have q16 := zpr.1; have q17 := zpr.2; have q18 := p44.1; have q19 := p44.2; have q20 := p31.1; have q21 := p31.2; have q22 := (gc_eq zc10); have q23 := zx17; have q24 := (gc_ne zc24); have q25 := (gc_ne zc30); have q26 := zq72_0; have q27 := zq10; have q28 := zi124_0; have q29 := (gc_le zc43); have q30 := zre; have q31 := zx49; have q32 := (congrArg Int32.toInt (show F51 75 = F36 75 from (cF51 75 rfl))); omega) hk53 (show (2147483647 - (0 : Int32).toInt).toNat < 8589934592 from by have q0 := (jv_k (x := 0) 0 (by decide)).1; have q1 := (jv_k (x := 0) 0 (by decide)).2; omega)
                    · have p209 := gn_lt 0 4 (gc_nle zc43) py42 z75 (by decide)
                      have hk210 := hkK124.trans (if_neg zc43)
                      have zpb := g_pw_b (n := (F36 75).toInt) ⟨z75.1, z75.2⟩ (y42 : Int32).toInt.toNat (by have q0 := z75.1; have q1 := z75.2; have q2 := p28.1; have q3 := p28.2; have q4 := p209.1; have q5 := p209.2; have q6 := zx17; have q7 := zq72_0; have q8 := zq10; have q9 := zi124_0; have q10 := (gc_nle zc43); omega)
                      have zpr : jv 1 3125 y41 := by have q := zq124_0; unfold jv; omega
                      refine g_iload cx 2 rfl e_X11_put_133 ?_
                      refine g_aload_n cx 0 rfl e_X11_put_135 ?_
                      refine g_get cx cl_X11 fl_X11_464 0 (.int (F36 75)) e_X11_put_136 rfl rfl ?_
                      refine g_imul cx e_X11_put_139 ?_
                      refine g_topi (fun x211 ex211 => ?_)
                      have hk212 := k_ls hk210 ex211
                      have zx211 := jv_mul 2 15625 ex211 zpr z75 (by decide)
                      refine g_istore cx [(4, .int x211), (0, .ref (ad 0)), (2, .int a1), (5, .int y42)] e_X11_put_140 (by decide) rfl ?_
                      obtain ⟨x213, ex213⟩ : ∃ z : Int32, z = y42 + Int32.ofInt 1 := ⟨_, rfl⟩
                      have hk214 := k_ls hk212 (show x213 = y42 + 1 from ex213)
                      refine g_iinc cx x213 [(5, .int x213), (4, .int x211), (0, .ref (ad 0)), (2, .int a1)] 3 e_X11_put_142 rfl ex213.symm (by decide) rfl ?_
                      have zx213 := jv_add 1 5 (show x213 = y42 + 1 from ex213) p209 (jv_k (x := 1) 1 (by decide)) (by decide)
                      refine g_goto cx 124 e_X11_put_145 (by decide) ?_
                      refine g_lsub [2, 3, 1, 0] [(0, .ref (ad 0)), (2, .int a1), (4, .int x211), (5, .int x213)] rfl ?_
                      exact ih124 x211 x213 (jv_w zx211.2 (by decide)) (jv_w zx213.2 (by decide)) (by have q0 := (jv_k (x := 1) 1 (by decide)).1; have q1 := (jv_k (x := 1) 1 (by decide)).2; have q2 := z75.1; have q3 := z75.2; have q4 := p28.1; have q5 := p28.2; have q6 := zx213.2.1; have q7 := zx213.2.2; have q8 := p209.1; have q9 := p209.2; have q10 := zx17; have q11 := zq72_0; have q12 := zq10; have q13 := zi124_0; have q14 := (gc_nle zc43); have q15 := (g_eq0 zx213.1); omega) (((g_eq0 zx211.1).trans (g_pw_s p209 (g_eq0 zx213.1) zq124_0))) (hk214.trans (by rw [hb124])) (Nat.lt_of_lt_of_le (show (2147483647 - x213.toInt).toNat < (2147483647 - y42.toInt).toNat from by have q0 := (jv_k (x := 1) 1 (by decide)).1; have q1 := (jv_k (x := 1) 1 (by decide)).2; have q2 := z75.1; have q3 := z75.2; have q4 := p28.1; have q5 := p28.2; have q6 := zx213.2.1; have q7 := zx213.2.2; have q8 := p209.1; have q9 := p209.2; have q10 := zx17; have q11 := zq72_0; have q12 := zq10; have q13 := zi124_0; have q14 := (gc_nle zc43); have q15 := (g_eq0 zx213.1); omega) (Nat.le_of_lt_succ hm124))
                refine g_lsub [2, 4, 1, 0] [(0, .ref (ad 0)), (2, .int a1), (4, .int 1), (5, .int 0)] rfl ?_
                exact J124 8589934592 1 0 (jv_w (jv_k (x := 1) 1 (by decide)) (by decide)) (jv_w (jv_k (x := 0) 0 (by decide)) (by decide)) (by have q0 := (jv_k (x := 0) 0 (by decide)).1; have q1 := (jv_k (x := 0) 0 (by decide)).2; have q2 := z75.1; have q3 := z75.2; have q4 := p28.1; have q5 := p28.2; have q6 := p27.1; have q7 := p27.2; have q8 := p12.1; have q9 := p12.2; have q10 := p31.1; have q11 := p31.2; have q12 := (gc_eq zc10); have q13 := zx17; have q14 := (gc_ne zc24); have q15 := (gc_ne zc30); have q16 := zq72_0; have q17 := zq10; omega) (rfl) hk40 (show (2147483647 - (0 : Int32).toInt).toNat < 8589934592 from by have q0 := (jv_k (x := 0) 0 (by decide)).1; have q1 := (jv_k (x := 0) 0 (by decide)).2; omega)
              · have p215 := gn_lt 0 9 (gc_nle zc38) py35 (jv_k (x := 10) 10 (by decide)) (by decide)
                have hk216 := hkK72.trans (if_neg zc38)
                refine g_iload_n cx 1 rfl e_X11_put_79 ?_
                refine g_iload cx 3 rfl e_X11_put_80 ?_
                refine g_cSiW cx [.int a0, .int y35] [] (c_X11_has l X (wM X ad F36 R37) a0 y35) ml_X11_175 yS_X11_has rfl e_X11_put_82 (by unfold g_rr; decide) (by decide) rfl (Nat.le_of_ble_eq_true rfl) (fun r217 w218 h219 => ?_)
                obtain ⟨rfl, hr217⟩ := h219
                have pr217 : jv 0 1 r217 := by rcases hr217 with q | q <;> rw [q.1] <;> exact ⟨by decide, by decide⟩
                have hk220 := k_ls hk216 (g_has_e hr217)
                have J112 : ∀ (F221 : Nat → Int32) (R222 : Nat → Nat → Int32), (g_ok LK_wM F221) → (g_fr md_X11_put F F221) → (g_okR LA_wM R222) → (g_fr mr_X11_put R R222) → (WT F221 R222) → (WC F221 R222) → ((F221 75).toInt = g_bits a0 ((y35 : Int32).toInt.toNat + 1)) → (SP = K_X11_put_112 b72 y35 F221 R222) → G X E 7 0 0 (wM X ad F221 R222) [(0, .ref (ad 0)), (1, .int a0), (2, .int a1), (4, .int y35)] 112 [] := by
                  intro F221 R222 oF221 fF221 oR222 fR222 wTF221R222 wCF221R222 zq112_0 hkJ112
                  unfold K_X11_put_112 at hkJ112
                  obtain ⟨x223, ex223⟩ : ∃ z : Int32, z = y35 + Int32.ofInt 1 := ⟨_, rfl⟩
                  have hk224 := k_ls hkJ112 (show x223 = y35 + 1 from ex223)
                  refine g_iinc cx x223 [(4, .int x223), (0, .ref (ad 0)), (1, .int a0), (2, .int a1)] 3 e_X11_put_112 rfl ex223.symm (by decide) rfl ?_
                  have zx223 := jv_add 1 10 (show x223 = y35 + 1 from ex223) p215 (jv_k (x := 1) 1 (by decide)) (by decide)
                  refine g_goto cx 72 e_X11_put_115 (by decide) ?_
                  refine g_lsub [1, 2, 3, 0] [(0, .ref (ad 0)), (1, .int a0), (2, .int a1), (4, .int x223)] rfl ?_
                  exact ih72 F221 R222 x223 oF221 fF221 oR222 fR222 wTF221R222 wCF221R222 (jv_w zx223.2 (by decide)) ((by rw [show (x223 : Int32).toInt.toNat = (y35 : Int32).toInt.toNat + 1 from by have q0 := (jv_k (x := 1) 1 (by decide)).1; have q1 := (jv_k (x := 1) 1 (by decide)).2; have q2 := (jv_k (x := 10) 10 (by decide)).1; have q3 := (jv_k (x := 10) 10 (by decide)).2; have q4 := zx223.2.1; have q5 := zx223.2.2; have q6 := p215.1; have q7 := p215.2; have q8 := (gc_nle zc38); have q9 := (g_eq0 zx223.1); omega]; exact zq112_0)) (hk224.trans (by rw [hb72])) (Nat.lt_of_lt_of_le (show (2147483647 - x223.toInt).toNat < (2147483647 - y35.toInt).toNat from by have q0 := (jv_k (x := 1) 1 (by decide)).1; have q1 := (jv_k (x := 1) 1 (by decide)).2; have q2 := (jv_k (x := 10) 10 (by decide)).1; have q3 := (jv_k (x := 10) 10 (by decide)).2; have q4 := zx223.2.1; have q5 := zx223.2.2; have q6 := p215.1; have q7 := p215.2; have q8 := (gc_nle zc38); have q9 := (g_eq0 zx223.1); omega) (Nat.le_of_lt_succ hm72))
                refine g_if_ne cx 91 e_X11_put_85 (by decide) (fun zc225 => ?_) (fun zc225 => ?_)
                · have p226 := gn_neL 1 1 (gc_ne zc225) pr217 (jv_k (x := 0) 0 (by decide)) (by decide)
                  have zb227 : hb a0 y35 := g_hasy hr217 zc225
                  have zy228 := g_bits_y (x := a0) p215 zb227
                  have zm229 := g_bits_m a0 (a := (y35 : Int32).toInt.toNat + 1) (b := 10) (by have q0 := (jv_k (x := 10) 10 (by decide)).1; have q1 := (jv_k (x := 10) 10 (by decide)).2; have q2 := p215.1; have q3 := p215.2; have q4 := (gc_nle zc38); omega)
                  have hk230 := hk220.trans (if_neg zc225)
                  refine g_aload_n cx 0 rfl e_X11_put_91 ?_
                  refine g_get cx cl_X11 fl_X11_122 0 (.ref (ad 38)) e_X11_put_92 rfl rfl ?_
                  refine g_aload_n cx 0 rfl e_X11_put_95 ?_
                  refine g_get cx cl_X11 fl_X11_464 0 (.int (F36 75)) e_X11_put_96 rfl rfl ?_
                  refine g_iload cx 3 rfl e_X11_put_99 ?_
                  refine g_iast cx 38 (wM X ad F36 (g_u R37 38 (upd (R37 38) (Int32.toNatClampNeg (F36 75)) y35))) e_X11_put_101 rfl (vp_in_iff.mpr ⟨by have q0 := (jv_k (x := 10) 10 (by decide)).1; have q1 := (jv_k (x := 10) 10 (by decide)).2; have q2 := (g_ok_g oF36 14 rfl).1; have q3 := (g_ok_g oF36 14 rfl).2; have q4 := p28.1; have q5 := p28.2; have q6 := p215.1; have q7 := p215.2; have q8 := zx17; have q9 := zq72_0; have q10 := (gc_nle zc38); have q11 := zy228; have q12 := zm229; omega, by have q0 := (jv_k (x := 10) 10 (by decide)).1; have q1 := (jv_k (x := 10) 10 (by decide)).2; have q2 := (g_ok_g oF36 14 rfl).1; have q3 := (g_ok_g oF36 14 rfl).2; have q4 := p28.1; have q5 := p28.2; have q6 := p215.1; have q7 := p215.2; have q8 := zx17; have q9 := zq72_0; have q10 := (gc_nle zc38); have q11 := zy228; have q12 := zm229; omega⟩) rfl ?_
                  obtain ⟨R231, hR231⟩ : ∃ z, z = g_u R37 38 (upd (R37 38) (Int32.toNatClampNeg (F36 75)) y35) := ⟨_, rfl⟩
                  rw [← hR231]
                  have hk232 := k_ls hk230 hR231
                  have oR231 : g_okR LA_wM R231 := by rw [hR231]; exact g_okR_p oR37 p215 rfl
                  have fR231 : g_fr mr_X11_put R R231 := by rw [hR231]; exact g_fr_r fR37 rfl
                  have wTR231 : WT F36 R231 := by rw [hR231]; exact WT_r wTF36R37 rfl
                  have wCR231 : WC F36 R231 := by rw [hR231]; exact WC_r wCF36R37 rfl
                  refine g_aload_n cx 0 rfl e_X11_put_102 ?_
                  refine g_aload_n cx 0 rfl e_X11_put_103 ?_
                  refine g_get cx cl_X11 fl_X11_464 0 (.int (F36 75)) e_X11_put_104 rfl rfl ?_
                  refine g_iconst cx 1 (by decide) e_X11_put_107 ?_
                  refine g_iadd cx e_X11_put_108 ?_
                  refine g_topi (fun x233 ex233 => ?_)
                  have hk234 := k_ls hk232 ex233
                  have zx233 := jv_add 1 6 ex233 (g_ok_g oF36 14 rfl) (jv_k (x := 1) 1 (by decide)) (by decide)
                  refine g_put cx cl_X11 fl_X11_464 0 (wM X ad (upd F36 75 x233) R231) e_X11_put_109 rfl rfl rfl rfl (Nat.le_of_ble_eq_true rfl) rfl ?_
                  obtain ⟨F235, hF235⟩ : ∃ z, z = upd F36 75 x233 := ⟨_, rfl⟩
                  rw [← hF235]
                  have hk236 := k_ls hk234 hF235
                  have oF235 : g_ok LK_wM F235 := by rw [hF235]; exact g_ok_p oF36 (show jv 0 5 _ from ⟨by have q0 := (jv_k (x := 1) 1 (by decide)).1; have q1 := (jv_k (x := 1) 1 (by decide)).2; have q2 := (jv_k (x := 10) 10 (by decide)).1; have q3 := (jv_k (x := 10) 10 (by decide)).2; have q4 := (g_ok_g oF36 14 rfl).1; have q5 := (g_ok_g oF36 14 rfl).2; have q6 := p28.1; have q7 := p28.2; have q8 := zx233.2.1; have q9 := zx233.2.2; have q10 := p215.1; have q11 := p215.2; have q12 := zx17; have q13 := zq72_0; have q14 := (gc_nle zc38); have q15 := zy228; have q16 := zm229; have q17 := (g_eq0 zx233.1); omega, by have q0 := (jv_k (x := 1) 1 (by decide)).1; have q1 := (jv_k (x := 1) 1 (by decide)).2; have q2 := (jv_k (x := 10) 10 (by decide)).1; have q3 := (jv_k (x := 10) 10 (by decide)).2; have q4 := (g_ok_g oF36 14 rfl).1; have q5 := (g_ok_g oF36 14 rfl).2; have q6 := p28.1; have q7 := p28.2; have q8 := zx233.2.1; have q9 := zx233.2.2; have q10 := p215.1; have q11 := p215.2; have q12 := zx17; have q13 := zq72_0; have q14 := (gc_nle zc38); have q15 := zy228; have q16 := zm229; have q17 := (g_eq0 zx233.1); omega⟩) rfl
                  have fF235 : g_fr md_X11_put F F235 := by rw [hF235]; exact g_fr_u fF36 rfl
                  have wTF235 : WT F235 R231 := by rw [hF235]; exact WT_u wTR231 rfl
                  have wCF235 : WC F235 R231 := by rw [hF235]; exact WC_u wCR231 rfl
                  exact J112 F235 R231 oF235 fF235 oR231 fR231 wTF235 wCF235 (by have q0 := (jv_k (x := 1) 1 (by decide)).1; have q1 := (jv_k (x := 1) 1 (by decide)).2; have q2 := (jv_k (x := 10) 10 (by decide)).1; have q3 := (jv_k (x := 10) 10 (by decide)).2; have q4 := (g_ok_g oF235 14 rfl).1; have q5 := (g_ok_g oF235 14 rfl).2; have q6 := (g_ok_g oF36 14 rfl).1; have q7 := (g_ok_g oF36 14 rfl).2; have q8 := p28.1; have q9 := p28.2; have q10 := zx233.2.1; have q11 := zx233.2.2; have q12 := p215.1; have q13 := p215.2; have q14 := zx17; have q15 := zq72_0; have q16 := (gc_nle zc38); have q17 := zy228; have q18 := zm229; have q19 := (g_eq0 zx233.1); have q20 := (congrArg Int32.toInt (show F235 75 = x233 from (g_pu1 hF235))); omega) hk236
                · have p237 := gn_eq 0 0 (gc_eq zc225) pr217 (jv_k (x := 0) 0 (by decide)) (by decide)
                  have zy238 := g_bits_n (x := a0) p215 (g_hasn hr217 zc225)
                  have hk239 := hk220.trans (if_pos zc225)
                  refine g_goto cx 112 e_X11_put_88 (by decide) ?_
                  exact J112 F36 R37 oF36 fF36 oR37 fR37 wTF36R37 wCF36R37 (by have q0 := (jv_k (x := 10) 10 (by decide)).1; have q1 := (jv_k (x := 10) 10 (by decide)).2; have q2 := (g_ok_g oF36 14 rfl).1; have q3 := (g_ok_g oF36 14 rfl).2; have q4 := p215.1; have q5 := p215.2; have q6 := zq72_0; have q7 := (gc_nle zc38); have q8 := zy238; omega) hk239
          refine g_lsub [2, 3, 4, 0] [(0, .ref (ad 0)), (1, .int a0), (2, .int a1), (4, .int 0)] rfl ?_
          exact J72 8589934592 F33 R 0 oF33 fF33 hA (g_fr_rf R) wTF33 wCF33 (jv_w (jv_k (x := 0) 0 (by decide)) (by decide)) ((congrArg Int32.toInt (show F33 75 = 0 from (g_pu1 hF33)))) hk34 (show (2147483647 - (0 : Int32).toInt).toNat < 8589934592 from by have q0 := (jv_k (x := 0) 0 (by decide)).1; have q1 := (jv_k (x := 0) 0 (by decide)).2; omega)
        · have p240 := gn_eq 0 0 (gc_eq zc30) py5 (jv_k (x := 0) 0 (by decide)) (by decide)
          have hk241 := hk29.trans (if_pos zc30)
          refine g_lsub [] [] rfl ?_
          exact J62  hk241
  have J29 : (SP = K_X11_put_29 F R a0 a1) → G X E 7 0 0 (wM X ad F R) [(0, .ref (ad 0)), (1, .int a0), (2, .int a1)] 29 [] := by
    intro   hkJ29
    unfold K_X11_put_29 at hkJ29
    refine g_iconst cx 1 (by decide) e_X11_put_29 ?_
    refine g_goto cx 34 e_X11_put_30 (by decide) ?_
    exact J34 1 (jv_w (jv_k (x := 1) 1 (by decide)) (by decide)) hkJ29
  refine g_if_ne cx 29 e_X11_put_8 (by decide) (fun zc242 => ?_) (fun zc242 => ?_)
  · have p243 := gn_neL 1 1 (gc_ne zc242) pr1 (jv_k (x := 0) 0 (by decide)) (by decide)
    have p244 := jv_i 10 12 (jv_t a1) (gi_in (A := 10) (B := 12) hr1 zc242 (by decide) (by decide)) (by decide)
    have hk245 := hk4.trans (if_neg zc242)
    exact J29  hk245
  · have p246 := gn_eq 0 0 (gc_eq zc242) pr1 (jv_k (x := 0) 0 (by decide)) (by decide)
    have hk247 := hk4.trans (if_pos zc242)
    refine g_iload_n cx 2 rfl e_X11_put_11 ?_
    refine g_iconst cx 0 (by decide) e_X11_put_12 ?_
    refine g_bipush cx 9 (by decide) e_X11_put_13 ?_
    refine g_cSiW cx [.int a1, .int 0, .int 9] [] (c_X11_in l X (wM X ad F R) a1 0 9) ml_X11_165 yS_X11_in rfl e_X11_put_15 (by unfold g_rr; decide) (by decide) rfl (Nat.le_of_ble_eq_true rfl) (fun r248 w249 h250 => ?_)
    obtain ⟨rfl, hr248⟩ := h250
    have pr248 : jv 0 1 r248 := by rw [hr248]; exact gi_01 _ _ _
    have hk251 := k_ls hk247 hr248
    have J33 : (SP = K_X11_put_33 F R a0 a1) → G X E 7 0 0 (wM X ad F R) [(0, .ref (ad 0)), (1, .int a0), (2, .int a1)] 33 [] := by
      intro   hkJ33
      unfold K_X11_put_33 at hkJ33
      refine g_iconst cx 0 (by decide) e_X11_put_33 ?_
      exact J34 0 (jv_w (jv_k (x := 0) 0 (by decide)) (by decide)) hkJ33
    refine g_if_eq cx 33 e_X11_put_18 (by decide) (fun zc252 => ?_) (fun zc252 => ?_)
    · have p253 := gn_eq 0 0 (gc_eq zc252) pr248 (jv_k (x := 0) 0 (by decide)) (by decide)
      have hk254 := hk251.trans (if_pos zc252)
      exact J33  hk254
    · have p255 := gn_neL 1 1 (gc_ne zc252) pr248 (jv_k (x := 0) 0 (by decide)) (by decide)
      have p256 := jv_i 0 9 (jv_t a1) (gi_in (A := 0) (B := 9) hr248 zc252 (by decide) (by decide)) (by decide)
      have hk257 := hk251.trans (if_neg zc252)
      refine g_iload_n cx 1 rfl e_X11_put_21 ?_
      refine g_iload_n cx 2 rfl e_X11_put_22 ?_
      refine g_cSiW cx [.int a0, .int a1] [] (c_X11_has l X (wM X ad F R) a0 a1) ml_X11_175 yS_X11_has rfl e_X11_put_23 (by unfold g_rr; decide) (by decide) rfl (Nat.le_of_ble_eq_true rfl) (fun r258 w259 h260 => ?_)
      obtain ⟨rfl, hr258⟩ := h260
      have pr258 : jv 0 1 r258 := by rcases hr258 with q | q <;> rw [q.1] <;> exact ⟨by decide, by decide⟩
      have hk261 := k_ls hk257 (g_has_e hr258)
      refine g_if_eq cx 33 e_X11_put_26 (by decide) (fun zc262 => ?_) (fun zc262 => ?_)
      · have p263 := gn_eq 0 0 (gc_eq zc262) pr258 (jv_k (x := 0) 0 (by decide)) (by decide)
        have hk264 := hk261.trans (if_pos zc262)
        exact J33  hk264
      · have p265 := gn_neL 1 1 (gc_ne zc262) pr258 (jv_k (x := 0) 0 (by decide)) (by decide)
        have zb266 : hb a0 a1 := g_hasy hr258 zc262
        have hk267 := hk261.trans (if_neg zc262)
        exact J29  hk267
