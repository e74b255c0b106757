def K_X11_law_19 (F : Nat → Int32) (R : Nat → Nat → Int32)  : Int32 × (Nat → Int32) × (Nat → Nat → Int32) :=
  ((-1), F, R)
def KB_X11_law_138 (b138 : (Nat → Nat → Int32) → (Int32) → Int32 × (Nat → Int32) × (Nat → Nat → Int32)) (F31 : Nat → Int32) (F38 : Nat → Int32) (R45 : Nat → Nat → Int32) (y44 : Int32) : Int32 × (Nat → Int32) × (Nat → Nat → Int32) :=
  if (F31 27) ≤ y44 then (F31 27, F38, R45) else k_lt (R45 14 (Int32.toNatClampNeg y44)) (fun x51 => k_lt (g_u R45 19 (upd (R45 19) (Int32.toNatClampNeg y44) x51)) (fun R53 => k_lt (R53 15 (Int32.toNatClampNeg y44)) (fun x55 => k_lt (g_u R53 20 (upd (R53 20) (Int32.toNatClampNeg y44) x55)) (fun R57 => k_lt (R57 16 (Int32.toNatClampNeg y44)) (fun x59 => k_lt (g_u R57 21 (upd (R57 21) (Int32.toNatClampNeg y44) x59)) (fun R61 => k_lt (R61 17 (Int32.toNatClampNeg y44)) (fun x63 => k_lt (g_u R61 22 (upd (R61 22) (Int32.toNatClampNeg y44) x63)) (fun R65 => k_lt (y44 + 1) (fun x67 => b138 R65 x67)))))))))
def K_X11_law_138 (F31 : Nat → Int32) (F38 : Nat → Int32) : Nat → (Nat → Nat → Int32) → (Int32) → Int32 × (Nat → Int32) × (Nat → Nat → Int32)
  | 0 => fun R45 _ => (0, F38, R45)
  | n + 1 => KB_X11_law_138 (K_X11_law_138 F31 F38 n) F31 F38
def KB_X11_law_110 (b110 : (Nat → Nat → Int32) → (Int32) → Int32 × (Nat → Int32) × (Nat → Nat → Int32)) (F31 : Nat → Int32) (F38 : Nat → Int32) (R41 : Nat → Nat → Int32) (y40 : Int32) : Int32 × (Nat → Int32) × (Nat → Nat → Int32) :=
  if (F31 25) ≤ y40 then K_X11_law_138 F31 F38 8589934592 R41 0 else k_lt (R41 12 (Int32.toNatClampNeg y40)) (fun x72 => k_lt (g_u R41 18 (upd (R41 18) (Int32.toNatClampNeg y40) x72)) (fun R75 => k_lt (y40 + 1) (fun x77 => b110 R75 x77)))
def K_X11_law_110 (F31 : Nat → Int32) (F38 : Nat → Int32) : Nat → (Nat → Nat → Int32) → (Int32) → Int32 × (Nat → Int32) × (Nat → Nat → Int32)
  | 0 => fun R41 _ => (0, F38, R41)
  | n + 1 => KB_X11_law_110 (K_X11_law_110 F31 F38 n) F31 F38
def K_X11_law_86 (F31 : Nat → Int32) (R32 : Nat → Nat → Int32) (y30 : Int32)  : Int32 × (Nat → Int32) × (Nat → Nat → Int32) :=
  k_lt (upd F31 14 0) (fun F33 => if y30 = 0 then (F31 17, F33, R32) else k_lt (upd F33 28 (F31 27)) (fun F38 => K_X11_law_110 F31 F38 8589934592 R32 0))
def K_X11_law_82 (b46 : (Nat → Int32) → (Nat → Nat → Int32) → (Int32) → Int32 × (Nat → Int32) × (Nat → Nat → Int32)) (F101 : Nat → Int32) (R102 : Nat → Nat → Int32) (y100 : Int32) : Int32 × (Nat → Int32) × (Nat → Nat → Int32) :=
  b46 F101 R102 y100
def KB_X11_law_46 (b46 : (Nat → Int32) → (Nat → Nat → Int32) → (Int32) → Int32 × (Nat → Int32) × (Nat → Nat → Int32))  (F31 : Nat → Int32) (R32 : Nat → Nat → Int32) (y30 : Int32) : Int32 × (Nat → Int32) × (Nat → Nat → Int32) :=
  if y30 = 0 then K_X11_law_86 F31 R32 y30 else if (F31 16) ≤ (F31 15) then K_X11_law_86 F31 R32 y30 else k_lt3 (sp_X11_takes F31 R32 59) (fun r91 F97 R98 => if r91 = 0 then K_X11_law_82 b46 F97 R98 0 else k_lt3 (sp_X11_readsClause F97 R98) (fun r108 F113 R114 => if r108 = 0 then K_X11_law_82 b46 F113 R114 0 else K_X11_law_82 b46 F113 R114 1))
def K_X11_law_46  : Nat → (Nat → Int32) → (Nat → Nat → Int32) → (Int32) → Int32 × (Nat → Int32) × (Nat → Nat → Int32)
  | 0 => fun F31 R32 _ => (0, F31, R32)
  | n + 1 => KB_X11_law_46 (K_X11_law_46 n)
def sp_X11_law (F : Nat → Int32) (R : Nat → Nat → Int32) (a0 : Int32) : Int32 × (Nat → Int32) × (Nat → Nat → Int32) :=
  k_lt (g_in a0 1 200) (fun r1 => if r1 = 0 then K_X11_law_19 F R else if a0 ≤ (F 14) then k_lt (upd F 15 0) (fun F14 => k_lt (upd F14 16 a0) (fun F16 => k_lt (upd F16 25 0) (fun F18 => k_lt (upd F18 27 0) (fun F20 => k_lt3 (sp_X11_readsClause F20 R) (fun r22 F27 R28 => K_X11_law_46 8589934592 F27 R28 r22))))) else K_X11_law_19 F R)
theorem e_X11_law_0 : g_dc cX11_law 0 (.iload_n 1) 1 1 := ⟨by decide +kernel, rfl⟩
theorem e_X11_law_1 : g_dc cX11_law 1 (.iconst 1) 1 2 := ⟨by decide +kernel, rfl⟩
theorem e_X11_law_2 : g_dc cX11_law 2 (.sipush 200) 3 5 := ⟨by decide +kernel, rfl⟩
theorem e_X11_law_5 : g_dc cX11_law 5 (.invokestatic 165) 3 8 := ⟨by decide +kernel, rfl⟩
theorem e_X11_law_8 : g_dc cX11_law 8 (.ifCond .eq 11) 3 11 := ⟨by decide +kernel, rfl⟩
theorem e_X11_law_11 : g_dc cX11_law 11 (.iload_n 1) 1 12 := ⟨by decide +kernel, rfl⟩
theorem e_X11_law_12 : g_dc cX11_law 12 (.aload_n 0) 1 13 := ⟨by decide +kernel, rfl⟩
theorem e_X11_law_13 : g_dc cX11_law 13 (.getfield 183) 3 16 := ⟨by decide +kernel, rfl⟩
theorem e_X11_law_16 : g_dc cX11_law 16 (.if_icmp .le 5) 3 19 := ⟨by decide +kernel, rfl⟩
theorem e_X11_law_19 : g_dc cX11_law 19 (.iconst (-1)) 1 20 := ⟨by decide +kernel, rfl⟩
theorem e_X11_law_20 : g_dc cX11_law 20 (.ireturn) 1 21 := ⟨by decide +kernel, rfl⟩
theorem e_X11_law_21 : g_dc cX11_law 21 (.aload_n 0) 1 22 := ⟨by decide +kernel, rfl⟩
theorem e_X11_law_22 : g_dc cX11_law 22 (.iconst 0) 1 23 := ⟨by decide +kernel, rfl⟩
theorem e_X11_law_23 : g_dc cX11_law 23 (.putfield 190) 3 26 := ⟨by decide +kernel, rfl⟩
theorem e_X11_law_26 : g_dc cX11_law 26 (.aload_n 0) 1 27 := ⟨by decide +kernel, rfl⟩
theorem e_X11_law_27 : g_dc cX11_law 27 (.iload_n 1) 1 28 := ⟨by decide +kernel, rfl⟩
theorem e_X11_law_28 : g_dc cX11_law 28 (.putfield 216) 3 31 := ⟨by decide +kernel, rfl⟩
theorem e_X11_law_31 : g_dc cX11_law 31 (.aload_n 0) 1 32 := ⟨by decide +kernel, rfl⟩
theorem e_X11_law_32 : g_dc cX11_law 32 (.iconst 0) 1 33 := ⟨by decide +kernel, rfl⟩
theorem e_X11_law_33 : g_dc cX11_law 33 (.putfield 231) 3 36 := ⟨by decide +kernel, rfl⟩
theorem e_X11_law_36 : g_dc cX11_law 36 (.aload_n 0) 1 37 := ⟨by decide +kernel, rfl⟩
theorem e_X11_law_37 : g_dc cX11_law 37 (.iconst 0) 1 38 := ⟨by decide +kernel, rfl⟩
theorem e_X11_law_38 : g_dc cX11_law 38 (.putfield 289) 3 41 := ⟨by decide +kernel, rfl⟩
theorem e_X11_law_41 : g_dc cX11_law 41 (.aload_n 0) 1 42 := ⟨by decide +kernel, rfl⟩
theorem e_X11_law_42 : g_dc cX11_law 42 (.invokevirtual 295) 3 45 := ⟨by decide +kernel, rfl⟩
theorem e_X11_law_45 : g_dc cX11_law 45 (.istore_n 2) 1 46 := ⟨by decide +kernel, rfl⟩
theorem e_X11_law_46 : g_dc cX11_law 46 (.iload_n 2) 1 47 := ⟨by decide +kernel, rfl⟩
theorem e_X11_law_47 : g_dc cX11_law 47 (.ifCond .eq 39) 3 50 := ⟨by decide +kernel, rfl⟩
theorem e_X11_law_50 : g_dc cX11_law 50 (.aload_n 0) 1 51 := ⟨by decide +kernel, rfl⟩
theorem e_X11_law_51 : g_dc cX11_law 51 (.getfield 190) 3 54 := ⟨by decide +kernel, rfl⟩
theorem e_X11_law_54 : g_dc cX11_law 54 (.aload_n 0) 1 55 := ⟨by decide +kernel, rfl⟩
theorem e_X11_law_55 : g_dc cX11_law 55 (.getfield 216) 3 58 := ⟨by decide +kernel, rfl⟩
theorem e_X11_law_58 : g_dc cX11_law 58 (.if_icmp .ge 28) 3 61 := ⟨by decide +kernel, rfl⟩
theorem e_X11_law_61 : g_dc cX11_law 61 (.aload_n 0) 1 62 := ⟨by decide +kernel, rfl⟩
theorem e_X11_law_62 : g_dc cX11_law 62 (.bipush 59) 2 64 := ⟨by decide +kernel, rfl⟩
theorem e_X11_law_64 : g_dc cX11_law 64 (.invokevirtual 222) 3 67 := ⟨by decide +kernel, rfl⟩
theorem e_X11_law_67 : g_dc cX11_law 67 (.ifCond .eq 14) 3 70 := ⟨by decide +kernel, rfl⟩
theorem e_X11_law_70 : g_dc cX11_law 70 (.aload_n 0) 1 71 := ⟨by decide +kernel, rfl⟩
theorem e_X11_law_71 : g_dc cX11_law 71 (.invokevirtual 295) 3 74 := ⟨by decide +kernel, rfl⟩
theorem e_X11_law_74 : g_dc cX11_law 74 (.ifCond .eq 7) 3 77 := ⟨by decide +kernel, rfl⟩
theorem e_X11_law_77 : g_dc cX11_law 77 (.iconst 1) 1 78 := ⟨by decide +kernel, rfl⟩
theorem e_X11_law_78 : g_dc cX11_law 78 (.goto 4) 3 81 := ⟨by decide +kernel, rfl⟩
theorem e_X11_law_81 : g_dc cX11_law 81 (.iconst 0) 1 82 := ⟨by decide +kernel, rfl⟩
theorem e_X11_law_82 : g_dc cX11_law 82 (.istore_n 2) 1 83 := ⟨by decide +kernel, rfl⟩
theorem e_X11_law_83 : g_dc cX11_law 83 (.goto (-37)) 3 86 := ⟨by decide +kernel, rfl⟩
theorem e_X11_law_86 : g_dc cX11_law 86 (.aload_n 0) 1 87 := ⟨by decide +kernel, rfl⟩
theorem e_X11_law_87 : g_dc cX11_law 87 (.iconst 0) 1 88 := ⟨by decide +kernel, rfl⟩
theorem e_X11_law_88 : g_dc cX11_law 88 (.putfield 183) 3 91 := ⟨by decide +kernel, rfl⟩
theorem e_X11_law_91 : g_dc cX11_law 91 (.iload_n 2) 1 92 := ⟨by decide +kernel, rfl⟩
theorem e_X11_law_92 : g_dc cX11_law 92 (.ifCond .ne 8) 3 95 := ⟨by decide +kernel, rfl⟩
theorem e_X11_law_95 : g_dc cX11_law 95 (.aload_n 0) 1 96 := ⟨by decide +kernel, rfl⟩
theorem e_X11_law_96 : g_dc cX11_law 96 (.getfield 225) 3 99 := ⟨by decide +kernel, rfl⟩
theorem e_X11_law_99 : g_dc cX11_law 99 (.ireturn) 1 100 := ⟨by decide +kernel, rfl⟩
theorem e_X11_law_100 : g_dc cX11_law 100 (.aload_n 0) 1 101 := ⟨by decide +kernel, rfl⟩
theorem e_X11_law_101 : g_dc cX11_law 101 (.aload_n 0) 1 102 := ⟨by decide +kernel, rfl⟩
theorem e_X11_law_102 : g_dc cX11_law 102 (.getfield 289) 3 105 := ⟨by decide +kernel, rfl⟩
theorem e_X11_law_105 : g_dc cX11_law 105 (.putfield 298) 3 108 := ⟨by decide +kernel, rfl⟩
theorem e_X11_law_108 : g_dc cX11_law 108 (.iconst 0) 1 109 := ⟨by decide +kernel, rfl⟩
theorem e_X11_law_109 : g_dc cX11_law 109 (.istore_n 3) 1 110 := ⟨by decide +kernel, rfl⟩
theorem e_X11_law_110 : g_dc cX11_law 110 (.iload_n 3) 1 111 := ⟨by decide +kernel, rfl⟩
theorem e_X11_law_111 : g_dc cX11_law 111 (.aload_n 0) 1 112 := ⟨by decide +kernel, rfl⟩
theorem e_X11_law_112 : g_dc cX11_law 112 (.getfield 231) 3 115 := ⟨by decide +kernel, rfl⟩
theorem e_X11_law_115 : g_dc cX11_law 115 (.if_icmp .ge 21) 3 118 := ⟨by decide +kernel, rfl⟩
theorem e_X11_law_118 : g_dc cX11_law 118 (.aload_n 0) 1 119 := ⟨by decide +kernel, rfl⟩
theorem e_X11_law_119 : g_dc cX11_law 119 (.getfield 62) 3 122 := ⟨by decide +kernel, rfl⟩
theorem e_X11_law_122 : g_dc cX11_law 122 (.iload_n 3) 1 123 := ⟨by decide +kernel, rfl⟩
theorem e_X11_law_123 : g_dc cX11_law 123 (.aload_n 0) 1 124 := ⟨by decide +kernel, rfl⟩
theorem e_X11_law_124 : g_dc cX11_law 124 (.getfield 44) 3 127 := ⟨by decide +kernel, rfl⟩
theorem e_X11_law_127 : g_dc cX11_law 127 (.iload_n 3) 1 128 := ⟨by decide +kernel, rfl⟩
theorem e_X11_law_128 : g_dc cX11_law 128 (.iaload) 1 129 := ⟨by decide +kernel, rfl⟩
theorem e_X11_law_129 : g_dc cX11_law 129 (.iastore) 1 130 := ⟨by decide +kernel, rfl⟩
theorem e_X11_law_130 : g_dc cX11_law 130 (.iinc 3 1) 3 133 := ⟨by decide +kernel, rfl⟩
theorem e_X11_law_133 : g_dc cX11_law 133 (.goto (-23)) 3 136 := ⟨by decide +kernel, rfl⟩
theorem e_X11_law_136 : g_dc cX11_law 136 (.iconst 0) 1 137 := ⟨by decide +kernel, rfl⟩
theorem e_X11_law_137 : g_dc cX11_law 137 (.istore_n 3) 1 138 := ⟨by decide +kernel, rfl⟩
theorem e_X11_law_138 : g_dc cX11_law 138 (.iload_n 3) 1 139 := ⟨by decide +kernel, rfl⟩
theorem e_X11_law_139 : g_dc cX11_law 139 (.aload_n 0) 1 140 := ⟨by decide +kernel, rfl⟩
theorem e_X11_law_140 : g_dc cX11_law 140 (.getfield 289) 3 143 := ⟨by decide +kernel, rfl⟩
theorem e_X11_law_143 : g_dc cX11_law 143 (.if_icmp .ge 57) 3 146 := ⟨by decide +kernel, rfl⟩
theorem e_X11_law_146 : g_dc cX11_law 146 (.aload_n 0) 1 147 := ⟨by decide +kernel, rfl⟩
theorem e_X11_law_147 : g_dc cX11_law 147 (.getfield 65) 3 150 := ⟨by decide +kernel, rfl⟩
theorem e_X11_law_150 : g_dc cX11_law 150 (.iload_n 3) 1 151 := ⟨by decide +kernel, rfl⟩
theorem e_X11_law_151 : g_dc cX11_law 151 (.aload_n 0) 1 152 := ⟨by decide +kernel, rfl⟩
theorem e_X11_law_152 : g_dc cX11_law 152 (.getfield 50) 3 155 := ⟨by decide +kernel, rfl⟩
theorem e_X11_law_155 : g_dc cX11_law 155 (.iload_n 3) 1 156 := ⟨by decide +kernel, rfl⟩
theorem e_X11_law_156 : g_dc cX11_law 156 (.iaload) 1 157 := ⟨by decide +kernel, rfl⟩
theorem e_X11_law_157 : g_dc cX11_law 157 (.iastore) 1 158 := ⟨by decide +kernel, rfl⟩
theorem e_X11_law_158 : g_dc cX11_law 158 (.aload_n 0) 1 159 := ⟨by decide +kernel, rfl⟩
theorem e_X11_law_159 : g_dc cX11_law 159 (.getfield 68) 3 162 := ⟨by decide +kernel, rfl⟩
theorem e_X11_law_162 : g_dc cX11_law 162 (.iload_n 3) 1 163 := ⟨by decide +kernel, rfl⟩
theorem e_X11_law_163 : g_dc cX11_law 163 (.aload_n 0) 1 164 := ⟨by decide +kernel, rfl⟩
theorem e_X11_law_164 : g_dc cX11_law 164 (.getfield 53) 3 167 := ⟨by decide +kernel, rfl⟩
theorem e_X11_law_167 : g_dc cX11_law 167 (.iload_n 3) 1 168 := ⟨by decide +kernel, rfl⟩
theorem e_X11_law_168 : g_dc cX11_law 168 (.iaload) 1 169 := ⟨by decide +kernel, rfl⟩
theorem e_X11_law_169 : g_dc cX11_law 169 (.iastore) 1 170 := ⟨by decide +kernel, rfl⟩
theorem e_X11_law_170 : g_dc cX11_law 170 (.aload_n 0) 1 171 := ⟨by decide +kernel, rfl⟩
theorem e_X11_law_171 : g_dc cX11_law 171 (.getfield 71) 3 174 := ⟨by decide +kernel, rfl⟩
theorem e_X11_law_174 : g_dc cX11_law 174 (.iload_n 3) 1 175 := ⟨by decide +kernel, rfl⟩
theorem e_X11_law_175 : g_dc cX11_law 175 (.aload_n 0) 1 176 := ⟨by decide +kernel, rfl⟩
theorem e_X11_law_176 : g_dc cX11_law 176 (.getfield 56) 3 179 := ⟨by decide +kernel, rfl⟩
theorem e_X11_law_179 : g_dc cX11_law 179 (.iload_n 3) 1 180 := ⟨by decide +kernel, rfl⟩
theorem e_X11_law_180 : g_dc cX11_law 180 (.iaload) 1 181 := ⟨by decide +kernel, rfl⟩
theorem e_X11_law_181 : g_dc cX11_law 181 (.iastore) 1 182 := ⟨by decide +kernel, rfl⟩
theorem e_X11_law_182 : g_dc cX11_law 182 (.aload_n 0) 1 183 := ⟨by decide +kernel, rfl⟩
theorem e_X11_law_183 : g_dc cX11_law 183 (.getfield 74) 3 186 := ⟨by decide +kernel, rfl⟩
theorem e_X11_law_186 : g_dc cX11_law 186 (.iload_n 3) 1 187 := ⟨by decide +kernel, rfl⟩
theorem e_X11_law_187 : g_dc cX11_law 187 (.aload_n 0) 1 188 := ⟨by decide +kernel, rfl⟩
theorem e_X11_law_188 : g_dc cX11_law 188 (.getfield 59) 3 191 := ⟨by decide +kernel, rfl⟩
theorem e_X11_law_191 : g_dc cX11_law 191 (.iload_n 3) 1 192 := ⟨by decide +kernel, rfl⟩
theorem e_X11_law_192 : g_dc cX11_law 192 (.iaload) 1 193 := ⟨by decide +kernel, rfl⟩
theorem e_X11_law_193 : g_dc cX11_law 193 (.iastore) 1 194 := ⟨by decide +kernel, rfl⟩
theorem e_X11_law_194 : g_dc cX11_law 194 (.iinc 3 1) 3 197 := ⟨by decide +kernel, rfl⟩
theorem e_X11_law_197 : g_dc cX11_law 197 (.goto (-59)) 3 200 := ⟨by decide +kernel, rfl⟩
theorem e_X11_law_200 : g_dc cX11_law 200 (.aload_n 0) 1 201 := ⟨by decide +kernel, rfl⟩
theorem e_X11_law_201 : g_dc cX11_law 201 (.getfield 289) 3 204 := ⟨by decide +kernel, rfl⟩
theorem e_X11_law_204 : g_dc cX11_law 204 (.ireturn) 1 205 := ⟨by decide +kernel, rfl⟩
def md_X11_law : List Nat := [14, 15, 16, 17, 18, 24, 25, 26, 27, 28]
def mr_X11_law : List Nat := [12, 13, 14, 15, 16, 17, 18, 19, 20, 21, 22]
set_option maxHeartbeats 4000000 in
set_option maxRecDepth 100000 in
theorem w_X11_law (l : Launch) (X : gX) (ad : Nat → Nat) (F : Nat → Int32) (R : Nat → Nat → Int32) (hI : g_ok LK_wM F) (hA : g_okR LA_wM R) (hWT : WT F R) (hWC : WC F R) (a0 : Int32) : g_Ci l X yX11_law cX11_law 4 (some .int) 9 0 0 [.ref (ad 0), .int a0] (wM X ad F R) (fun r w => ∃ (F' : Nat → Int32) (R' : Nat → Nat → Int32), w = wM X ad F' R' ∧ g_ok LK_wM F' ∧ g_okR LA_wM R' ∧ WT F' R' ∧ WC F' R' ∧ g_fr md_X11_law F F' ∧ g_fr mr_X11_law R R' ∧ jv (-2147483648) 2147483647 r ∧ (r, F', R') = sp_X11_law F R a0) := by
  refine g_mi (by decide +kernel) (Nat.le_of_ble_eq_true rfl) (fun E cx hret => ?_)
  obtain ⟨SP, hSP⟩ : ∃ z, z = sp_X11_law F R a0 := ⟨_, rfl⟩
  have hk0 := hSP
  unfold sp_X11_law at hk0
  refine g_iload_n cx 1 rfl e_X11_law_0 ?_
  refine g_iconst cx 1 (by decide) e_X11_law_1 ?_
  refine g_sipush cx 200 (by decide) e_X11_law_2 ?_
  refine g_cSiW cx [.int a0, .int 1, .int 200] [] (c_X11_in l X (wM X ad F R) a0 1 200) ml_X11_165 yS_X11_in rfl e_X11_law_5 (by unfold g_rr; decide) (by decide) rfl (Nat.le_of_ble_eq_true rfl) (fun r1 w2 h3 => ?_)
  obtain ⟨rfl, hr1⟩ := h3
  have pr1 : jv 0 1 r1 := by rw [hr1]; exact gi_01 _ _ _
  have hk4 := k_ls hk0 hr1
  have J19 : (SP = K_X11_law_19 F R) → G X E 4 0 0 (wM X ad F R) [] 19 [] := by
    intro   hkJ19
    unfold K_X11_law_19 at hkJ19
    refine g_iconst cx (-1) (by decide) e_X11_law_19 ?_
    exact hret e_X11_law_20 (Nat.le_of_ble_eq_true rfl) (Nat.le_of_ble_eq_true rfl) rfl ⟨F, R, rfl, hI, hA, hWT, hWC, (g_fr_rf F), (g_fr_rf R), (jv_w (jv_k (x := (-1)) (-1) (by decide)) (by decide)), (hkJ19.symm.trans hSP)⟩
  refine g_if_eq cx 19 e_X11_law_8 (by decide) (fun zc5 => ?_) (fun zc5 => ?_)
  · have p6 := gn_eq 0 0 (gc_eq zc5) pr1 (jv_k (x := 0) 0 (by decide)) (by decide)
    have hk7 := hk4.trans (if_pos zc5)
    refine g_lsub [] [] rfl ?_
    exact J19  hk7
  · have p8 := gn_neL 1 1 (gc_ne zc5) pr1 (jv_k (x := 0) 0 (by decide)) (by decide)
    have p9 := jv_i 1 200 (jv_t a0) (gi_in (A := 1) (B := 200) hr1 zc5 (by decide) (by decide)) (by decide)
    have hk10 := hk4.trans (if_neg zc5)
    refine g_iload_n cx 1 rfl e_X11_law_11 ?_
    refine g_aload_n cx 0 rfl e_X11_law_12 ?_
    refine g_get cx cl_X11 fl_X11_183 0 (.int (F 14)) e_X11_law_13 rfl rfl ?_
    refine g_icmp_le cx 21 e_X11_law_16 (by decide) (fun zc11 => ?_) (fun zc11 => ?_)
    · have p12 := gn_ge 1 220 (gc_le zc11) (g_ok_g hI 0 rfl) p9 (by decide)
      have hk13 := hk10.trans (if_pos zc11)
      refine g_aload_n cx 0 rfl e_X11_law_21 ?_
      refine g_iconst cx 0 (by decide) e_X11_law_22 ?_
      refine g_put cx cl_X11 fl_X11_190 0 (wM X ad (upd F 15 0) R) e_X11_law_23 rfl rfl rfl rfl (Nat.le_of_ble_eq_true rfl) rfl ?_
      obtain ⟨F14, hF14⟩ : ∃ z, z = upd F 15 0 := ⟨_, rfl⟩
      rw [← hF14]
      have hk15 := k_ls hk13 hF14
      have oF14 : g_ok LK_wM F14 := by rw [hF14]; exact g_ok_p hI (jv_k (x := 0) 0 (by decide)) rfl
      have fF14 : g_fr md_X11_law F F14 := by rw [hF14]; exact g_fr_u (g_fr_rf F) rfl
      have wTF14 : WT F14 R := by rw [hF14]; exact WT_u hWT rfl
      have wCF14 : WC F14 R := by rw [hF14]; exact WC_u hWC rfl
      refine g_aload_n cx 0 rfl e_X11_law_26 ?_
      refine g_iload_n cx 1 rfl e_X11_law_27 ?_
      refine g_put cx cl_X11 fl_X11_216 0 (wM X ad (upd F14 16 a0) R) e_X11_law_28 rfl rfl rfl rfl (Nat.le_of_ble_eq_true rfl) rfl ?_
      obtain ⟨F16, hF16⟩ : ∃ z, z = upd F14 16 a0 := ⟨_, rfl⟩
      rw [← hF16]
      have hk17 := k_ls hk15 hF16
      have oF16 : g_ok LK_wM F16 := by rw [hF16]; exact g_ok_p oF14 p9 rfl
      have fF16 : g_fr md_X11_law F F16 := by rw [hF16]; exact g_fr_u fF14 rfl
      have wTF16 : WT F16 R := by rw [hF16]; exact WT_u wTF14 rfl
      have wCF16 : WC F16 R := by rw [hF16]; exact WC_u wCF14 rfl
      refine g_aload_n cx 0 rfl e_X11_law_31 ?_
      refine g_iconst cx 0 (by decide) e_X11_law_32 ?_
      refine g_put cx cl_X11 fl_X11_231 0 (wM X ad (upd F16 25 0) R) e_X11_law_33 rfl rfl rfl rfl (Nat.le_of_ble_eq_true rfl) rfl ?_
      obtain ⟨F18, hF18⟩ : ∃ z, z = upd F16 25 0 := ⟨_, rfl⟩
      rw [← hF18]
      have hk19 := k_ls hk17 hF18
      have oF18 : g_ok LK_wM F18 := by rw [hF18]; exact g_ok_p oF16 (jv_k (x := 0) 0 (by decide)) rfl
      have fF18 : g_fr md_X11_law F F18 := by rw [hF18]; exact g_fr_u fF16 rfl
      have wTF18 : WT F18 R := by rw [hF18]; exact WT_u wTF16 rfl
      have wCF18 : WC F18 R := by rw [hF18]; exact WC_u wCF16 rfl
      refine g_aload_n cx 0 rfl e_X11_law_36 ?_
      refine g_iconst cx 0 (by decide) e_X11_law_37 ?_
      refine g_put cx cl_X11 fl_X11_289 0 (wM X ad (upd F18 27 0) R) e_X11_law_38 rfl rfl rfl rfl (Nat.le_of_ble_eq_true rfl) rfl ?_
      obtain ⟨F20, hF20⟩ : ∃ z, z = upd F18 27 0 := ⟨_, rfl⟩
      rw [← hF20]
      have hk21 := k_ls hk19 hF20
      have oF20 : g_ok LK_wM F20 := by rw [hF20]; exact g_ok_p oF18 (jv_k (x := 0) 0 (by decide)) rfl
      have fF20 : g_fr md_X11_law F F20 := by rw [hF20]; exact g_fr_u fF18 rfl
      have wTF20 : WT F20 R := by rw [hF20]; exact WT_u wTF18 rfl
      have wCF20 : WC F20 R := by rw [hF20]; exact WC_u wCF18 rfl
      refine g_aload_n cx 0 rfl e_X11_law_41 ?_
      refine g_cViW cx [] [] (w_X11_readsClause l X ad F20 R oF20 hA wTF20 wCF20 (WD_0 R (g_pu1 hF20)) (by have q0 := (jv_k (x := 0) 0 (by decide)).1; have q1 := (jv_k (x := 0) 0 (by decide)).2; have q2 := (g_ok_g oF20 1 rfl).1; have q3 := (g_ok_g oF20 1 rfl).2; have q4 := (g_ok_g oF20 7 rfl).1; have q5 := (g_ok_g oF20 7 rfl).2; have q6 := p8.1; have q7 := p8.2; have q8 := (gc_ne zc5); have q9 := (congrArg Int32.toInt (show F20 25 = 0 from ((g_pu2 hF20 rfl).trans (g_pu1 hF18)))); have q10 := (congrArg Int32.toInt (show F20 15 = 0 from ((((g_pu2 hF20 rfl).trans (g_pu2 hF18 rfl)).trans (g_pu2 hF16 rfl)).trans (g_pu1 hF14)))); omega)) ml_X11_295 yV_X11_readsClause e_X11_law_42 (by unfold g_rr; decide) (by decide) 0 rfl rfl rfl (Nat.le_of_ble_eq_true rfl) (fun r22 w23 h24 => ?_)
      obtain ⟨F27, R28, rfl, oF27, oR28, wTF27, wCF27, cF27, cR28, pr22, zx25, hx26⟩ := h24
      have hk29 := k_ls3 hk21 hx26
      have fF27 : g_fr md_X11_law F F27 := g_fr_c fF20 cF27 rfl
      have fR28 : g_fr mr_X11_law R R28 := g_fr_c (g_fr_rf R) cR28 rfl
      refine g_istore_n cx [(2, .int r22), (0, .ref (ad 0)), (1, .int a0)] e_X11_law_45 (by decide) rfl ?_
      have J46 : ∀ (N : Nat) (F31 : Nat → Int32) (R32 : Nat → Nat → Int32) (y30 : Int32), (g_ok LK_wM F31) → (g_fr md_X11_law F F31) → (g_okR LA_wM R32) → (g_fr mr_X11_law R R32) → (WT F31 R32) → (WC F31 R32) → (jv 0 1 y30) → (¬ y30 = 0 → WD F31 R32 ∧ (F31 25).toInt ≤ (F31 15).toInt) → (SP = K_X11_law_46 N F31 R32 y30) → (1000 * (y30 : Int32).toInt - (F31 15).toInt).toNat < N → G X E 4 0 0 (wM X ad F31 R32) [(0, .ref (ad 0)), (2, .int y30)] 46 [] := by
        intro N
        induction N with
        | zero => intro F31 R32 y30 oF31 fF31 oR32 fR32 wTF31R32 wCF31R32 py30 zq46_0 hkJ46 hm; exact absurd hm (Nat.not_lt_zero _)
        | succ N ih46 =>
          intro F31 R32 y30 oF31 fF31 oR32 fR32 wTF31R32 wCF31R32 py30 zq46_0 hkJ46 hm46
          have hkK46 : SP = KB_X11_law_46 (K_X11_law_46 N) F31 R32 y30 := hkJ46
          obtain ⟨b46, hb46⟩ : ∃ z, z = K_X11_law_46 N := ⟨_, rfl⟩
          rw [← hb46] at hkK46
          unfold KB_X11_law_46 at hkK46
          refine g_iload_n cx 1 rfl e_X11_law_46 ?_
          have J86 : (SP = K_X11_law_86 F31 R32 y30) → G X E 4 0 0 (wM X ad F31 R32) [(0, .ref (ad 0)), (2, .int y30)] 86 [] := by
            intro   hkJ86
            unfold K_X11_law_86 at hkJ86
            refine g_aload_n cx 0 rfl e_X11_law_86 ?_
            refine g_iconst cx 0 (by decide) e_X11_law_87 ?_
            refine g_put cx cl_X11 fl_X11_183 0 (wM X ad (upd F31 14 0) R32) e_X11_law_88 rfl rfl rfl rfl (Nat.le_of_ble_eq_true rfl) rfl ?_
            obtain ⟨F33, hF33⟩ : ∃ z, z = upd F31 14 0 := ⟨_, rfl⟩
            rw [← hF33]
            have hk34 := k_ls hkJ86 hF33
            have oF33 : g_ok LK_wM F33 := by rw [hF33]; exact g_ok_p oF31 (jv_k (x := 0) 0 (by decide)) rfl
            have fF33 : g_fr md_X11_law F F33 := by rw [hF33]; exact g_fr_u fF31 rfl
            have wTF33 : WT F33 R32 := by rw [hF33]; exact WT_u wTF31R32 rfl
            have wCF33 : WC F33 R32 := by rw [hF33]; exact WC_u wCF31R32 rfl
            refine g_iload_n cx 1 rfl e_X11_law_91 ?_
            refine g_if_ne cx 100 e_X11_law_92 (by decide) (fun zc35 => ?_) (fun zc35 => ?_)
            · have p36 := gn_neL 1 1 (gc_ne zc35) py30 (jv_k (x := 0) 0 (by decide)) (by decide)
              have wd46 := (zq46_0 zc35).1
              have hk37 := hk34.trans (if_neg zc35)
              have wd100 : WD F33 R32 := (WD_e wd46 (g_pu2 hF33 rfl) (g_pu2 hF33 rfl) (rfl : R32 12 = R32 12) (rfl : R32 15 = R32 15) (rfl : R32 16 = R32 16) (rfl : R32 17 = R32 17))
              refine g_aload_n cx 0 rfl e_X11_law_100 ?_
              refine g_aload_n cx 0 rfl e_X11_law_101 ?_
              refine g_get cx cl_X11 fl_X11_289 0 (.int (F33 27)) e_X11_law_102 rfl rfl ?_
              refine g_toi (F31 27) (g_pu2 hF33 rfl) ?_
              refine g_put cx cl_X11 fl_X11_298 0 (wM X ad (upd F33 28 (F31 27)) R32) e_X11_law_105 rfl rfl rfl rfl (Nat.le_of_ble_eq_true rfl) rfl ?_
              obtain ⟨F38, hF38⟩ : ∃ z, z = upd F33 28 (F31 27) := ⟨_, rfl⟩
              rw [← hF38]
              have hk39 := k_ls hk37 hF38
              have oF38 : g_ok LK_wM F38 := by rw [hF38]; exact g_ok_p oF33 (g_ok_g oF31 9 rfl) rfl
              have fF38 : g_fr md_X11_law F F38 := by rw [hF38]; exact g_fr_u fF33 rfl
              have wTF38 : WT F38 R32 := by rw [hF38]; exact WT_u wTF33 rfl
              refine g_iconst cx 0 (by decide) e_X11_law_108 ?_
              refine g_istore_n cx [(3, .int 0), (0, .ref (ad 0)), (2, .int y30)] e_X11_law_109 (by decide) rfl ?_
              have J110 : ∀ (N : Nat) (R41 : Nat → Nat → Int32) (y40 : Int32), (g_okR LA_wM R41) → (g_fr mr_X11_law R R41) → (WT F38 R41) → (jv 0 220 y40) → (R41 12 = R32 12 ∧ R41 15 = R32 15 ∧ R41 16 = R32 16 ∧ R41 17 = R32 17 ∧ ∀ j : Nat, (j : Int) < (y40 : Int32).toInt → R41 18 j = R32 12 j) → (SP = K_X11_law_110 F31 F38 N R41 y40) → (2147483647 - y40.toInt).toNat < N → G X E 4 0 0 (wM X ad F38 R41) [(0, .ref (ad 0)), (3, .int y40)] 110 [] := by
                intro N
                induction N with
                | zero => intro R41 y40 oR41 fR41 wTR41 py40 zq110_0 hkJ110 hm; exact absurd hm (Nat.not_lt_zero _)
                | succ N ih110 =>
                  intro R41 y40 oR41 fR41 wTR41 py40 zq110_0 hkJ110 hm110
                  have hkK110 : SP = KB_X11_law_110 (K_X11_law_110 F31 F38 N) F31 F38 R41 y40 := hkJ110
                  obtain ⟨b110, hb110⟩ : ∃ z, z = K_X11_law_110 F31 F38 N := ⟨_, rfl⟩
                  rw [← hb110] at hkK110
                  unfold KB_X11_law_110 at hkK110
                  refine g_iload_n cx 1 rfl e_X11_law_110 ?_
                  refine g_aload_n cx 0 rfl e_X11_law_111 ?_
                  refine g_get cx cl_X11 fl_X11_231 0 (.int (F38 25)) e_X11_law_112 rfl rfl ?_
                  refine g_toi (F31 25) ((g_pu2 hF38 rfl).trans (g_pu2 hF33 rfl)) ?_
                  refine g_icmp_ge cx 136 e_X11_law_115 (by decide) (fun zc42 => ?_) (fun zc42 => ?_)
                  · have hk43 := hkK110.trans (if_pos zc42)
                    have c18 : ∀ j : Nat, (j : Int) < (F33 25).toInt → R41 18 j = R32 12 j := fun j hj => zq110_0.2.2.2.2 j (by have q0 := (g_ok_g oF31 7 rfl).1; have q1 := (g_ok_g oF31 7 rfl).2; have q2 := (g_ok_g oF33 7 rfl).1; have q3 := (g_ok_g oF33 7 rfl).2; have q4 := (g_ok_g oF38 7 rfl).1; have q5 := (g_ok_g oF38 7 rfl).2; have q6 := py40.1; have q7 := py40.2; have q8 := (gc_le zc42); have q9 := (congrArg Int32.toInt (show F33 25 = F31 25 from (g_pu2 hF33 rfl))); have q10 := (congrArg Int32.toInt (show F38 25 = F31 25 from ((g_pu2 hF38 rfl).trans (g_pu2 hF33 rfl)))); have q11 := hj; omega)
                    refine g_iconst cx 0 (by decide) e_X11_law_136 ?_
                    refine g_istore_n cx [(3, .int 0), (0, .ref (ad 0))] e_X11_law_137 (by decide) rfl ?_
                    have J138 : ∀ (N : Nat) (R45 : Nat → Nat → Int32) (y44 : Int32), (g_okR LA_wM R45) → (g_fr mr_X11_law R R45) → (WT F38 R45) → (jv 0 14 y44) → (R45 12 = R32 12 ∧ R45 15 = R32 15 ∧ R45 16 = R32 16 ∧ R45 17 = R32 17 ∧ R45 18 = R41 18 ∧ (∀ j : Nat, (j : Int) < (y44 : Int32).toInt → R45 20 j = R32 15 j) ∧ (∀ j : Nat, (j : Int) < (y44 : Int32).toInt → R45 21 j = R32 16 j) ∧ (∀ j : Nat, (j : Int) < (y44 : Int32).toInt → R45 22 j = R32 17 j)) → (SP = K_X11_law_138 F31 F38 N R45 y44) → (2147483647 - y44.toInt).toNat < N → G X E 4 0 0 (wM X ad F38 R45) [(0, .ref (ad 0)), (3, .int y44)] 138 [] := by
                      intro N
                      induction N with
                      | zero => intro R45 y44 oR45 fR45 wTR45 py44 zq138_0 hkJ138 hm; exact absurd hm (Nat.not_lt_zero _)
                      | succ N ih138 =>
                        intro R45 y44 oR45 fR45 wTR45 py44 zq138_0 hkJ138 hm138
                        have hkK138 : SP = KB_X11_law_138 (K_X11_law_138 F31 F38 N) F31 F38 R45 y44 := hkJ138
                        obtain ⟨b138, hb138⟩ : ∃ z, z = K_X11_law_138 F31 F38 N := ⟨_, rfl⟩
                        rw [← hb138] at hkK138
                        unfold KB_X11_law_138 at hkK138
                        refine g_iload_n cx 1 rfl e_X11_law_138 ?_
                        refine g_aload_n cx 0 rfl e_X11_law_139 ?_
                        refine g_get cx cl_X11 fl_X11_289 0 (.int (F38 27)) e_X11_law_140 rfl rfl ?_
                        refine g_toi (F31 27) ((g_pu2 hF38 rfl).trans (g_pu2 hF33 rfl)) ?_
                        refine g_icmp_ge cx 200 e_X11_law_143 (by decide) (fun zc46 => ?_) (fun zc46 => ?_)
                        · have hk47 := hkK138.trans (if_pos zc46)
                          refine g_aload_n cx 0 rfl e_X11_law_200 ?_
                          refine g_get cx cl_X11 fl_X11_289 0 (.int (F38 27)) e_X11_law_201 rfl rfl ?_
                          refine g_toi (F31 27) ((g_pu2 hF38 rfl).trans (g_pu2 hF33 rfl)) ?_
                          exact hret e_X11_law_204 (Nat.le_of_ble_eq_true rfl) (Nat.le_of_ble_eq_true rfl) rfl ⟨F38, R45, rfl, oF38, oR45, wTR45, (WC_of wd100 (g_ok_g oF33 7 rfl).2 ((g_pu1 hF38).trans (g_pu2 hF33 rfl).symm) (fun j hj => (congrFun zq138_0.2.2.2.2.1 j).trans (c18 j hj)) (fun j hj => zq138_0.2.2.2.2.2.1 j (by have q0 := (g_ok_g oF31 9 rfl).1; have q1 := (g_ok_g oF31 9 rfl).2; have q2 := (g_ok_g oF33 9 rfl).1; have q3 := (g_ok_g oF33 9 rfl).2; have q4 := (g_ok_g oF38 9 rfl).1; have q5 := (g_ok_g oF38 9 rfl).2; have q6 := py44.1; have q7 := py44.2; have q8 := (gc_le zc46); have q9 := (congrArg Int32.toInt (show F33 27 = F31 27 from (g_pu2 hF33 rfl))); have q10 := (congrArg Int32.toInt (show F38 27 = F31 27 from ((g_pu2 hF38 rfl).trans (g_pu2 hF33 rfl)))); have q11 := hj; omega)) (fun j hj => zq138_0.2.2.2.2.2.2.1 j (by have q0 := (g_ok_g oF31 9 rfl).1; have q1 := (g_ok_g oF31 9 rfl).2; have q2 := (g_ok_g oF33 9 rfl).1; have q3 := (g_ok_g oF33 9 rfl).2; have q4 := (g_ok_g oF38 9 rfl).1; have q5 := (g_ok_g oF38 9 rfl).2; have q6 := py44.1; have q7 := py44.2; have q8 := (gc_le zc46); have q9 := (congrArg Int32.toInt (show F33 27 = F31 27 from (g_pu2 hF33 rfl))); have q10 := (congrArg Int32.toInt (show F38 27 = F31 27 from ((g_pu2 hF38 rfl).trans (g_pu2 hF33 rfl)))); have q11 := (congrArg Int32.toInt (show F38 27 = F31 27 from ((g_pu2 hF38 rfl).trans (g_pu2 hF33 rfl)))); have q12 := hj; omega)) (fun j hj => zq138_0.2.2.2.2.2.2.2 j (by have q0 := (g_ok_g oF31 9 rfl).1; have q1 := (g_ok_g oF31 9 rfl).2; have q2 := (g_ok_g oF33 9 rfl).1; have q3 := (g_ok_g oF33 9 rfl).2; have q4 := (g_ok_g oF38 9 rfl).1; have q5 := (g_ok_g oF38 9 rfl).2; have q6 := py44.1; have q7 := py44.2; have q8 := (gc_le zc46); have q9 := (congrArg Int32.toInt (show F33 27 = F31 27 from (g_pu2 hF33 rfl))); have q10 := (congrArg Int32.toInt (show F38 27 = F31 27 from ((g_pu2 hF38 rfl).trans (g_pu2 hF33 rfl)))); have q11 := (congrArg Int32.toInt (show F38 27 = F31 27 from ((g_pu2 hF38 rfl).trans (g_pu2 hF33 rfl)))); have q12 := (congrArg Int32.toInt (show F38 27 = F31 27 from ((g_pu2 hF38 rfl).trans (g_pu2 hF33 rfl)))); have q13 := hj; omega))), fF38, fR45, (jv_w (g_ok_g oF31 9 rfl) (by decide)), (hk47.symm.trans hSP)⟩
                        · have p48 := gn_lt 0 13 (gc_nle zc46) py44 (g_ok_g oF31 9 rfl) (by decide)
                          have p49 := gn_gt 1 14 (gc_nle zc46) (g_ok_g oF31 9 rfl) py44 (by decide)
                          have hk50 := hkK138.trans (if_neg zc46)
                          refine g_aload_n cx 0 rfl e_X11_law_146 ?_
                          refine g_get cx cl_X11 fl_X11_65 0 (.ref (ad 19)) e_X11_law_147 rfl rfl ?_
                          refine g_iload_n cx 1 rfl e_X11_law_150 ?_
                          refine g_aload_n cx 0 rfl e_X11_law_151 ?_
                          refine g_get cx cl_X11 fl_X11_50 0 (.ref (ad 14)) e_X11_law_152 rfl rfl ?_
                          refine g_iload_n cx 1 rfl e_X11_law_155 ?_
                          refine g_iald cx 14 e_X11_law_156 rfl (jv_ix 14 p48 (by decide)) ?_
                          refine g_topi (fun x51 ex51 => ?_)
                          have hk52 := k_ls hk50 ex51
                          refine g_iast cx 19 (wM X ad F38 (g_u R45 19 (upd (R45 19) (Int32.toNatClampNeg y44) x51))) e_X11_law_157 rfl (jv_ix 14 p48 (by decide)) rfl ?_
                          obtain ⟨R53, hR53⟩ : ∃ z, z = g_u R45 19 (upd (R45 19) (Int32.toNatClampNeg y44) x51) := ⟨_, rfl⟩
                          rw [← hR53]
                          have hk54 := k_ls hk52 hR53
                          have oR53 : g_okR LA_wM R53 := by rw [hR53]; exact g_okR_u oR45 rfl
                          have fR53 : g_fr mr_X11_law R R53 := by rw [hR53]; exact g_fr_r fR45 rfl
                          have wTR53 : WT F38 R53 := by rw [hR53]; exact WT_r wTR45 rfl
                          refine g_aload_n cx 0 rfl e_X11_law_158 ?_
                          refine g_get cx cl_X11 fl_X11_68 0 (.ref (ad 20)) e_X11_law_159 rfl rfl ?_
                          refine g_iload_n cx 1 rfl e_X11_law_162 ?_
                          refine g_aload_n cx 0 rfl e_X11_law_163 ?_
                          refine g_get cx cl_X11 fl_X11_53 0 (.ref (ad 15)) e_X11_law_164 rfl rfl ?_
                          refine g_iload_n cx 1 rfl e_X11_law_167 ?_
                          refine g_iald cx 15 e_X11_law_168 rfl (jv_ix 14 p48 (by decide)) ?_
                          refine g_topi (fun x55 ex55 => ?_)
                          have hk56 := k_ls hk54 ex55
                          refine g_iast cx 20 (wM X ad F38 (g_u R53 20 (upd (R53 20) (Int32.toNatClampNeg y44) x55))) e_X11_law_169 rfl (jv_ix 14 p48 (by decide)) rfl ?_
                          obtain ⟨R57, hR57⟩ : ∃ z, z = g_u R53 20 (upd (R53 20) (Int32.toNatClampNeg y44) x55) := ⟨_, rfl⟩
                          rw [← hR57]
                          have hk58 := k_ls hk56 hR57
                          have oR57 : g_okR LA_wM R57 := by rw [hR57]; exact g_okR_u oR53 rfl
                          have fR57 : g_fr mr_X11_law R R57 := by rw [hR57]; exact g_fr_r fR53 rfl
                          have wTR57 : WT F38 R57 := by rw [hR57]; exact WT_r wTR53 rfl
                          refine g_aload_n cx 0 rfl e_X11_law_170 ?_
                          refine g_get cx cl_X11 fl_X11_71 0 (.ref (ad 21)) e_X11_law_171 rfl rfl ?_
                          refine g_iload_n cx 1 rfl e_X11_law_174 ?_
                          refine g_aload_n cx 0 rfl e_X11_law_175 ?_
                          refine g_get cx cl_X11 fl_X11_56 0 (.ref (ad 16)) e_X11_law_176 rfl rfl ?_
                          refine g_iload_n cx 1 rfl e_X11_law_179 ?_
                          refine g_iald cx 16 e_X11_law_180 rfl (jv_ix 14 p48 (by decide)) ?_
                          refine g_topi (fun x59 ex59 => ?_)
                          have hk60 := k_ls hk58 ex59
                          refine g_iast cx 21 (wM X ad F38 (g_u R57 21 (upd (R57 21) (Int32.toNatClampNeg y44) x59))) e_X11_law_181 rfl (jv_ix 14 p48 (by decide)) rfl ?_
                          obtain ⟨R61, hR61⟩ : ∃ z, z = g_u R57 21 (upd (R57 21) (Int32.toNatClampNeg y44) x59) := ⟨_, rfl⟩
                          rw [← hR61]
                          have hk62 := k_ls hk60 hR61
                          have oR61 : g_okR LA_wM R61 := by rw [hR61]; exact g_okR_u oR57 rfl
                          have fR61 : g_fr mr_X11_law R R61 := by rw [hR61]; exact g_fr_r fR57 rfl
                          have wTR61 : WT F38 R61 := by rw [hR61]; exact WT_r wTR57 rfl
                          refine g_aload_n cx 0 rfl e_X11_law_182 ?_
                          refine g_get cx cl_X11 fl_X11_74 0 (.ref (ad 22)) e_X11_law_183 rfl rfl ?_
                          refine g_iload_n cx 1 rfl e_X11_law_186 ?_
                          refine g_aload_n cx 0 rfl e_X11_law_187 ?_
                          refine g_get cx cl_X11 fl_X11_59 0 (.ref (ad 17)) e_X11_law_188 rfl rfl ?_
                          refine g_iload_n cx 1 rfl e_X11_law_191 ?_
                          refine g_iald cx 17 e_X11_law_192 rfl (jv_ix 14 p48 (by decide)) ?_
                          refine g_topi (fun x63 ex63 => ?_)
                          have hk64 := k_ls hk62 ex63
                          refine g_iast cx 22 (wM X ad F38 (g_u R61 22 (upd (R61 22) (Int32.toNatClampNeg y44) x63))) e_X11_law_193 rfl (jv_ix 14 p48 (by decide)) rfl ?_
                          obtain ⟨R65, hR65⟩ : ∃ z, z = g_u R61 22 (upd (R61 22) (Int32.toNatClampNeg y44) x63) := ⟨_, rfl⟩
                          rw [← hR65]
                          have hk66 := k_ls hk64 hR65
                          have oR65 : g_okR LA_wM R65 := by rw [hR65]; exact g_okR_u oR61 rfl
                          have fR65 : g_fr mr_X11_law R R65 := by rw [hR65]; exact g_fr_r fR61 rfl
                          have wTR65 : WT F38 R65 := by rw [hR65]; exact WT_r wTR61 rfl
                          obtain ⟨x67, ex67⟩ : ∃ z : Int32, z = y44 + Int32.ofInt 1 := ⟨_, rfl⟩
                          have hk68 := k_ls hk66 (show x67 = y44 + 1 from ex67)
                          refine g_iinc cx x67 [(3, .int x67), (0, .ref (ad 0))] 1 e_X11_law_194 rfl ex67.symm (by decide) rfl ?_
                          have zx67 := jv_add 1 14 (show x67 = y44 + 1 from ex67) p48 (jv_k (x := 1) 1 (by decide)) (by decide)
                          refine g_goto cx 138 e_X11_law_197 (by decide) ?_
                          refine g_lsub [1, 0] [(0, .ref (ad 0)), (3, .int x67)] rfl ?_
                          exact ih138 R65 x67 oR65 fR65 wTR65 (jv_w zx67.2 (by decide)) (⟨(((((g_ru2 hR65 rfl).trans (g_ru2 hR61 rfl)).trans (g_ru2 hR57 rfl)).trans (g_ru2 hR53 rfl)).trans zq138_0.1), (((((g_ru2 hR65 rfl).trans (g_ru2 hR61 rfl)).trans (g_ru2 hR57 rfl)).trans (g_ru2 hR53 rfl)).trans zq138_0.2.1), (((((g_ru2 hR65 rfl).trans (g_ru2 hR61 rfl)).trans (g_ru2 hR57 rfl)).trans (g_ru2 hR53 rfl)).trans zq138_0.2.2.1), (((((g_ru2 hR65 rfl).trans (g_ru2 hR61 rfl)).trans (g_ru2 hR57 rfl)).trans (g_ru2 hR53 rfl)).trans zq138_0.2.2.2.1), (((((g_ru2 hR65 rfl).trans (g_ru2 hR61 rfl)).trans (g_ru2 hR57 rfl)).trans (g_ru2 hR53 rfl)).trans zq138_0.2.2.2.2.1), (g_cp1 (g := R32 15) (f := R45 20) zq138_0.2.2.2.2.2.1 p48 ((((g_ru2 hR65 rfl).trans (g_ru2 hR61 rfl)).trans (g_ru1 hR57)).trans (by rw [show R53 20 = R45 20 from (g_ru2 hR53 rfl), ex55, show R53 15 = R32 15 from ((g_ru2 hR53 rfl).trans zq138_0.2.1)])) (g_eq0 zx67.1)), (g_cp1 (g := R32 16) (f := R45 21) zq138_0.2.2.2.2.2.2.1 p48 (((g_ru2 hR65 rfl).trans (g_ru1 hR61)).trans (by rw [show R57 21 = R45 21 from ((g_ru2 hR57 rfl).trans (g_ru2 hR53 rfl)), ex59, show R57 16 = R32 16 from (((g_ru2 hR57 rfl).trans (g_ru2 hR53 rfl)).trans zq138_0.2.2.1)])) (g_eq0 zx67.1)), (g_cp1 (g := R32 17) (f := R45 22) zq138_0.2.2.2.2.2.2.2 p48 ((g_ru1 hR65).trans (by rw [show R61 22 = R45 22 from (((g_ru2 hR61 rfl).trans (g_ru2 hR57 rfl)).trans (g_ru2 hR53 rfl)), ex63, show R61 17 = R32 17 from ((((g_ru2 hR61 rfl).trans (g_ru2 hR57 rfl)).trans (g_ru2 hR53 rfl)).trans zq138_0.2.2.2.1)])) (g_eq0 zx67.1))⟩) (hk68.trans (by rw [hb138])) (Nat.lt_of_lt_of_le (show (2147483647 - x67.toInt).toNat < (2147483647 - y44.toInt).toNat from by have q0 := (jv_k (x := 1) 1 (by decide)).1; have q1 := (jv_k (x := 1) 1 (by decide)).2; have q2 := p49.1; have q3 := p49.2; have q4 := zx67.2.1; have q5 := zx67.2.2; have q6 := p48.1; have q7 := p48.2; have q8 := (gc_nle zc46); have q9 := (g_eq0 zx67.1); omega) (Nat.le_of_lt_succ hm138))
                    refine g_lsub [1, 0] [(0, .ref (ad 0)), (3, .int 0)] rfl ?_
                    exact J138 8589934592 R41 0 oR41 fR41 wTR41 (jv_w (jv_k (x := 0) 0 (by decide)) (by decide)) (⟨((rfl : R41 12 = R41 12).trans zq110_0.1), ((rfl : R41 15 = R41 15).trans zq110_0.2.1), ((rfl : R41 16 = R41 16).trans zq110_0.2.2.1), ((rfl : R41 17 = R41 17).trans zq110_0.2.2.2.1), rfl, fun j hj => absurd hj (by have := Int.natCast_nonneg j; have e : (0 : Int32).toInt = 0 := rfl; omega), fun j hj => absurd hj (by have := Int.natCast_nonneg j; have e : (0 : Int32).toInt = 0 := rfl; omega), fun j hj => absurd hj (by have := Int.natCast_nonneg j; have e : (0 : Int32).toInt = 0 := rfl; omega)⟩) hk43 (show (2147483647 - (0 : Int32).toInt).toNat < 8589934592 from by have q0 := (jv_k (x := 0) 0 (by decide)).1; have q1 := (jv_k (x := 0) 0 (by decide)).2; omega)
                  · have p69 := gn_lt 0 219 (gc_nle zc42) py40 (g_ok_g oF31 7 rfl) (by decide)
                    have p70 := gn_gt 1 220 (gc_nle zc42) (g_ok_g oF31 7 rfl) py40 (by decide)
                    have hk71 := hkK110.trans (if_neg zc42)
                    refine g_aload_n cx 0 rfl e_X11_law_118 ?_
                    refine g_get cx cl_X11 fl_X11_62 0 (.ref (ad 18)) e_X11_law_119 rfl rfl ?_
                    refine g_iload_n cx 1 rfl e_X11_law_122 ?_
                    refine g_aload_n cx 0 rfl e_X11_law_123 ?_
                    refine g_get cx cl_X11 fl_X11_44 0 (.ref (ad 12)) e_X11_law_124 rfl rfl ?_
                    refine g_iload_n cx 1 rfl e_X11_law_127 ?_
                    refine g_iald cx 12 e_X11_law_128 rfl (jv_ix 220 p69 (by decide)) ?_
                    refine g_topi (fun x72 ex72 => ?_)
                    have hk73 := k_ls hk71 ex72
                    have p74 : jv 0 13631487 x72 := by rw [ex72]; exact g_okR_g oR41 0 rfl (jv_cl 220 p69 (by decide))
                    refine g_iast cx 18 (wM X ad F38 (g_u R41 18 (upd (R41 18) (Int32.toNatClampNeg y40) x72))) e_X11_law_129 rfl (jv_ix 220 p69 (by decide)) rfl ?_
                    obtain ⟨R75, hR75⟩ : ∃ z, z = g_u R41 18 (upd (R41 18) (Int32.toNatClampNeg y40) x72) := ⟨_, rfl⟩
                    rw [← hR75]
                    have hk76 := k_ls hk73 hR75
                    have oR75 : g_okR LA_wM R75 := by rw [hR75]; exact g_okR_p oR41 p74 rfl
                    have fR75 : g_fr mr_X11_law R R75 := by rw [hR75]; exact g_fr_r fR41 rfl
                    have wTR75 : WT F38 R75 := by rw [hR75]; exact WT_r wTR41 rfl
                    obtain ⟨x77, ex77⟩ : ∃ z : Int32, z = y40 + Int32.ofInt 1 := ⟨_, rfl⟩
                    have hk78 := k_ls hk76 (show x77 = y40 + 1 from ex77)
                    refine g_iinc cx x77 [(3, .int x77), (0, .ref (ad 0))] 1 e_X11_law_130 rfl ex77.symm (by decide) rfl ?_
                    have zx77 := jv_add 1 220 (show x77 = y40 + 1 from ex77) p69 (jv_k (x := 1) 1 (by decide)) (by decide)
                    refine g_goto cx 110 e_X11_law_133 (by decide) ?_
                    refine g_lsub [1, 0] [(0, .ref (ad 0)), (3, .int x77)] rfl ?_
                    exact ih110 R75 x77 oR75 fR75 wTR75 (jv_w zx77.2 (by decide)) (⟨((g_ru2 hR75 rfl).trans zq110_0.1), ((g_ru2 hR75 rfl).trans zq110_0.2.1), ((g_ru2 hR75 rfl).trans zq110_0.2.2.1), ((g_ru2 hR75 rfl).trans zq110_0.2.2.2.1), (g_cp1 (g := R32 12) (f := R41 18) zq110_0.2.2.2.2 p69 ((g_ru1 hR75).trans (by rw [show R41 18 = R41 18 from (rfl : R41 18 = R41 18), ex72, show R41 12 = R32 12 from ((rfl : R41 12 = R41 12).trans zq110_0.1)])) (g_eq0 zx77.1))⟩) (hk78.trans (by rw [hb110])) (Nat.lt_of_lt_of_le (show (2147483647 - x77.toInt).toNat < (2147483647 - y40.toInt).toNat from by have q0 := (jv_k (x := 1) 1 (by decide)).1; have q1 := (jv_k (x := 1) 1 (by decide)).2; have q2 := p70.1; have q3 := p70.2; have q4 := zx77.2.1; have q5 := zx77.2.2; have q6 := p69.1; have q7 := p69.2; have q8 := (gc_nle zc42); have q9 := (g_eq0 zx77.1); omega) (Nat.le_of_lt_succ hm110))
              refine g_lsub [1, 0] [(0, .ref (ad 0)), (3, .int 0)] rfl ?_
              exact J110 8589934592 R32 0 oR32 fR32 wTF38 (jv_w (jv_k (x := 0) 0 (by decide)) (by decide)) (⟨(rfl : R32 12 = R32 12), (rfl : R32 15 = R32 15), (rfl : R32 16 = R32 16), (rfl : R32 17 = R32 17), fun j hj => absurd hj (by have := Int.natCast_nonneg j; have e : (0 : Int32).toInt = 0 := rfl; omega)⟩) hk39 (show (2147483647 - (0 : Int32).toInt).toNat < 8589934592 from by have q0 := (jv_k (x := 0) 0 (by decide)).1; have q1 := (jv_k (x := 0) 0 (by decide)).2; omega)
            · have p79 := gn_eq 0 0 (gc_eq zc35) py30 (jv_k (x := 0) 0 (by decide)) (by decide)
              have hk80 := hk34.trans (if_pos zc35)
              refine g_aload_n cx 0 rfl e_X11_law_95 ?_
              refine g_get cx cl_X11 fl_X11_225 0 (.int (F33 17)) e_X11_law_96 rfl rfl ?_
              refine g_toi (F31 17) (g_pu2 hF33 rfl) ?_
              exact hret e_X11_law_99 (Nat.le_of_ble_eq_true rfl) (Nat.le_of_ble_eq_true rfl) rfl ⟨F33, R32, rfl, oF33, oR32, wTF33, wCF33, fF33, fR32, (jv_t (F31 17)), (hk80.symm.trans hSP)⟩
          refine g_if_eq cx 86 e_X11_law_47 (by decide) (fun zc81 => ?_) (fun zc81 => ?_)
          · have p82 := gn_eq 0 0 (gc_eq zc81) py30 (jv_k (x := 0) 0 (by decide)) (by decide)
            have hk83 := hkK46.trans (if_pos zc81)
            exact J86  hk83
          · have p84 := gn_neL 1 1 (gc_ne zc81) py30 (jv_k (x := 0) 0 (by decide)) (by decide)
            have wd46 := (zq46_0 zc81).1
            have cp46 := (zq46_0 zc81).2
            have hk85 := hkK46.trans (if_neg zc81)
            refine g_aload_n cx 0 rfl e_X11_law_50 ?_
            refine g_get cx cl_X11 fl_X11_190 0 (.int (F31 15)) e_X11_law_51 rfl rfl ?_
            refine g_aload_n cx 0 rfl e_X11_law_54 ?_
            refine g_get cx cl_X11 fl_X11_216 0 (.int (F31 16)) e_X11_law_55 rfl rfl ?_
            refine g_icmp_ge cx 86 e_X11_law_58 (by decide) (fun zc86 => ?_) (fun zc86 => ?_)
            · have hk87 := hk85.trans (if_pos zc86)
              exact J86  hk87
            · have p88 := gn_lt 0 199 (gc_nle zc86) (g_ok_g oF31 1 rfl) (g_ok_g oF31 2 rfl) (by decide)
              have p89 := gn_gt 1 200 (gc_nle zc86) (g_ok_g oF31 2 rfl) (g_ok_g oF31 1 rfl) (by decide)
              have hk90 := hk85.trans (if_neg zc86)
              refine g_aload_n cx 0 rfl e_X11_law_61 ?_
              refine g_bipush cx 59 (by decide) e_X11_law_62 ?_
              refine g_cViW cx [.int 59] [] (w_X11_takes l X ad F31 R32 oF31 oR32 wTF31R32 wCF31R32 59 (jv_w (jv_k (x := 59) 59 (by decide)) (by decide))) ml_X11_222 yV_X11_takes e_X11_law_64 (by unfold g_rr; decide) (by decide) 0 rfl rfl rfl (Nat.le_of_ble_eq_true rfl) (fun r91 w92 h93 => ?_)
              obtain ⟨F97, R98, rfl, oF97, oR98, wTF97, wCF97, cF97, cR98, pr91, zx94, zx95, hx96⟩ := h93
              have hk99 := k_ls3 hk90 hx96
              have fF97 : g_fr md_X11_law F F97 := g_fr_c fF31 cF97 rfl
              have fR98 : g_fr mr_X11_law R R98 := g_fr_c fR32 cR98 rfl
              have J82 : ∀ (F101 : Nat → Int32) (R102 : Nat → Nat → Int32) (y100 : Int32), (g_ok LK_wM F101) → (g_fr md_X11_law F F101) → (g_okR LA_wM R102) → (g_fr mr_X11_law R R102) → (WT F101 R102) → (WC F101 R102) → (jv 0 1 y100) → ((y100 : Int32).toInt = 0 ∨ (y100 : Int32).toInt = 1 ∧ (F31 15).toInt + 1 ≤ (F101 15).toInt) → (¬ y100 = 0 → WD F101 R102 ∧ (F101 25).toInt ≤ (F101 15).toInt) → (SP = K_X11_law_82 b46 F101 R102 y100) → G X E 4 0 0 (wM X ad F101 R102) [(0, .ref (ad 0))] 82 [.int y100] := by
                intro F101 R102 y100 oF101 fF101 oR102 fR102 wTF101R102 wCF101R102 py100 zi82_0 zq82_0 hkJ82
                unfold K_X11_law_82 at hkJ82
                refine g_istore_n cx [(2, .int y100), (0, .ref (ad 0))] e_X11_law_82 (by decide) rfl ?_
                refine g_goto cx 46 e_X11_law_83 (by decide) ?_
                refine g_lsub [1, 0] [(0, .ref (ad 0)), (2, .int y100)] rfl ?_
                exact ih46 F101 R102 y100 oF101 fF101 oR102 fR102 wTF101R102 wCF101R102 py100 (zq82_0) (hkJ82.trans (by rw [hb46])) (Nat.lt_of_lt_of_le (show (1000 * (y100 : Int32).toInt - (F101 15).toInt).toNat < (1000 * (y30 : Int32).toInt - (F31 15).toInt).toNat from by have q0 := (jv_k (x := 0) 0 (by decide)).1; have q1 := (jv_k (x := 0) 0 (by decide)).2; have q2 := (g_ok_g oF101 1 rfl).1; have q3 := (g_ok_g oF101 1 rfl).2; have q4 := (g_ok_g oF20 1 rfl).1; have q5 := (g_ok_g oF20 1 rfl).2; have q6 := (g_ok_g oF20 7 rfl).1; have q7 := (g_ok_g oF20 7 rfl).2; have q8 := p88.1; have q9 := p88.2; have q10 := p89.1; have q11 := p89.2; have q12 := (g_ok_g oF31 7 rfl).1; have q13 := (g_ok_g oF31 7 rfl).2; have q14 := (g_ok_g oF97 1 rfl).1; have q15 := (g_ok_g oF97 1 rfl).2; have q16 := p8.1; have q17 := p8.2; have q18 := py100.1; have q19 := py100.2; have q20 := p84.1; have q21 := p84.2; have q22 := (gc_ne zc5); have q23 := (congrArg Int32.toInt (show F20 25 = 0 from ((g_pu2 hF20 rfl).trans (g_pu1 hF18)))); have q24 := (congrArg Int32.toInt (show F20 15 = 0 from ((((g_pu2 hF20 rfl).trans (g_pu2 hF18 rfl)).trans (g_pu2 hF16 rfl)).trans (g_pu1 hF14)))); have q25 := (gc_ne zc81); have q26 := cp46; have q27 := (gc_ne zc81); have q28 := (gc_nle zc86); have q29 := zx94; have q30 := zi82_0; omega) (Nat.le_of_lt_succ hm46))
              refine g_if_eq cx 81 e_X11_law_67 (by decide) (fun zc103 => ?_) (fun zc103 => ?_)
              · have p104 := gn_eq 0 0 (gc_eq zc103) pr91 (jv_k (x := 0) 0 (by decide)) (by decide)
                have hk105 := hk99.trans (if_pos zc103)
                refine g_iconst cx 0 (by decide) e_X11_law_81 ?_
                refine g_lsub [0] [(0, .ref (ad 0))] rfl ?_
                exact J82 F97 R98 0 oF97 fF97 oR98 fR98 wTF97 wCF97 (jv_w (jv_k (x := 0) 0 (by decide)) (by decide)) (by have q0 := (jv_k (x := 0) 0 (by decide)).1; have q1 := (jv_k (x := 0) 0 (by decide)).2; have q2 := (g_ok_g oF20 1 rfl).1; have q3 := (g_ok_g oF20 1 rfl).2; have q4 := (g_ok_g oF20 7 rfl).1; have q5 := (g_ok_g oF20 7 rfl).2; have q6 := p88.1; have q7 := p88.2; have q8 := p89.1; have q9 := p89.2; have q10 := (g_ok_g oF31 7 rfl).1; have q11 := (g_ok_g oF31 7 rfl).2; have q12 := (g_ok_g oF97 1 rfl).1; have q13 := (g_ok_g oF97 1 rfl).2; have q14 := p8.1; have q15 := p8.2; have q16 := p104.1; have q17 := p104.2; have q18 := p84.1; have q19 := p84.2; have q20 := (gc_ne zc5); have q21 := (congrArg Int32.toInt (show F20 25 = 0 from ((g_pu2 hF20 rfl).trans (g_pu1 hF18)))); have q22 := (congrArg Int32.toInt (show F20 15 = 0 from ((((g_pu2 hF20 rfl).trans (g_pu2 hF18 rfl)).trans (g_pu2 hF16 rfl)).trans (g_pu1 hF14)))); have q23 := (gc_ne zc81); have q24 := cp46; have q25 := (gc_ne zc81); have q26 := (gc_nle zc86); have q27 := zx94; have q28 := (gc_eq zc103); omega) ((fun h0 => absurd rfl h0)) hk105
              · have p106 := gn_neL 1 1 (gc_ne zc103) pr91 (jv_k (x := 0) 0 (by decide)) (by decide)
                have hk107 := hk99.trans (if_neg zc103)
                refine g_aload_n cx 0 rfl e_X11_law_70 ?_
                refine g_cViW cx [] [] (w_X11_readsClause l X ad F97 R98 oF97 oR98 wTF97 wCF97 (WD_e wd46 (cF97 27 rfl) (cF97 25 rfl) (cR98 12 rfl) (cR98 15 rfl) (cR98 16 rfl) (cR98 17 rfl)) (by have q0 := p88.1; have q1 := p88.2; have q2 := p89.1; have q3 := p89.2; have q4 := (g_ok_g oF31 7 rfl).1; have q5 := (g_ok_g oF31 7 rfl).2; have q6 := (g_ok_g oF97 1 rfl).1; have q7 := (g_ok_g oF97 1 rfl).2; have q8 := (g_ok_g oF97 7 rfl).1; have q9 := (g_ok_g oF97 7 rfl).2; have q10 := cp46; have q11 := (gc_nle zc86); have q12 := zx94; have q13 := (zx95 zc103); have q14 := (congrArg Int32.toInt (show F97 25 = F31 25 from (cF97 25 rfl))); omega)) ml_X11_295 yV_X11_readsClause e_X11_law_71 (by unfold g_rr; decide) (by decide) 0 rfl rfl rfl (Nat.le_of_ble_eq_true rfl) (fun r108 w109 h110 => ?_)
                obtain ⟨F113, R114, rfl, oF113, oR114, wTF113, wCF113, cF113, cR114, pr108, zx111, hx112⟩ := h110
                have hk115 := k_ls3 hk107 hx112
                have fF113 : g_fr md_X11_law F F113 := g_fr_c fF97 cF113 rfl
                have fR114 : g_fr mr_X11_law R R114 := g_fr_c fR98 cR114 rfl
                refine g_if_eq cx 81 e_X11_law_74 (by decide) (fun zc116 => ?_) (fun zc116 => ?_)
                · have p117 := gn_eq 0 0 (gc_eq zc116) pr108 (jv_k (x := 0) 0 (by decide)) (by decide)
                  have hk118 := hk115.trans (if_pos zc116)
                  refine g_iconst cx 0 (by decide) e_X11_law_81 ?_
                  refine g_lsub [0] [(0, .ref (ad 0))] rfl ?_
                  exact J82 F113 R114 0 oF113 fF113 oR114 fR114 wTF113 wCF113 (jv_w (jv_k (x := 0) 0 (by decide)) (by decide)) (by have q0 := (jv_k (x := 0) 0 (by decide)).1; have q1 := (jv_k (x := 0) 0 (by decide)).2; have q2 := (g_ok_g oF113 1 rfl).1; have q3 := (g_ok_g oF113 1 rfl).2; have q4 := (g_ok_g oF20 1 rfl).1; have q5 := (g_ok_g oF20 1 rfl).2; have q6 := (g_ok_g oF20 7 rfl).1; have q7 := (g_ok_g oF20 7 rfl).2; have q8 := p88.1; have q9 := p88.2; have q10 := p89.1; have q11 := p89.2; have q12 := (g_ok_g oF31 7 rfl).1; have q13 := (g_ok_g oF31 7 rfl).2; have q14 := (g_ok_g oF97 1 rfl).1; have q15 := (g_ok_g oF97 1 rfl).2; have q16 := (g_ok_g oF97 7 rfl).1; have q17 := (g_ok_g oF97 7 rfl).2; have q18 := p8.1; have q19 := p8.2; have q20 := p117.1; have q21 := p117.2; have q22 := p106.1; have q23 := p106.2; have q24 := p84.1; have q25 := p84.2; have q26 := (gc_ne zc5); have q27 := (congrArg Int32.toInt (show F20 25 = 0 from ((g_pu2 hF20 rfl).trans (g_pu1 hF18)))); have q28 := (congrArg Int32.toInt (show F20 15 = 0 from ((((g_pu2 hF20 rfl).trans (g_pu2 hF18 rfl)).trans (g_pu2 hF16 rfl)).trans (g_pu1 hF14)))); have q29 := (gc_ne zc81); have q30 := cp46; have q31 := (gc_ne zc81); have q32 := (gc_nle zc86); have q33 := zx94; have q34 := (gc_ne zc103); have q35 := (zx95 zc103); have q36 := (congrArg Int32.toInt (show F97 25 = F31 25 from (cF97 25 rfl))); have q37 := (gc_eq zc116); omega) ((fun h0 => absurd rfl h0)) hk118
                · have p119 := gn_neL 1 1 (gc_ne zc116) pr108 (jv_k (x := 0) 0 (by decide)) (by decide)
                  obtain ⟨wdk120, cpk120, upk120⟩ := (zx111 zc116)
                  have hk121 := hk115.trans (if_neg zc116)
                  refine g_iconst cx 1 (by decide) e_X11_law_77 ?_
                  refine g_goto cx 82 e_X11_law_78 (by decide) ?_
                  refine g_lsub [0] [(0, .ref (ad 0))] rfl ?_
                  exact J82 F113 R114 1 oF113 fF113 oR114 fR114 wTF113 wCF113 (jv_w (jv_k (x := 1) 1 (by decide)) (by decide)) (by have q0 := (jv_k (x := 1) 1 (by decide)).1; have q1 := (jv_k (x := 1) 1 (by decide)).2; have q2 := (g_ok_g oF113 1 rfl).1; have q3 := (g_ok_g oF113 1 rfl).2; have q4 := (g_ok_g oF113 7 rfl).1; have q5 := (g_ok_g oF113 7 rfl).2; have q6 := p88.1; have q7 := p88.2; have q8 := p89.1; have q9 := p89.2; have q10 := (g_ok_g oF31 7 rfl).1; have q11 := (g_ok_g oF31 7 rfl).2; have q12 := (g_ok_g oF97 1 rfl).1; have q13 := (g_ok_g oF97 1 rfl).2; have q14 := (g_ok_g oF97 7 rfl).1; have q15 := (g_ok_g oF97 7 rfl).2; have q16 := cp46; have q17 := (gc_nle zc86); have q18 := zx94; have q19 := (zx95 zc103); have q20 := (congrArg Int32.toInt (show F97 25 = F31 25 from (cF97 25 rfl))); have q21 := cpk120; have q22 := upk120; omega) ((fun _ => ⟨wdk120, cpk120⟩)) hk121
      refine g_lsub [1, 0] [(0, .ref (ad 0)), (2, .int r22)] rfl ?_
      exact J46 8589934592 F27 R28 r22 oF27 fF27 oR28 fR28 wTF27 wCF27 pr22 ((fun h0 => ⟨(zx25 h0).1, (zx25 h0).2.1⟩)) hk29 (show (1000 * (r22 : Int32).toInt - (F27 15).toInt).toNat < 8589934592 from by have q0 := (g_ok_g oF27 1 rfl).1; have q1 := (g_ok_g oF27 1 rfl).2; have q2 := pr22.1; have q3 := pr22.2; omega)
    · have p122 := gn_lt 0 199 (gc_nle zc11) (g_ok_g hI 0 rfl) p9 (by decide)
      have hk123 := hk10.trans (if_neg zc11)
      refine g_lsub [] [] rfl ?_
      exact J19  hk123
