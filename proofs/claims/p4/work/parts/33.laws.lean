theorem e_X11_law_0 : g_dc cX11_law 0 (.iload_n 1) 1 1 := ⟨by decide +kernel, rfl⟩
theorem e_X11_law_1 : g_dc cX11_law 1 (.iconst 1) 1 2 := ⟨by decide +kernel, rfl⟩
theorem e_X11_law_2 : g_dc cX11_law 2 (.sipush 200) 3 5 := ⟨by decide +kernel, rfl⟩
theorem e_X11_law_5 : g_dc cX11_law 5 (.invokestatic 165) 3 8 := ⟨by decide +kernel, rfl⟩
theorem e_X11_law_8 : g_dc cX11_law 8 (.ifCond .eq 11) 3 11 := ⟨by decide +kernel, rfl⟩
theorem e_X11_law_11 : g_dc cX11_law 11 (.iload_n 1) 1 12 := ⟨by decide +kernel, rfl⟩
theorem e_X11_law_12 : g_dc cX11_law 12 (.aload_n 0) 1 13 := ⟨by decide +kernel, rfl⟩
theorem e_X11_law_13 : g_dc cX11_law 13 (.getfield 183) 3 16 := ⟨by decide +kernel, rfl⟩
theorem e_X11_law_16 : g_dc cX11_law 16 (.if_icmp .le 5) 3 19 := ⟨by decide +kernel, rfl⟩
theorem e_X11_law_19 : g_dc cX11_law 19 (.iconst (-1)) 1 20 := ⟨by decide +kernel, rfl⟩
theorem e_X11_law_20 : g_dc cX11_law 20 (.ireturn) 1 21 := ⟨by decide +kernel, rfl⟩
theorem e_X11_law_21 : g_dc cX11_law 21 (.aload_n 0) 1 22 := ⟨by decide +kernel, rfl⟩
theorem e_X11_law_22 : g_dc cX11_law 22 (.iconst 0) 1 23 := ⟨by decide +kernel, rfl⟩
theorem e_X11_law_23 : g_dc cX11_law 23 (.putfield 190) 3 26 := ⟨by decide +kernel, rfl⟩
theorem e_X11_law_26 : g_dc cX11_law 26 (.aload_n 0) 1 27 := ⟨by decide +kernel, rfl⟩
theorem e_X11_law_27 : g_dc cX11_law 27 (.iload_n 1) 1 28 := ⟨by decide +kernel, rfl⟩
theorem e_X11_law_28 : g_dc cX11_law 28 (.putfield 216) 3 31 := ⟨by decide +kernel, rfl⟩
theorem e_X11_law_31 : g_dc cX11_law 31 (.aload_n 0) 1 32 := ⟨by decide +kernel, rfl⟩
theorem e_X11_law_32 : g_dc cX11_law 32 (.iconst 0) 1 33 := ⟨by decide +kernel, rfl⟩
theorem e_X11_law_33 : g_dc cX11_law 33 (.putfield 231) 3 36 := ⟨by decide +kernel, rfl⟩
theorem e_X11_law_36 : g_dc cX11_law 36 (.aload_n 0) 1 37 := ⟨by decide +kernel, rfl⟩
theorem e_X11_law_37 : g_dc cX11_law 37 (.iconst 0) 1 38 := ⟨by decide +kernel, rfl⟩
theorem e_X11_law_38 : g_dc cX11_law 38 (.putfield 289) 3 41 := ⟨by decide +kernel, rfl⟩
theorem e_X11_law_41 : g_dc cX11_law 41 (.aload_n 0) 1 42 := ⟨by decide +kernel, rfl⟩
theorem e_X11_law_42 : g_dc cX11_law 42 (.invokevirtual 295) 3 45 := ⟨by decide +kernel, rfl⟩
theorem e_X11_law_45 : g_dc cX11_law 45 (.istore_n 2) 1 46 := ⟨by decide +kernel, rfl⟩
theorem e_X11_law_46 : g_dc cX11_law 46 (.iload_n 2) 1 47 := ⟨by decide +kernel, rfl⟩
theorem e_X11_law_47 : g_dc cX11_law 47 (.ifCond .eq 39) 3 50 := ⟨by decide +kernel, rfl⟩
theorem e_X11_law_50 : g_dc cX11_law 50 (.aload_n 0) 1 51 := ⟨by decide +kernel, rfl⟩
theorem e_X11_law_51 : g_dc cX11_law 51 (.getfield 190) 3 54 := ⟨by decide +kernel, rfl⟩
theorem e_X11_law_54 : g_dc cX11_law 54 (.aload_n 0) 1 55 := ⟨by decide +kernel, rfl⟩
theorem e_X11_law_55 : g_dc cX11_law 55 (.getfield 216) 3 58 := ⟨by decide +kernel, rfl⟩
theorem e_X11_law_58 : g_dc cX11_law 58 (.if_icmp .ge 28) 3 61 := ⟨by decide +kernel, rfl⟩
theorem e_X11_law_61 : g_dc cX11_law 61 (.aload_n 0) 1 62 := ⟨by decide +kernel, rfl⟩
theorem e_X11_law_62 : g_dc cX11_law 62 (.bipush 59) 2 64 := ⟨by decide +kernel, rfl⟩
theorem e_X11_law_64 : g_dc cX11_law 64 (.invokevirtual 222) 3 67 := ⟨by decide +kernel, rfl⟩
theorem e_X11_law_67 : g_dc cX11_law 67 (.ifCond .eq 14) 3 70 := ⟨by decide +kernel, rfl⟩
theorem e_X11_law_70 : g_dc cX11_law 70 (.aload_n 0) 1 71 := ⟨by decide +kernel, rfl⟩
theorem e_X11_law_71 : g_dc cX11_law 71 (.invokevirtual 295) 3 74 := ⟨by decide +kernel, rfl⟩
theorem e_X11_law_74 : g_dc cX11_law 74 (.ifCond .eq 7) 3 77 := ⟨by decide +kernel, rfl⟩
theorem e_X11_law_77 : g_dc cX11_law 77 (.iconst 1) 1 78 := ⟨by decide +kernel, rfl⟩
theorem e_X11_law_78 : g_dc cX11_law 78 (.goto 4) 3 81 := ⟨by decide +kernel, rfl⟩
theorem e_X11_law_81 : g_dc cX11_law 81 (.iconst 0) 1 82 := ⟨by decide +kernel, rfl⟩
theorem e_X11_law_82 : g_dc cX11_law 82 (.istore_n 2) 1 83 := ⟨by decide +kernel, rfl⟩
theorem e_X11_law_83 : g_dc cX11_law 83 (.goto (-37)) 3 86 := ⟨by decide +kernel, rfl⟩
theorem e_X11_law_86 : g_dc cX11_law 86 (.aload_n 0) 1 87 := ⟨by decide +kernel, rfl⟩
theorem e_X11_law_87 : g_dc cX11_law 87 (.iconst 0) 1 88 := ⟨by decide +kernel, rfl⟩
theorem e_X11_law_88 : g_dc cX11_law 88 (.putfield 183) 3 91 := ⟨by decide +kernel, rfl⟩
theorem e_X11_law_91 : g_dc cX11_law 91 (.iload_n 2) 1 92 := ⟨by decide +kernel, rfl⟩
theorem e_X11_law_92 : g_dc cX11_law 92 (.ifCond .ne 8) 3 95 := ⟨by decide +kernel, rfl⟩
theorem e_X11_law_95 : g_dc cX11_law 95 (.aload_n 0) 1 96 := ⟨by decide +kernel, rfl⟩
theorem e_X11_law_96 : g_dc cX11_law 96 (.getfield 225) 3 99 := ⟨by decide +kernel, rfl⟩
theorem e_X11_law_99 : g_dc cX11_law 99 (.ireturn) 1 100 := ⟨by decide +kernel, rfl⟩
theorem e_X11_law_100 : g_dc cX11_law 100 (.aload_n 0) 1 101 := ⟨by decide +kernel, rfl⟩
theorem e_X11_law_101 : g_dc cX11_law 101 (.aload_n 0) 1 102 := ⟨by decide +kernel, rfl⟩
theorem e_X11_law_102 : g_dc cX11_law 102 (.getfield 289) 3 105 := ⟨by decide +kernel, rfl⟩
theorem e_X11_law_105 : g_dc cX11_law 105 (.putfield 298) 3 108 := ⟨by decide +kernel, rfl⟩
theorem e_X11_law_108 : g_dc cX11_law 108 (.iconst 0) 1 109 := ⟨by decide +kernel, rfl⟩
theorem e_X11_law_109 : g_dc cX11_law 109 (.istore_n 3) 1 110 := ⟨by decide +kernel, rfl⟩
theorem e_X11_law_110 : g_dc cX11_law 110 (.iload_n 3) 1 111 := ⟨by decide +kernel, rfl⟩
theorem e_X11_law_111 : g_dc cX11_law 111 (.aload_n 0) 1 112 := ⟨by decide +kernel, rfl⟩
theorem e_X11_law_112 : g_dc cX11_law 112 (.getfield 231) 3 115 := ⟨by decide +kernel, rfl⟩
theorem e_X11_law_115 : g_dc cX11_law 115 (.if_icmp .ge 21) 3 118 := ⟨by decide +kernel, rfl⟩
theorem e_X11_law_118 : g_dc cX11_law 118 (.aload_n 0) 1 119 := ⟨by decide +kernel, rfl⟩
theorem e_X11_law_119 : g_dc cX11_law 119 (.getfield 62) 3 122 := ⟨by decide +kernel, rfl⟩
theorem e_X11_law_122 : g_dc cX11_law 122 (.iload_n 3) 1 123 := ⟨by decide +kernel, rfl⟩
theorem e_X11_law_123 : g_dc cX11_law 123 (.aload_n 0) 1 124 := ⟨by decide +kernel, rfl⟩
theorem e_X11_law_124 : g_dc cX11_law 124 (.getfield 44) 3 127 := ⟨by decide +kernel, rfl⟩
theorem e_X11_law_127 : g_dc cX11_law 127 (.iload_n 3) 1 128 := ⟨by decide +kernel, rfl⟩
theorem e_X11_law_128 : g_dc cX11_law 128 (.iaload) 1 129 := ⟨by decide +kernel, rfl⟩
theorem e_X11_law_129 : g_dc cX11_law 129 (.iastore) 1 130 := ⟨by decide +kernel, rfl⟩
theorem e_X11_law_130 : g_dc cX11_law 130 (.iinc 3 1) 3 133 := ⟨by decide +kernel, rfl⟩
theorem e_X11_law_133 : g_dc cX11_law 133 (.goto (-23)) 3 136 := ⟨by decide +kernel, rfl⟩
theorem e_X11_law_136 : g_dc cX11_law 136 (.iconst 0) 1 137 := ⟨by decide +kernel, rfl⟩
theorem e_X11_law_137 : g_dc cX11_law 137 (.istore_n 3) 1 138 := ⟨by decide +kernel, rfl⟩
theorem e_X11_law_138 : g_dc cX11_law 138 (.iload_n 3) 1 139 := ⟨by decide +kernel, rfl⟩
theorem e_X11_law_139 : g_dc cX11_law 139 (.aload_n 0) 1 140 := ⟨by decide +kernel, rfl⟩
theorem e_X11_law_140 : g_dc cX11_law 140 (.getfield 289) 3 143 := ⟨by decide +kernel, rfl⟩
theorem e_X11_law_143 : g_dc cX11_law 143 (.if_icmp .ge 57) 3 146 := ⟨by decide +kernel, rfl⟩
theorem e_X11_law_146 : g_dc cX11_law 146 (.aload_n 0) 1 147 := ⟨by decide +kernel, rfl⟩
theorem e_X11_law_147 : g_dc cX11_law 147 (.getfield 65) 3 150 := ⟨by decide +kernel, rfl⟩
theorem e_X11_law_150 : g_dc cX11_law 150 (.iload_n 3) 1 151 := ⟨by decide +kernel, rfl⟩
theorem e_X11_law_151 : g_dc cX11_law 151 (.aload_n 0) 1 152 := ⟨by decide +kernel, rfl⟩
theorem e_X11_law_152 : g_dc cX11_law 152 (.getfield 50) 3 155 := ⟨by decide +kernel, rfl⟩
theorem e_X11_law_155 : g_dc cX11_law 155 (.iload_n 3) 1 156 := ⟨by decide +kernel, rfl⟩
theorem e_X11_law_156 : g_dc cX11_law 156 (.iaload) 1 157 := ⟨by decide +kernel, rfl⟩
theorem e_X11_law_157 : g_dc cX11_law 157 (.iastore) 1 158 := ⟨by decide +kernel, rfl⟩
theorem e_X11_law_158 : g_dc cX11_law 158 (.aload_n 0) 1 159 := ⟨by decide +kernel, rfl⟩
theorem e_X11_law_159 : g_dc cX11_law 159 (.getfield 68) 3 162 := ⟨by decide +kernel, rfl⟩
theorem e_X11_law_162 : g_dc cX11_law 162 (.iload_n 3) 1 163 := ⟨by decide +kernel, rfl⟩
theorem e_X11_law_163 : g_dc cX11_law 163 (.aload_n 0) 1 164 := ⟨by decide +kernel, rfl⟩
theorem e_X11_law_164 : g_dc cX11_law 164 (.getfield 53) 3 167 := ⟨by decide +kernel, rfl⟩
theorem e_X11_law_167 : g_dc cX11_law 167 (.iload_n 3) 1 168 := ⟨by decide +kernel, rfl⟩
theorem e_X11_law_168 : g_dc cX11_law 168 (.iaload) 1 169 := ⟨by decide +kernel, rfl⟩
theorem e_X11_law_169 : g_dc cX11_law 169 (.iastore) 1 170 := ⟨by decide +kernel, rfl⟩
theorem e_X11_law_170 : g_dc cX11_law 170 (.aload_n 0) 1 171 := ⟨by decide +kernel, rfl⟩
theorem e_X11_law_171 : g_dc cX11_law 171 (.getfield 71) 3 174 := ⟨by decide +kernel, rfl⟩
theorem e_X11_law_174 : g_dc cX11_law 174 (.iload_n 3) 1 175 := ⟨by decide +kernel, rfl⟩
theorem e_X11_law_175 : g_dc cX11_law 175 (.aload_n 0) 1 176 := ⟨by decide +kernel, rfl⟩
theorem e_X11_law_176 : g_dc cX11_law 176 (.getfield 56) 3 179 := ⟨by decide +kernel, rfl⟩
theorem e_X11_law_179 : g_dc cX11_law 179 (.iload_n 3) 1 180 := ⟨by decide +kernel, rfl⟩
theorem e_X11_law_180 : g_dc cX11_law 180 (.iaload) 1 181 := ⟨by decide +kernel, rfl⟩
theorem e_X11_law_181 : g_dc cX11_law 181 (.iastore) 1 182 := ⟨by decide +kernel, rfl⟩
theorem e_X11_law_182 : g_dc cX11_law 182 (.aload_n 0) 1 183 := ⟨by decide +kernel, rfl⟩
theorem e_X11_law_183 : g_dc cX11_law 183 (.getfield 74) 3 186 := ⟨by decide +kernel, rfl⟩
theorem e_X11_law_186 : g_dc cX11_law 186 (.iload_n 3) 1 187 := ⟨by decide +kernel, rfl⟩
theorem e_X11_law_187 : g_dc cX11_law 187 (.aload_n 0) 1 188 := ⟨by decide +kernel, rfl⟩
theorem e_X11_law_188 : g_dc cX11_law 188 (.getfield 59) 3 191 := ⟨by decide +kernel, rfl⟩
theorem e_X11_law_191 : g_dc cX11_law 191 (.iload_n 3) 1 192 := ⟨by decide +kernel, rfl⟩
theorem e_X11_law_192 : g_dc cX11_law 192 (.iaload) 1 193 := ⟨by decide +kernel, rfl⟩
theorem e_X11_law_193 : g_dc cX11_law 193 (.iastore) 1 194 := ⟨by decide +kernel, rfl⟩
theorem e_X11_law_194 : g_dc cX11_law 194 (.iinc 3 1) 3 197 := ⟨by decide +kernel, rfl⟩
theorem e_X11_law_197 : g_dc cX11_law 197 (.goto (-59)) 3 200 := ⟨by decide +kernel, rfl⟩
theorem e_X11_law_200 : g_dc cX11_law 200 (.aload_n 0) 1 201 := ⟨by decide +kernel, rfl⟩
theorem e_X11_law_201 : g_dc cX11_law 201 (.getfield 289) 3 204 := ⟨by decide +kernel, rfl⟩
theorem e_X11_law_204 : g_dc cX11_law 204 (.ireturn) 1 205 := ⟨by decide +kernel, rfl⟩
def md_X11_law : List Nat := [14, 15, 16, 17, 18, 24, 25, 26, 27, 28]
def mr_X11_law : List Nat := [12, 13, 14, 15, 16, 17, 18, 19, 20, 21, 22]
set_option maxHeartbeats 4000000 in
set_option maxRecDepth 100000 in
theorem w_X11_law (l : Launch) (X : gX) (ad : Nat → Nat) (F : Nat → Int32) (R : Nat → Nat → Int32) (hI : g_ok LK_wM F) (hA : g_okR LA_wM R) (hWT : WT F R) (hWC : WC F R) (a0 : Int32) : g_Ci l X yX11_law cX11_law 4 (some .int) 9 0 0 [.ref (ad 0), .int a0] (wM X ad F R) (fun r w => ∃ (F' : Nat → Int32) (R' : Nat → Nat → Int32), w = wM X ad F' R' ∧ g_ok LK_wM F' ∧ g_okR LA_wM R' ∧ WT F' R' ∧ WC F' R' ∧ g_fr md_X11_law F F' ∧ g_fr mr_X11_law R R' ∧ jv (-2147483648) 2147483647 r) := by
  refine g_mi (by decide +kernel) (Nat.le_of_ble_eq_true rfl) (fun E cx hret => ?_)
  refine g_iload_n cx 1 rfl e_X11_law_0 ?_
  refine g_iconst cx 1 (by decide) e_X11_law_1 ?_
  refine g_sipush cx 200 (by decide) e_X11_law_2 ?_
  refine g_cSiW cx [.int a0, .int 1, .int 200] [] (c_X11_in l X (wM X ad F R) a0 1 200) ml_X11_165 yS_X11_in rfl e_X11_law_5 (by unfold g_rr; decide) (by decide) rfl (Nat.le_of_ble_eq_true rfl) (fun r1 w2 h3 => ?_)
  obtain ⟨rfl, hr1⟩ := h3
  have pr1 : jv 0 1 r1 := by rw [hr1]; exact gi_01 _ _ _
  have J19 : G X E 4 0 0 (wM X ad F R) [] 19 [] := by
    refine g_iconst cx (-1) (by decide) e_X11_law_19 ?_
    exact hret e_X11_law_20 (Nat.le_of_ble_eq_true rfl) (Nat.le_of_ble_eq_true rfl) rfl ⟨F, R, rfl, hI, hA, hWT, hWC, (g_fr_rf F), (g_fr_rf R), (jv_w (jv_k (x := (-1)) (-1) (by decide)) (by decide))⟩
  refine g_if_eq cx 19 e_X11_law_8 (by decide) (fun zc4 => ?_) (fun zc4 => ?_)
  · have p5 := gn_eq 0 0 (gc_eq zc4) pr1 (jv_k (x := 0) 0 (by decide)) (by decide)
    refine g_lsub [] [] rfl ?_
    exact J19  
  · have p6 := gn_neL 1 1 (gc_ne zc4) pr1 (jv_k (x := 0) 0 (by decide)) (by decide)
    have p7 := jv_i 1 200 (jv_t a0) (gi_in (A := 1) (B := 200) hr1 zc4 (by decide) (by decide)) (by decide)
    refine g_iload_n cx 1 rfl e_X11_law_11 ?_
    refine g_aload_n cx 0 rfl e_X11_law_12 ?_
    refine g_get cx cl_X11 fl_X11_183 0 (.int (F 14)) e_X11_law_13 rfl rfl ?_
    refine g_icmp_le cx 21 e_X11_law_16 (by decide) (fun zc8 => ?_) (fun zc8 => ?_)
    · have p9 := gn_ge 1 220 (gc_le zc8) (g_ok_g hI 0 rfl) p7 (by decide)
      refine g_aload_n cx 0 rfl e_X11_law_21 ?_
      refine g_iconst cx 0 (by decide) e_X11_law_22 ?_
      refine g_put cx cl_X11 fl_X11_190 0 (wM X ad (upd F 15 0) R) e_X11_law_23 rfl rfl rfl rfl (Nat.le_of_ble_eq_true rfl) rfl ?_
      obtain ⟨F10, hF10⟩ : ∃ z, z = upd F 15 0 := ⟨_, rfl⟩
      rw [← hF10]
      have oF10 : g_ok LK_wM F10 := by rw [hF10]; exact g_ok_p hI (jv_k (x := 0) 0 (by decide)) rfl
      have fF10 : g_fr md_X11_law F F10 := by rw [hF10]; exact g_fr_u (g_fr_rf F) rfl
      have wTF10 : WT F10 R := by rw [hF10]; exact WT_u hWT rfl
      have wCF10 : WC F10 R := by rw [hF10]; exact WC_u hWC rfl
      refine g_aload_n cx 0 rfl e_X11_law_26 ?_
      refine g_iload_n cx 1 rfl e_X11_law_27 ?_
      refine g_put cx cl_X11 fl_X11_216 0 (wM X ad (upd F10 16 a0) R) e_X11_law_28 rfl rfl rfl rfl (Nat.le_of_ble_eq_true rfl) rfl ?_
      obtain ⟨F11, hF11⟩ : ∃ z, z = upd F10 16 a0 := ⟨_, rfl⟩
      rw [← hF11]
      have oF11 : g_ok LK_wM F11 := by rw [hF11]; exact g_ok_p oF10 p7 rfl
      have fF11 : g_fr md_X11_law F F11 := by rw [hF11]; exact g_fr_u fF10 rfl
      have wTF11 : WT F11 R := by rw [hF11]; exact WT_u wTF10 rfl
      have wCF11 : WC F11 R := by rw [hF11]; exact WC_u wCF10 rfl
      refine g_aload_n cx 0 rfl e_X11_law_31 ?_
      refine g_iconst cx 0 (by decide) e_X11_law_32 ?_
      refine g_put cx cl_X11 fl_X11_231 0 (wM X ad (upd F11 25 0) R) e_X11_law_33 rfl rfl rfl rfl (Nat.le_of_ble_eq_true rfl) rfl ?_
      obtain ⟨F12, hF12⟩ : ∃ z, z = upd F11 25 0 := ⟨_, rfl⟩
      rw [← hF12]
      have oF12 : g_ok LK_wM F12 := by rw [hF12]; exact g_ok_p oF11 (jv_k (x := 0) 0 (by decide)) rfl
      have fF12 : g_fr md_X11_law F F12 := by rw [hF12]; exact g_fr_u fF11 rfl
      have wTF12 : WT F12 R := by rw [hF12]; exact WT_u wTF11 rfl
      have wCF12 : WC F12 R := by rw [hF12]; exact WC_u wCF11 rfl
      refine g_aload_n cx 0 rfl e_X11_law_36 ?_
      refine g_iconst cx 0 (by decide) e_X11_law_37 ?_
      refine g_put cx cl_X11 fl_X11_289 0 (wM X ad (upd F12 27 0) R) e_X11_law_38 rfl rfl rfl rfl (Nat.le_of_ble_eq_true rfl) rfl ?_
      obtain ⟨F13, hF13⟩ : ∃ z, z = upd F12 27 0 := ⟨_, rfl⟩
      rw [← hF13]
      have oF13 : g_ok LK_wM F13 := by rw [hF13]; exact g_ok_p oF12 (jv_k (x := 0) 0 (by decide)) rfl
      have fF13 : g_fr md_X11_law F F13 := by rw [hF13]; exact g_fr_u fF12 rfl
      have wTF13 : WT F13 R := by rw [hF13]; exact WT_u wTF12 rfl
      have wCF13 : WC F13 R := by rw [hF13]; exact WC_u wCF12 rfl
      refine g_aload_n cx 0 rfl e_X11_law_41 ?_
      refine g_cViW cx [] [] (w_X11_readsClause l X ad F13 R oF13 hA wTF13 wCF13 (WD_0 R (g_pu1 hF13)) (by have q0 := (jv_k (x := 0) 0 (by decide)).1; have q1 := (jv_k (x := 0) 0 (by decide)).2; have q2 := (g_ok_g oF13 1 rfl).1; have q3 := (g_ok_g oF13 1 rfl).2; have q4 := (g_ok_g oF13 7 rfl).1; have q5 := (g_ok_g oF13 7 rfl).2; have q6 := p6.1; have q7 := p6.2; have q8 := (gc_ne zc4); have q9 := (congrArg Int32.toInt (show F13 25 = 0 from ((g_pu2 hF13 rfl).trans (g_pu1 hF12)))); have q10 := (congrArg Int32.toInt (show F13 15 = 0 from ((((g_pu2 hF13 rfl).trans (g_pu2 hF12 rfl)).trans (g_pu2 hF11 rfl)).trans (g_pu1 hF10)))); omega)) ml_X11_295 yV_X11_readsClause e_X11_law_42 (by unfold g_rr; decide) (by decide) 0 rfl rfl rfl (Nat.le_of_ble_eq_true rfl) (fun r14 w15 h16 => ?_)
      obtain ⟨F18, R19, rfl, oF18, oR19, wTF18, wCF18, cF18, cR19, pr14, zx17⟩ := h16
      have fF18 : g_fr md_X11_law F F18 := g_fr_c fF13 cF18 rfl
      have fR19 : g_fr mr_X11_law R R19 := g_fr_c (g_fr_rf R) cR19 rfl
      refine g_istore_n cx [(2, .int r14), (0, .ref (ad 0)), (1, .int a0)] e_X11_law_45 (by decide) rfl ?_
      have J46 : ∀ (N : Nat) (F21 : Nat → Int32) (R22 : Nat → Nat → Int32) (y20 : Int32), (g_ok LK_wM F21) → (g_fr md_X11_law F F21) → (g_okR LA_wM R22) → (g_fr mr_X11_law R R22) → (WT F21 R22) → (WC F21 R22) → (jv 0 1 y20) → (¬ y20 = 0 → WD F21 R22 ∧ (F21 25).toInt ≤ (F21 15).toInt) → (1000 * (y20 : Int32).toInt - (F21 15).toInt).toNat < N → G X E 4 0 0 (wM X ad F21 R22) [(0, .ref (ad 0)), (2, .int y20)] 46 [] := by
        intro N
        induction N with
        | zero => intro F21 R22 y20 oF21 fF21 oR22 fR22 wTF21R22 wCF21R22 py20 zq46_0 hm; exact absurd hm (Nat.not_lt_zero _)
        | succ N ih46 =>
          intro F21 R22 y20 oF21 fF21 oR22 fR22 wTF21R22 wCF21R22 py20 zq46_0 hm46
          refine g_iload_n cx 1 rfl e_X11_law_46 ?_
          have J86 : G X E 4 0 0 (wM X ad F21 R22) [(0, .ref (ad 0)), (2, .int y20)] 86 [] := by
            refine g_aload_n cx 0 rfl e_X11_law_86 ?_
            refine g_iconst cx 0 (by decide) e_X11_law_87 ?_
            refine g_put cx cl_X11 fl_X11_183 0 (wM X ad (upd F21 14 0) R22) e_X11_law_88 rfl rfl rfl rfl (Nat.le_of_ble_eq_true rfl) rfl ?_
            obtain ⟨F23, hF23⟩ : ∃ z, z = upd F21 14 0 := ⟨_, rfl⟩
            rw [← hF23]
            have oF23 : g_ok LK_wM F23 := by rw [hF23]; exact g_ok_p oF21 (jv_k (x := 0) 0 (by decide)) rfl
            have fF23 : g_fr md_X11_law F F23 := by rw [hF23]; exact g_fr_u fF21 rfl
            have wTF23 : WT F23 R22 := by rw [hF23]; exact WT_u wTF21R22 rfl
            have wCF23 : WC F23 R22 := by rw [hF23]; exact WC_u wCF21R22 rfl
            refine g_iload_n cx 1 rfl e_X11_law_91 ?_
            refine g_if_ne cx 100 e_X11_law_92 (by decide) (fun zc24 => ?_) (fun zc24 => ?_)
            · have p25 := gn_neL 1 1 (gc_ne zc24) py20 (jv_k (x := 0) 0 (by decide)) (by decide)
              have wd46 := (zq46_0 zc24).1
              have wd100 : WD F23 R22 := (WD_e wd46 (g_pu2 hF23 rfl) (g_pu2 hF23 rfl) (rfl : R22 12 = R22 12) (rfl : R22 15 = R22 15) (rfl : R22 16 = R22 16) (rfl : R22 17 = R22 17))
              refine g_aload_n cx 0 rfl e_X11_law_100 ?_
              refine g_aload_n cx 0 rfl e_X11_law_101 ?_
              refine g_get cx cl_X11 fl_X11_289 0 (.int (F23 27)) e_X11_law_102 rfl rfl ?_
              refine g_toi (F21 27) (g_pu2 hF23 rfl) ?_
              refine g_put cx cl_X11 fl_X11_298 0 (wM X ad (upd F23 28 (F21 27)) R22) e_X11_law_105 rfl rfl rfl rfl (Nat.le_of_ble_eq_true rfl) rfl ?_
              obtain ⟨F26, hF26⟩ : ∃ z, z = upd F23 28 (F21 27) := ⟨_, rfl⟩
              rw [← hF26]
              have oF26 : g_ok LK_wM F26 := by rw [hF26]; exact g_ok_p oF23 (g_ok_g oF21 9 rfl) rfl
              have fF26 : g_fr md_X11_law F F26 := by rw [hF26]; exact g_fr_u fF23 rfl
              have wTF26 : WT F26 R22 := by rw [hF26]; exact WT_u wTF23 rfl
              refine g_iconst cx 0 (by decide) e_X11_law_108 ?_
              refine g_istore_n cx [(3, .int 0), (0, .ref (ad 0)), (2, .int y20)] e_X11_law_109 (by decide) rfl ?_
              have J110 : ∀ (N : Nat) (R28 : Nat → Nat → Int32) (y27 : Int32), (g_okR LA_wM R28) → (g_fr mr_X11_law R R28) → (WT F26 R28) → (jv 0 220 y27) → (R28 12 = R22 12 ∧ R28 15 = R22 15 ∧ R28 16 = R22 16 ∧ R28 17 = R22 17 ∧ ∀ j : Nat, (j : Int) < (y27 : Int32).toInt → R28 18 j = R22 12 j) → (2147483647 - y27.toInt).toNat < N → G X E 4 0 0 (wM X ad F26 R28) [(0, .ref (ad 0)), (3, .int y27)] 110 [] := by
                intro N
                induction N with
                | zero => intro R28 y27 oR28 fR28 wTR28 py27 zq110_0 hm; exact absurd hm (Nat.not_lt_zero _)
                | succ N ih110 =>
                  intro R28 y27 oR28 fR28 wTR28 py27 zq110_0 hm110
                  refine g_iload_n cx 1 rfl e_X11_law_110 ?_
                  refine g_aload_n cx 0 rfl e_X11_law_111 ?_
                  refine g_get cx cl_X11 fl_X11_231 0 (.int (F26 25)) e_X11_law_112 rfl rfl ?_
                  refine g_toi (F21 25) ((g_pu2 hF26 rfl).trans (g_pu2 hF23 rfl)) ?_
                  refine g_icmp_ge cx 136 e_X11_law_115 (by decide) (fun zc29 => ?_) (fun zc29 => ?_)
                  · have c18 : ∀ j : Nat, (j : Int) < (F23 25).toInt → R28 18 j = R22 12 j := fun j hj => zq110_0.2.2.2.2 j (by have q0 := (g_ok_g oF21 7 rfl).1; have q1 := (g_ok_g oF21 7 rfl).2; have q2 := (g_ok_g oF23 7 rfl).1; have q3 := (g_ok_g oF23 7 rfl).2; have q4 := (g_ok_g oF26 7 rfl).1; have q5 := (g_ok_g oF26 7 rfl).2; have q6 := py27.1; have q7 := py27.2; have q8 := (gc_le zc29); have q9 := (congrArg Int32.toInt (show F23 25 = F21 25 from (g_pu2 hF23 rfl))); have q10 := (congrArg Int32.toInt (show F26 25 = F21 25 from ((g_pu2 hF26 rfl).trans (g_pu2 hF23 rfl)))); have q11 := hj; omega)
                    refine g_iconst cx 0 (by decide) e_X11_law_136 ?_
                    refine g_istore_n cx [(3, .int 0), (0, .ref (ad 0))] e_X11_law_137 (by decide) rfl ?_
                    have J138 : ∀ (N : Nat) (R31 : Nat → Nat → Int32) (y30 : Int32), (g_okR LA_wM R31) → (g_fr mr_X11_law R R31) → (WT F26 R31) → (jv 0 14 y30) → (R31 12 = R22 12 ∧ R31 15 = R22 15 ∧ R31 16 = R22 16 ∧ R31 17 = R22 17 ∧ R31 18 = R28 18 ∧ (∀ j : Nat, (j : Int) < (y30 : Int32).toInt → R31 20 j = R22 15 j) ∧ (∀ j : Nat, (j : Int) < (y30 : Int32).toInt → R31 21 j = R22 16 j) ∧ (∀ j : Nat, (j : Int) < (y30 : Int32).toInt → R31 22 j = R22 17 j)) → (2147483647 - y30.toInt).toNat < N → G X E 4 0 0 (wM X ad F26 R31) [(0, .ref (ad 0)), (3, .int y30)] 138 [] := by
                      intro N
                      induction N with
                      | zero => intro R31 y30 oR31 fR31 wTR31 py30 zq138_0 hm; exact absurd hm (Nat.not_lt_zero _)
                      | succ N ih138 =>
                        intro R31 y30 oR31 fR31 wTR31 py30 zq138_0 hm138
                        refine g_iload_n cx 1 rfl e_X11_law_138 ?_
                        refine g_aload_n cx 0 rfl e_X11_law_139 ?_
                        refine g_get cx cl_X11 fl_X11_289 0 (.int (F26 27)) e_X11_law_140 rfl rfl ?_
                        refine g_toi (F21 27) ((g_pu2 hF26 rfl).trans (g_pu2 hF23 rfl)) ?_
                        refine g_icmp_ge cx 200 e_X11_law_143 (by decide) (fun zc32 => ?_) (fun zc32 => ?_)
                        · refine g_aload_n cx 0 rfl e_X11_law_200 ?_
                          refine g_get cx cl_X11 fl_X11_289 0 (.int (F26 27)) e_X11_law_201 rfl rfl ?_
                          refine g_toi (F21 27) ((g_pu2 hF26 rfl).trans (g_pu2 hF23 rfl)) ?_
                          exact hret e_X11_law_204 (Nat.le_of_ble_eq_true rfl) (Nat.le_of_ble_eq_true rfl) rfl ⟨F26, R31, rfl, oF26, oR31, wTR31, (WC_of wd100 (g_ok_g oF23 7 rfl).2 ((g_pu1 hF26).trans (g_pu2 hF23 rfl).symm) (fun j hj => (congrFun zq138_0.2.2.2.2.1 j).trans (c18 j hj)) (fun j hj => zq138_0.2.2.2.2.2.1 j (by have q0 := (g_ok_g oF21 9 rfl).1; have q1 := (g_ok_g oF21 9 rfl).2; have q2 := (g_ok_g oF23 9 rfl).1; have q3 := (g_ok_g oF23 9 rfl).2; have q4 := (g_ok_g oF26 9 rfl).1; have q5 := (g_ok_g oF26 9 rfl).2; have q6 := py30.1; have q7 := py30.2; have q8 := (gc_le zc32); have q9 := (congrArg Int32.toInt (show F23 27 = F21 27 from (g_pu2 hF23 rfl))); have q10 := (congrArg Int32.toInt (show F26 27 = F21 27 from ((g_pu2 hF26 rfl).trans (g_pu2 hF23 rfl)))); have q11 := hj; omega)) (fun j hj => zq138_0.2.2.2.2.2.2.1 j (by have q0 := (g_ok_g oF21 9 rfl).1; have q1 := (g_ok_g oF21 9 rfl).2; have q2 := (g_ok_g oF23 9 rfl).1; have q3 := (g_ok_g oF23 9 rfl).2; have q4 := (g_ok_g oF26 9 rfl).1; have q5 := (g_ok_g oF26 9 rfl).2; have q6 := py30.1; have q7 := py30.2; have q8 := (gc_le zc32); have q9 := (congrArg Int32.toInt (show F23 27 = F21 27 from (g_pu2 hF23 rfl))); have q10 := (congrArg Int32.toInt (show F26 27 = F21 27 from ((g_pu2 hF26 rfl).trans (g_pu2 hF23 rfl)))); have q11 := (congrArg Int32.toInt (show F26 27 = F21 27 from ((g_pu2 hF26 rfl).trans (g_pu2 hF23 rfl)))); have q12 := hj; omega)) (fun j hj => zq138_0.2.2.2.2.2.2.2 j (by have q0 := (g_ok_g oF21 9 rfl).1; have q1 := (g_ok_g oF21 9 rfl).2; have q2 := (g_ok_g oF23 9 rfl).1; have q3 := (g_ok_g oF23 9 rfl).2; have q4 := (g_ok_g oF26 9 rfl).1; have q5 := (g_ok_g oF26 9 rfl).2; have q6 := py30.1; have q7 := py30.2; have q8 := (gc_le zc32); have q9 := (congrArg Int32.toInt (show F23 27 = F21 27 from (g_pu2 hF23 rfl))); have q10 := (congrArg Int32.toInt (show F26 27 = F21 27 from ((g_pu2 hF26 rfl).trans (g_pu2 hF23 rfl)))); have q11 := (congrArg Int32.toInt (show F26 27 = F21 27 from ((g_pu2 hF26 rfl).trans (g_pu2 hF23 rfl)))); have q12 := (congrArg Int32.toInt (show F26 27 = F21 27 from ((g_pu2 hF26 rfl).trans (g_pu2 hF23 rfl)))); have q13 := hj; omega))), fF26, fR31, (jv_w (g_ok_g oF21 9 rfl) (by decide))⟩
                        · have p33 := gn_lt 0 13 (gc_nle zc32) py30 (g_ok_g oF21 9 rfl) (by decide)
                          have p34 := gn_gt 1 14 (gc_nle zc32) (g_ok_g oF21 9 rfl) py30 (by decide)
                          refine g_aload_n cx 0 rfl e_X11_law_146 ?_
                          refine g_get cx cl_X11 fl_X11_65 0 (.ref (ad 19)) e_X11_law_147 rfl rfl ?_
                          refine g_iload_n cx 1 rfl e_X11_law_150 ?_
                          refine g_aload_n cx 0 rfl e_X11_law_151 ?_
                          refine g_get cx cl_X11 fl_X11_50 0 (.ref (ad 14)) e_X11_law_152 rfl rfl ?_
                          refine g_iload_n cx 1 rfl e_X11_law_155 ?_
                          refine g_iald cx 14 e_X11_law_156 rfl (jv_ix 14 p33 (by decide)) ?_
                          refine g_topi (fun x35 ex35 => ?_)
                          refine g_iast cx 19 (wM X ad F26 (g_u R31 19 (upd (R31 19) (Int32.toNatClampNeg y30) x35))) e_X11_law_157 rfl (jv_ix 14 p33 (by decide)) rfl ?_
                          obtain ⟨R36, hR36⟩ : ∃ z, z = g_u R31 19 (upd (R31 19) (Int32.toNatClampNeg y30) x35) := ⟨_, rfl⟩
                          rw [← hR36]
                          have oR36 : g_okR LA_wM R36 := by rw [hR36]; exact g_okR_u oR31 rfl
                          have fR36 : g_fr mr_X11_law R R36 := by rw [hR36]; exact g_fr_r fR31 rfl
                          have wTR36 : WT F26 R36 := by rw [hR36]; exact WT_r wTR31 rfl
                          refine g_aload_n cx 0 rfl e_X11_law_158 ?_
                          refine g_get cx cl_X11 fl_X11_68 0 (.ref (ad 20)) e_X11_law_159 rfl rfl ?_
                          refine g_iload_n cx 1 rfl e_X11_law_162 ?_
                          refine g_aload_n cx 0 rfl e_X11_law_163 ?_
                          refine g_get cx cl_X11 fl_X11_53 0 (.ref (ad 15)) e_X11_law_164 rfl rfl ?_
                          refine g_iload_n cx 1 rfl e_X11_law_167 ?_
                          refine g_iald cx 15 e_X11_law_168 rfl (jv_ix 14 p33 (by decide)) ?_
                          refine g_topi (fun x37 ex37 => ?_)
                          refine g_iast cx 20 (wM X ad F26 (g_u R36 20 (upd (R36 20) (Int32.toNatClampNeg y30) x37))) e_X11_law_169 rfl (jv_ix 14 p33 (by decide)) rfl ?_
                          obtain ⟨R38, hR38⟩ : ∃ z, z = g_u R36 20 (upd (R36 20) (Int32.toNatClampNeg y30) x37) := ⟨_, rfl⟩
                          rw [← hR38]
                          have oR38 : g_okR LA_wM R38 := by rw [hR38]; exact g_okR_u oR36 rfl
                          have fR38 : g_fr mr_X11_law R R38 := by rw [hR38]; exact g_fr_r fR36 rfl
                          have wTR38 : WT F26 R38 := by rw [hR38]; exact WT_r wTR36 rfl
                          refine g_aload_n cx 0 rfl e_X11_law_170 ?_
                          refine g_get cx cl_X11 fl_X11_71 0 (.ref (ad 21)) e_X11_law_171 rfl rfl ?_
                          refine g_iload_n cx 1 rfl e_X11_law_174 ?_
                          refine g_aload_n cx 0 rfl e_X11_law_175 ?_
                          refine g_get cx cl_X11 fl_X11_56 0 (.ref (ad 16)) e_X11_law_176 rfl rfl ?_
                          refine g_iload_n cx 1 rfl e_X11_law_179 ?_
                          refine g_iald cx 16 e_X11_law_180 rfl (jv_ix 14 p33 (by decide)) ?_
                          refine g_topi (fun x39 ex39 => ?_)
                          refine g_iast cx 21 (wM X ad F26 (g_u R38 21 (upd (R38 21) (Int32.toNatClampNeg y30) x39))) e_X11_law_181 rfl (jv_ix 14 p33 (by decide)) rfl ?_
                          obtain ⟨R40, hR40⟩ : ∃ z, z = g_u R38 21 (upd (R38 21) (Int32.toNatClampNeg y30) x39) := ⟨_, rfl⟩
                          rw [← hR40]
                          have oR40 : g_okR LA_wM R40 := by rw [hR40]; exact g_okR_u oR38 rfl
                          have fR40 : g_fr mr_X11_law R R40 := by rw [hR40]; exact g_fr_r fR38 rfl
                          have wTR40 : WT F26 R40 := by rw [hR40]; exact WT_r wTR38 rfl
                          refine g_aload_n cx 0 rfl e_X11_law_182 ?_
                          refine g_get cx cl_X11 fl_X11_74 0 (.ref (ad 22)) e_X11_law_183 rfl rfl ?_
                          refine g_iload_n cx 1 rfl e_X11_law_186 ?_
                          refine g_aload_n cx 0 rfl e_X11_law_187 ?_
                          refine g_get cx cl_X11 fl_X11_59 0 (.ref (ad 17)) e_X11_law_188 rfl rfl ?_
                          refine g_iload_n cx 1 rfl e_X11_law_191 ?_
                          refine g_iald cx 17 e_X11_law_192 rfl (jv_ix 14 p33 (by decide)) ?_
                          refine g_topi (fun x41 ex41 => ?_)
                          refine g_iast cx 22 (wM X ad F26 (g_u R40 22 (upd (R40 22) (Int32.toNatClampNeg y30) x41))) e_X11_law_193 rfl (jv_ix 14 p33 (by decide)) rfl ?_
                          obtain ⟨R42, hR42⟩ : ∃ z, z = g_u R40 22 (upd (R40 22) (Int32.toNatClampNeg y30) x41) := ⟨_, rfl⟩
                          rw [← hR42]
                          have oR42 : g_okR LA_wM R42 := by rw [hR42]; exact g_okR_u oR40 rfl
                          have fR42 : g_fr mr_X11_law R R42 := by rw [hR42]; exact g_fr_r fR40 rfl
                          have wTR42 : WT F26 R42 := by rw [hR42]; exact WT_r wTR40 rfl
                          obtain ⟨x43, ex43⟩ : ∃ z : Int32, z = y30 + Int32.ofInt 1 := ⟨_, rfl⟩
                          refine g_iinc cx x43 [(3, .int x43), (0, .ref (ad 0))] 1 e_X11_law_194 rfl ex43.symm (by decide) rfl ?_
                          have zx43 := jv_add 1 14 (show x43 = y30 + 1 from ex43) p33 (jv_k (x := 1) 1 (by decide)) (by decide)
                          refine g_goto cx 138 e_X11_law_197 (by decide) ?_
                          refine g_lsub [1, 0] [(0, .ref (ad 0)), (3, .int x43)] rfl ?_
                          exact ih138 R42 x43 oR42 fR42 wTR42 (jv_w zx43.2 (by decide)) (⟨(((((g_ru2 hR42 rfl).trans (g_ru2 hR40 rfl)).trans (g_ru2 hR38 rfl)).trans (g_ru2 hR36 rfl)).trans zq138_0.1), (((((g_ru2 hR42 rfl).trans (g_ru2 hR40 rfl)).trans (g_ru2 hR38 rfl)).trans (g_ru2 hR36 rfl)).trans zq138_0.2.1), (((((g_ru2 hR42 rfl).trans (g_ru2 hR40 rfl)).trans (g_ru2 hR38 rfl)).trans (g_ru2 hR36 rfl)).trans zq138_0.2.2.1), (((((g_ru2 hR42 rfl).trans (g_ru2 hR40 rfl)).trans (g_ru2 hR38 rfl)).trans (g_ru2 hR36 rfl)).trans zq138_0.2.2.2.1), (((((g_ru2 hR42 rfl).trans (g_ru2 hR40 rfl)).trans (g_ru2 hR38 rfl)).trans (g_ru2 hR36 rfl)).trans zq138_0.2.2.2.2.1), (g_cp1 (g := R22 15) (f := R31 20) zq138_0.2.2.2.2.2.1 p33 ((((g_ru2 hR42 rfl).trans (g_ru2 hR40 rfl)).trans (g_ru1 hR38)).trans (by rw [show R36 20 = R31 20 from (g_ru2 hR36 rfl), ex37, show R36 15 = R22 15 from ((g_ru2 hR36 rfl).trans zq138_0.2.1)])) (g_eq0 zx43.1)), (g_cp1 (g := R22 16) (f := R31 21) zq138_0.2.2.2.2.2.2.1 p33 (((g_ru2 hR42 rfl).trans (g_ru1 hR40)).trans (by rw [show R38 21 = R31 21 from ((g_ru2 hR38 rfl).trans (g_ru2 hR36 rfl)), ex39, show R38 16 = R22 16 from (((g_ru2 hR38 rfl).trans (g_ru2 hR36 rfl)).trans zq138_0.2.2.1)])) (g_eq0 zx43.1)), (g_cp1 (g := R22 17) (f := R31 22) zq138_0.2.2.2.2.2.2.2 p33 ((g_ru1 hR42).trans (by rw [show R40 22 = R31 22 from (((g_ru2 hR40 rfl).trans (g_ru2 hR38 rfl)).trans (g_ru2 hR36 rfl)), ex41, show R40 17 = R22 17 from ((((g_ru2 hR40 rfl).trans (g_ru2 hR38 rfl)).trans (g_ru2 hR36 rfl)).trans zq138_0.2.2.2.1)])) (g_eq0 zx43.1))⟩) (Nat.lt_of_lt_of_le (show (2147483647 - x43.toInt).toNat < (2147483647 - y30.toInt).toNat from by have q0 := (jv_k (x := 1) 1 (by decide)).1; have q1 := (jv_k (x := 1) 1 (by decide)).2; have q2 := p34.1; have q3 := p34.2; have q4 := zx43.2.1; have q5 := zx43.2.2; have q6 := p33.1; have q7 := p33.2; have q8 := (gc_nle zc32); have q9 := (g_eq0 zx43.1); omega) (Nat.le_of_lt_succ hm138))
                    refine g_lsub [1, 0] [(0, .ref (ad 0)), (3, .int 0)] rfl ?_
                    exact J138 _ R28 0 oR28 fR28 wTR28 (jv_w (jv_k (x := 0) 0 (by decide)) (by decide)) (⟨((rfl : R28 12 = R28 12).trans zq110_0.1), ((rfl : R28 15 = R28 15).trans zq110_0.2.1), ((rfl : R28 16 = R28 16).trans zq110_0.2.2.1), ((rfl : R28 17 = R28 17).trans zq110_0.2.2.2.1), rfl, fun j hj => absurd hj (by have := Int.natCast_nonneg j; have e : (0 : Int32).toInt = 0 := rfl; omega), fun j hj => absurd hj (by have := Int.natCast_nonneg j; have e : (0 : Int32).toInt = 0 := rfl; omega), fun j hj => absurd hj (by have := Int.natCast_nonneg j; have e : (0 : Int32).toInt = 0 := rfl; omega)⟩) (Nat.lt_succ_self _)
                  · have p44 := gn_lt 0 219 (gc_nle zc29) py27 (g_ok_g oF21 7 rfl) (by decide)
                    have p45 := gn_gt 1 220 (gc_nle zc29) (g_ok_g oF21 7 rfl) py27 (by decide)
                    refine g_aload_n cx 0 rfl e_X11_law_118 ?_
                    refine g_get cx cl_X11 fl_X11_62 0 (.ref (ad 18)) e_X11_law_119 rfl rfl ?_
                    refine g_iload_n cx 1 rfl e_X11_law_122 ?_
                    refine g_aload_n cx 0 rfl e_X11_law_123 ?_
                    refine g_get cx cl_X11 fl_X11_44 0 (.ref (ad 12)) e_X11_law_124 rfl rfl ?_
                    refine g_iload_n cx 1 rfl e_X11_law_127 ?_
                    refine g_iald cx 12 e_X11_law_128 rfl (jv_ix 220 p44 (by decide)) ?_
                    refine g_topi (fun x46 ex46 => ?_)
                    have p47 : jv 0 13631487 x46 := by rw [ex46]; exact g_okR_g oR28 0 rfl (jv_cl 220 p44 (by decide))
                    refine g_iast cx 18 (wM X ad F26 (g_u R28 18 (upd (R28 18) (Int32.toNatClampNeg y27) x46))) e_X11_law_129 rfl (jv_ix 220 p44 (by decide)) rfl ?_
                    obtain ⟨R48, hR48⟩ : ∃ z, z = g_u R28 18 (upd (R28 18) (Int32.toNatClampNeg y27) x46) := ⟨_, rfl⟩
                    rw [← hR48]
                    have oR48 : g_okR LA_wM R48 := by rw [hR48]; exact g_okR_p oR28 p47 rfl
                    have fR48 : g_fr mr_X11_law R R48 := by rw [hR48]; exact g_fr_r fR28 rfl
                    have wTR48 : WT F26 R48 := by rw [hR48]; exact WT_r wTR28 rfl
                    obtain ⟨x49, ex49⟩ : ∃ z : Int32, z = y27 + Int32.ofInt 1 := ⟨_, rfl⟩
                    refine g_iinc cx x49 [(3, .int x49), (0, .ref (ad 0))] 1 e_X11_law_130 rfl ex49.symm (by decide) rfl ?_
                    have zx49 := jv_add 1 220 (show x49 = y27 + 1 from ex49) p44 (jv_k (x := 1) 1 (by decide)) (by decide)
                    refine g_goto cx 110 e_X11_law_133 (by decide) ?_
                    refine g_lsub [1, 0] [(0, .ref (ad 0)), (3, .int x49)] rfl ?_
                    exact ih110 R48 x49 oR48 fR48 wTR48 (jv_w zx49.2 (by decide)) (⟨((g_ru2 hR48 rfl).trans zq110_0.1), ((g_ru2 hR48 rfl).trans zq110_0.2.1), ((g_ru2 hR48 rfl).trans zq110_0.2.2.1), ((g_ru2 hR48 rfl).trans zq110_0.2.2.2.1), (g_cp1 (g := R22 12) (f := R28 18) zq110_0.2.2.2.2 p44 ((g_ru1 hR48).trans (by rw [show R28 18 = R28 18 from (rfl : R28 18 = R28 18), ex46, show R28 12 = R22 12 from ((rfl : R28 12 = R28 12).trans zq110_0.1)])) (g_eq0 zx49.1))⟩) (Nat.lt_of_lt_of_le (show (2147483647 - x49.toInt).toNat < (2147483647 - y27.toInt).toNat from by have q0 := (jv_k (x := 1) 1 (by decide)).1; have q1 := (jv_k (x := 1) 1 (by decide)).2; have q2 := p45.1; have q3 := p45.2; have q4 := zx49.2.1; have q5 := zx49.2.2; have q6 := p44.1; have q7 := p44.2; have q8 := (gc_nle zc29); have q9 := (g_eq0 zx49.1); omega) (Nat.le_of_lt_succ hm110))
              refine g_lsub [1, 0] [(0, .ref (ad 0)), (3, .int 0)] rfl ?_
              exact J110 _ R22 0 oR22 fR22 wTF26 (jv_w (jv_k (x := 0) 0 (by decide)) (by decide)) (⟨(rfl : R22 12 = R22 12), (rfl : R22 15 = R22 15), (rfl : R22 16 = R22 16), (rfl : R22 17 = R22 17), fun j hj => absurd hj (by have := Int.natCast_nonneg j; have e : (0 : Int32).toInt = 0 := rfl; omega)⟩) (Nat.lt_succ_self _)
            · have p50 := gn_eq 0 0 (gc_eq zc24) py20 (jv_k (x := 0) 0 (by decide)) (by decide)
              refine g_aload_n cx 0 rfl e_X11_law_95 ?_
              refine g_get cx cl_X11 fl_X11_225 0 (.int (F23 17)) e_X11_law_96 rfl rfl ?_
              refine g_toi (F21 17) (g_pu2 hF23 rfl) ?_
              exact hret e_X11_law_99 (Nat.le_of_ble_eq_true rfl) (Nat.le_of_ble_eq_true rfl) rfl ⟨F23, R22, rfl, oF23, oR22, wTF23, wCF23, fF23, fR22, (jv_t (F21 17))⟩
          refine g_if_eq cx 86 e_X11_law_47 (by decide) (fun zc51 => ?_) (fun zc51 => ?_)
          · have p52 := gn_eq 0 0 (gc_eq zc51) py20 (jv_k (x := 0) 0 (by decide)) (by decide)
            exact J86  
          · have p53 := gn_neL 1 1 (gc_ne zc51) py20 (jv_k (x := 0) 0 (by decide)) (by decide)
            have wd46 := (zq46_0 zc51).1
            have cp46 := (zq46_0 zc51).2
            refine g_aload_n cx 0 rfl e_X11_law_50 ?_
            refine g_get cx cl_X11 fl_X11_190 0 (.int (F21 15)) e_X11_law_51 rfl rfl ?_
            refine g_aload_n cx 0 rfl e_X11_law_54 ?_
            refine g_get cx cl_X11 fl_X11_216 0 (.int (F21 16)) e_X11_law_55 rfl rfl ?_
            refine g_icmp_ge cx 86 e_X11_law_58 (by decide) (fun zc54 => ?_) (fun zc54 => ?_)
            · exact J86  
            · have p55 := gn_lt 0 199 (gc_nle zc54) (g_ok_g oF21 1 rfl) (g_ok_g oF21 2 rfl) (by decide)
              have p56 := gn_gt 1 200 (gc_nle zc54) (g_ok_g oF21 2 rfl) (g_ok_g oF21 1 rfl) (by decide)
              refine g_aload_n cx 0 rfl e_X11_law_61 ?_
              refine g_bipush cx 59 (by decide) e_X11_law_62 ?_
              refine g_cViW cx [.int 59] [] (w_X11_takes l X ad F21 R22 oF21 oR22 wTF21R22 wCF21R22 59 (jv_w (jv_k (x := 59) 59 (by decide)) (by decide))) ml_X11_222 yV_X11_takes e_X11_law_64 (by unfold g_rr; decide) (by decide) 0 rfl rfl rfl (Nat.le_of_ble_eq_true rfl) (fun r57 w58 h59 => ?_)
              obtain ⟨F62, R63, rfl, oF62, oR63, wTF62, wCF62, cF62, cR63, pr57, zx60, zx61⟩ := h59
              have fF62 : g_fr md_X11_law F F62 := g_fr_c fF21 cF62 rfl
              have fR63 : g_fr mr_X11_law R R63 := g_fr_c fR22 cR63 rfl
              have J82 : ∀ (F65 : Nat → Int32) (R66 : Nat → Nat → Int32) (y64 : Int32), (g_ok LK_wM F65) → (g_fr md_X11_law F F65) → (g_okR LA_wM R66) → (g_fr mr_X11_law R R66) → (WT F65 R66) → (WC F65 R66) → (jv 0 1 y64) → ((y64 : Int32).toInt = 0 ∨ (y64 : Int32).toInt = 1 ∧ (F21 15).toInt + 1 ≤ (F65 15).toInt) → (¬ y64 = 0 → WD F65 R66 ∧ (F65 25).toInt ≤ (F65 15).toInt) → G X E 4 0 0 (wM X ad F65 R66) [(0, .ref (ad 0))] 82 [.int y64] := by
                intro F65 R66 y64 oF65 fF65 oR66 fR66 wTF65R66 wCF65R66 py64 zi82_0 zq82_0
                refine g_istore_n cx [(2, .int y64), (0, .ref (ad 0))] e_X11_law_82 (by decide) rfl ?_
                refine g_goto cx 46 e_X11_law_83 (by decide) ?_
                refine g_lsub [1, 0] [(0, .ref (ad 0)), (2, .int y64)] rfl ?_
                exact ih46 F65 R66 y64 oF65 fF65 oR66 fR66 wTF65R66 wCF65R66 py64 (zq82_0) (Nat.lt_of_lt_of_le (show (1000 * (y64 : Int32).toInt - (F65 15).toInt).toNat < (1000 * (y20 : Int32).toInt - (F21 15).toInt).toNat from by have q0 := (jv_k (x := 0) 0 (by decide)).1; have q1 := (jv_k (x := 0) 0 (by decide)).2; have q2 := (g_ok_g oF13 1 rfl).1; have q3 := (g_ok_g oF13 1 rfl).2; have q4 := (g_ok_g oF13 7 rfl).1; have q5 := (g_ok_g oF13 7 rfl).2; have q6 := p55.1; have q7 := p55.2; have q8 := p56.1; have q9 := p56.2; have q10 := (g_ok_g oF21 7 rfl).1; have q11 := (g_ok_g oF21 7 rfl).2; have q12 := (g_ok_g oF62 1 rfl).1; have q13 := (g_ok_g oF62 1 rfl).2; have q14 := (g_ok_g oF65 1 rfl).1; have q15 := (g_ok_g oF65 1 rfl).2; have q16 := p6.1; have q17 := p6.2; have q18 := p53.1; have q19 := p53.2; have q20 := py64.1; have q21 := py64.2; have q22 := (gc_ne zc4); have q23 := (congrArg Int32.toInt (show F13 25 = 0 from ((g_pu2 hF13 rfl).trans (g_pu1 hF12)))); have q24 := (congrArg Int32.toInt (show F13 15 = 0 from ((((g_pu2 hF13 rfl).trans (g_pu2 hF12 rfl)).trans (g_pu2 hF11 rfl)).trans (g_pu1 hF10)))); have q25 := (gc_ne zc51); have q26 := cp46; have q27 := (gc_ne zc51); have q28 := (gc_nle zc54); have q29 := zx60; have q30 := zi82_0; omega) (Nat.le_of_lt_succ hm46))
              refine g_if_eq cx 81 e_X11_law_67 (by decide) (fun zc67 => ?_) (fun zc67 => ?_)
              · have p68 := gn_eq 0 0 (gc_eq zc67) pr57 (jv_k (x := 0) 0 (by decide)) (by decide)
                refine g_iconst cx 0 (by decide) e_X11_law_81 ?_
                refine g_lsub [0] [(0, .ref (ad 0))] rfl ?_
                exact J82 F62 R63 0 oF62 fF62 oR63 fR63 wTF62 wCF62 (jv_w (jv_k (x := 0) 0 (by decide)) (by decide)) (by have q0 := (jv_k (x := 0) 0 (by decide)).1; have q1 := (jv_k (x := 0) 0 (by decide)).2; have q2 := (g_ok_g oF13 1 rfl).1; have q3 := (g_ok_g oF13 1 rfl).2; have q4 := (g_ok_g oF13 7 rfl).1; have q5 := (g_ok_g oF13 7 rfl).2; have q6 := p55.1; have q7 := p55.2; have q8 := p56.1; have q9 := p56.2; have q10 := (g_ok_g oF21 7 rfl).1; have q11 := (g_ok_g oF21 7 rfl).2; have q12 := (g_ok_g oF62 1 rfl).1; have q13 := (g_ok_g oF62 1 rfl).2; have q14 := p6.1; have q15 := p6.2; have q16 := p68.1; have q17 := p68.2; have q18 := p53.1; have q19 := p53.2; have q20 := (gc_ne zc4); have q21 := (congrArg Int32.toInt (show F13 25 = 0 from ((g_pu2 hF13 rfl).trans (g_pu1 hF12)))); have q22 := (congrArg Int32.toInt (show F13 15 = 0 from ((((g_pu2 hF13 rfl).trans (g_pu2 hF12 rfl)).trans (g_pu2 hF11 rfl)).trans (g_pu1 hF10)))); have q23 := (gc_ne zc51); have q24 := cp46; have q25 := (gc_ne zc51); have q26 := (gc_nle zc54); have q27 := zx60; have q28 := (gc_eq zc67); omega) ((fun h0 => absurd rfl h0))
              · have p69 := gn_neL 1 1 (gc_ne zc67) pr57 (jv_k (x := 0) 0 (by decide)) (by decide)
                refine g_aload_n cx 0 rfl e_X11_law_70 ?_
                refine g_cViW cx [] [] (w_X11_readsClause l X ad F62 R63 oF62 oR63 wTF62 wCF62 (WD_e wd46 (cF62 27 rfl) (cF62 25 rfl) (cR63 12 rfl) (cR63 15 rfl) (cR63 16 rfl) (cR63 17 rfl)) (by have q0 := p55.1; have q1 := p55.2; have q2 := p56.1; have q3 := p56.2; have q4 := (g_ok_g oF21 7 rfl).1; have q5 := (g_ok_g oF21 7 rfl).2; have q6 := (g_ok_g oF62 1 rfl).1; have q7 := (g_ok_g oF62 1 rfl).2; have q8 := (g_ok_g oF62 7 rfl).1; have q9 := (g_ok_g oF62 7 rfl).2; have q10 := cp46; have q11 := (gc_nle zc54); have q12 := zx60; have q13 := (zx61 zc67); have q14 := (congrArg Int32.toInt (show F62 25 = F21 25 from (cF62 25 rfl))); omega)) ml_X11_295 yV_X11_readsClause e_X11_law_71 (by unfold g_rr; decide) (by decide) 0 rfl rfl rfl (Nat.le_of_ble_eq_true rfl) (fun r70 w71 h72 => ?_)
                obtain ⟨F74, R75, rfl, oF74, oR75, wTF74, wCF74, cF74, cR75, pr70, zx73⟩ := h72
                have fF74 : g_fr md_X11_law F F74 := g_fr_c fF62 cF74 rfl
                have fR75 : g_fr mr_X11_law R R75 := g_fr_c fR63 cR75 rfl
                refine g_if_eq cx 81 e_X11_law_74 (by decide) (fun zc76 => ?_) (fun zc76 => ?_)
                · have p77 := gn_eq 0 0 (gc_eq zc76) pr70 (jv_k (x := 0) 0 (by decide)) (by decide)
                  refine g_iconst cx 0 (by decide) e_X11_law_81 ?_
                  refine g_lsub [0] [(0, .ref (ad 0))] rfl ?_
                  exact J82 F74 R75 0 oF74 fF74 oR75 fR75 wTF74 wCF74 (jv_w (jv_k (x := 0) 0 (by decide)) (by decide)) (by have q0 := (jv_k (x := 0) 0 (by decide)).1; have q1 := (jv_k (x := 0) 0 (by decide)).2; have q2 := (g_ok_g oF13 1 rfl).1; have q3 := (g_ok_g oF13 1 rfl).2; have q4 := (g_ok_g oF13 7 rfl).1; have q5 := (g_ok_g oF13 7 rfl).2; have q6 := p55.1; have q7 := p55.2; have q8 := p56.1; have q9 := p56.2; have q10 := (g_ok_g oF21 7 rfl).1; have q11 := (g_ok_g oF21 7 rfl).2; have q12 := (g_ok_g oF62 1 rfl).1; have q13 := (g_ok_g oF62 1 rfl).2; have q14 := (g_ok_g oF62 7 rfl).1; have q15 := (g_ok_g oF62 7 rfl).2; have q16 := (g_ok_g oF74 1 rfl).1; have q17 := (g_ok_g oF74 1 rfl).2; have q18 := p6.1; have q19 := p6.2; have q20 := p69.1; have q21 := p69.2; have q22 := p77.1; have q23 := p77.2; have q24 := p53.1; have q25 := p53.2; have q26 := (gc_ne zc4); have q27 := (congrArg Int32.toInt (show F13 25 = 0 from ((g_pu2 hF13 rfl).trans (g_pu1 hF12)))); have q28 := (congrArg Int32.toInt (show F13 15 = 0 from ((((g_pu2 hF13 rfl).trans (g_pu2 hF12 rfl)).trans (g_pu2 hF11 rfl)).trans (g_pu1 hF10)))); have q29 := (gc_ne zc51); have q30 := cp46; have q31 := (gc_ne zc51); have q32 := (gc_nle zc54); have q33 := zx60; have q34 := (gc_ne zc67); have q35 := (zx61 zc67); have q36 := (congrArg Int32.toInt (show F62 25 = F21 25 from (cF62 25 rfl))); have q37 := (gc_eq zc76); omega) ((fun h0 => absurd rfl h0))
                · have p78 := gn_neL 1 1 (gc_ne zc76) pr70 (jv_k (x := 0) 0 (by decide)) (by decide)
                  obtain ⟨wdk79, cpk79, upk79⟩ := (zx73 zc76)
                  refine g_iconst cx 1 (by decide) e_X11_law_77 ?_
                  refine g_goto cx 82 e_X11_law_78 (by decide) ?_
                  refine g_lsub [0] [(0, .ref (ad 0))] rfl ?_
                  exact J82 F74 R75 1 oF74 fF74 oR75 fR75 wTF74 wCF74 (jv_w (jv_k (x := 1) 1 (by decide)) (by decide)) (by have q0 := (jv_k (x := 1) 1 (by decide)).1; have q1 := (jv_k (x := 1) 1 (by decide)).2; have q2 := p55.1; have q3 := p55.2; have q4 := p56.1; have q5 := p56.2; have q6 := (g_ok_g oF21 7 rfl).1; have q7 := (g_ok_g oF21 7 rfl).2; have q8 := (g_ok_g oF62 1 rfl).1; have q9 := (g_ok_g oF62 1 rfl).2; have q10 := (g_ok_g oF62 7 rfl).1; have q11 := (g_ok_g oF62 7 rfl).2; have q12 := (g_ok_g oF74 1 rfl).1; have q13 := (g_ok_g oF74 1 rfl).2; have q14 := (g_ok_g oF74 7 rfl).1; have q15 := (g_ok_g oF74 7 rfl).2; have q16 := cp46; have q17 := (gc_nle zc54); have q18 := zx60; have q19 := (zx61 zc67); have q20 := (congrArg Int32.toInt (show F62 25 = F21 25 from (cF62 25 rfl))); have q21 := cpk79; have q22 := upk79; omega) ((fun _ => ⟨wdk79, cpk79⟩))
      refine g_lsub [1, 0] [(0, .ref (ad 0)), (2, .int r14)] rfl ?_
      exact J46 _ F18 R19 r14 oF18 fF18 oR19 fR19 wTF18 wCF18 pr14 ((fun h0 => ⟨(zx17 h0).1, (zx17 h0).2.1⟩)) (Nat.lt_succ_self _)
    · have p80 := gn_lt 0 199 (gc_nle zc8) (g_ok_g hI 0 rfl) p7 (by decide)
      refine g_lsub [] [] rfl ?_
      exact J19  
