def S_table (a b : Int32) : Int32 := if g_in a 10 200 = 0 then 0 else if g_in b 0 63 = 0 then 0 else 1
theorem d_X10_table_0 : g_dc cX10_table 0 (.iload_n 1) 1 1 := ⟨by decide +kernel, rfl⟩
theorem d_X10_table_1 : g_dc cX10_table 1 (.bipush 10) 2 3 := ⟨by decide +kernel, rfl⟩
theorem d_X10_table_3 : g_dc cX10_table 3 (.sipush 200) 3 6 := ⟨by decide +kernel, rfl⟩
theorem d_X10_table_6 : g_dc cX10_table 6 (.invokestatic 82) 3 9 := ⟨by decide +kernel, rfl⟩
theorem d_X10_table_9 : g_dc cX10_table 9 (.ifCond .eq 13) 3 12 := ⟨by decide +kernel, rfl⟩
theorem d_X10_table_12 : g_dc cX10_table 12 (.iload_n 2) 1 13 := ⟨by decide +kernel, rfl⟩
theorem d_X10_table_13 : g_dc cX10_table 13 (.iconst 0) 1 14 := ⟨by decide +kernel, rfl⟩
theorem d_X10_table_14 : g_dc cX10_table 14 (.bipush 63) 2 16 := ⟨by decide +kernel, rfl⟩
theorem d_X10_table_16 : g_dc cX10_table 16 (.invokestatic 82) 3 19 := ⟨by decide +kernel, rfl⟩
theorem d_X10_table_19 : g_dc cX10_table 19 (.ifCond .ne 5) 3 22 := ⟨by decide +kernel, rfl⟩
theorem d_X10_table_22 : g_dc cX10_table 22 (.iconst 0) 1 23 := ⟨by decide +kernel, rfl⟩
theorem d_X10_table_23 : g_dc cX10_table 23 (.ireturn) 1 24 := ⟨by decide +kernel, rfl⟩
theorem d_X10_table_24 : g_dc cX10_table 24 (.aload_n 0) 1 25 := ⟨by decide +kernel, rfl⟩
theorem d_X10_table_25 : g_dc cX10_table 25 (.getfield 10) 3 28 := ⟨by decide +kernel, rfl⟩
theorem d_X10_table_28 : g_dc cX10_table 28 (.iload_n 1) 1 29 := ⟨by decide +kernel, rfl⟩
theorem d_X10_table_29 : g_dc cX10_table 29 (.putfield 86) 3 32 := ⟨by decide +kernel, rfl⟩
theorem d_X10_table_32 : g_dc cX10_table 32 (.aload_n 0) 1 33 := ⟨by decide +kernel, rfl⟩
theorem d_X10_table_33 : g_dc cX10_table 33 (.getfield 10) 3 36 := ⟨by decide +kernel, rfl⟩
theorem d_X10_table_36 : g_dc cX10_table 36 (.iload_n 1) 1 37 := ⟨by decide +kernel, rfl⟩
theorem d_X10_table_37 : g_dc cX10_table 37 (.putfield 89) 3 40 := ⟨by decide +kernel, rfl⟩
theorem d_X10_table_40 : g_dc cX10_table 40 (.aload_n 0) 1 41 := ⟨by decide +kernel, rfl⟩
theorem d_X10_table_41 : g_dc cX10_table 41 (.getfield 10) 3 44 := ⟨by decide +kernel, rfl⟩
theorem d_X10_table_44 : g_dc cX10_table 44 (.iload_n 2) 1 45 := ⟨by decide +kernel, rfl⟩
theorem d_X10_table_45 : g_dc cX10_table 45 (.putfield 92) 3 48 := ⟨by decide +kernel, rfl⟩
theorem d_X10_table_48 : g_dc cX10_table 48 (.aload_n 0) 1 49 := ⟨by decide +kernel, rfl⟩
theorem d_X10_table_49 : g_dc cX10_table 49 (.getfield 10) 3 52 := ⟨by decide +kernel, rfl⟩
theorem d_X10_table_52 : g_dc cX10_table 52 (.iconst 0) 1 53 := ⟨by decide +kernel, rfl⟩
theorem d_X10_table_53 : g_dc cX10_table 53 (.putfield 95) 3 56 := ⟨by decide +kernel, rfl⟩
theorem d_X10_table_56 : g_dc cX10_table 56 (.iconst 1) 1 57 := ⟨by decide +kernel, rfl⟩
theorem d_X10_table_57 : g_dc cX10_table 57 (.ireturn) 1 58 := ⟨by decide +kernel, rfl⟩
set_option maxHeartbeats 4000000 in
set_option maxRecDepth 100000 in
theorem c_X10_table (l : Launch) (X : gX) (ad : Nat → Nat) (F : Nat → Int32) (R : Nat → Nat → Int32) (hI : IX F) (a b : Int32) : g_Ci l X yX10_table cX10_table 3 (some .boolean) 2 0 0 [.ref (ad 0), .int a, .int b] (wX X ad F R) (fun r w => ∃ (F' : Nat → Int32) (R' : Nat → Nat → Int32), w = wX X ad F' R' ∧ IX F' ∧ F' 48 = F 48 ∧ F' 11 = F 11 ∧ r = S_table a b) := by
  refine g_mi (by decide +kernel) (Nat.le_of_ble_eq_true rfl) (fun E cx hret => ?_)
  refine g_iload_n cx 1 rfl d_X10_table_0 ?_
  refine g_bipush cx 10 (by decide) d_X10_table_1 ?_
  refine g_sipush cx 200 (by decide) d_X10_table_3 ?_
  refine g_cSiW cx [.int a, .int 10, .int 200] [] (c_X10_within l X _ a 10 200) ml_X10_82 yS_X10_within rfl d_X10_table_6 (by unfold g_rr; decide) (by decide) rfl (Nat.le_of_ble_eq_true rfl) (fun r1 w2 h3 => ?_)
  obtain ⟨rfl, rfl⟩ := h3
  refine g_if_eq cx 22 d_X10_table_9 (by decide) (fun zc9 => ?_) (fun zc9 => ?_)
  · refine g_iconst cx 0 (by decide) d_X10_table_22 ?_
    exact hret d_X10_table_23 (Nat.le_of_ble_eq_true rfl) (Nat.le_of_ble_eq_true rfl) rfl ⟨F, R, rfl, hI, rfl, rfl, by simp [S_table, *]⟩
  · refine g_iload_n cx 2 rfl d_X10_table_12 ?_
    refine g_iconst cx 0 (by decide) d_X10_table_13 ?_
    refine g_bipush cx 63 (by decide) d_X10_table_14 ?_
    refine g_cSiW cx [.int b, .int 0, .int 63] [] (c_X10_within l X _ b 0 63) ml_X10_82 yS_X10_within rfl d_X10_table_16 (by unfold g_rr; decide) (by decide) rfl (Nat.le_of_ble_eq_true rfl) (fun r4 w5 h6 => ?_)
    obtain ⟨rfl, rfl⟩ := h6
    refine g_if_ne cx 24 d_X10_table_19 (by decide) (fun zc19 => ?_) (fun zc19 => ?_)
    · refine g_aload_n cx 0 rfl d_X10_table_24 ?_
      refine g_get cx cl_X10 fl_X10_10 0 (.ref (ad 1)) d_X10_table_25 rfl rfl ?_
      refine g_iload_n cx 1 rfl d_X10_table_28 ?_
      refine g_putN cx cl_X8 fn_X10_86 1 (wX X ad (upd F 16 a) R) d_X10_table_29 rfl rfl rfl rfl (Nat.le_of_ble_eq_true rfl) rfl ?_
      obtain ⟨zF7, hzF7⟩ : ∃ z, z = (upd F 16 a) := ⟨_, rfl⟩
      rw [← hzF7]
      have hIzF7 : IX zF7 := by rw [hzF7]; exact IX_u (hI) rfl
      refine g_aload_n cx 0 rfl d_X10_table_32 ?_
      refine g_get cx cl_X10 fl_X10_10 0 (.ref (ad 1)) d_X10_table_33 rfl rfl ?_
      refine g_iload_n cx 1 rfl d_X10_table_36 ?_
      refine g_putN cx cl_X8 fn_X10_89 1 (wX X ad (upd zF7 17 a) R) d_X10_table_37 rfl rfl rfl rfl (Nat.le_of_ble_eq_true rfl) rfl ?_
      obtain ⟨zF8, hzF8⟩ : ∃ z, z = (upd zF7 17 a) := ⟨_, rfl⟩
      rw [← hzF8]
      have hIzF8 : IX zF8 := by rw [hzF8]; exact IX_u (hIzF7) rfl
      refine g_aload_n cx 0 rfl d_X10_table_40 ?_
      refine g_get cx cl_X10 fl_X10_10 0 (.ref (ad 1)) d_X10_table_41 rfl rfl ?_
      refine g_iload_n cx 2 rfl d_X10_table_44 ?_
      refine g_putN cx cl_X8 fn_X10_92 1 (wX X ad (upd zF8 18 b) R) d_X10_table_45 rfl rfl rfl rfl (Nat.le_of_ble_eq_true rfl) rfl ?_
      obtain ⟨zF9, hzF9⟩ : ∃ z, z = (upd zF8 18 b) := ⟨_, rfl⟩
      rw [← hzF9]
      have hIzF9 : IX zF9 := by rw [hzF9]; exact IX_u (hIzF8) rfl
      refine g_aload_n cx 0 rfl d_X10_table_48 ?_
      refine g_get cx cl_X10 fl_X10_10 0 (.ref (ad 1)) d_X10_table_49 rfl rfl ?_
      refine g_iconst cx 0 (by decide) d_X10_table_52 ?_
      refine g_putN cx cl_X8 fn_X10_95 1 (wX X ad (upd zF9 19 0) R) d_X10_table_53 rfl rfl rfl rfl (Nat.le_of_ble_eq_true rfl) rfl ?_
      obtain ⟨zF10, hzF10⟩ : ∃ z, z = (upd zF9 19 0) := ⟨_, rfl⟩
      rw [← hzF10]
      have hIzF10 : IX zF10 := by rw [hzF10]; exact IX_u (hIzF9) rfl
      refine g_iconst cx 1 (by decide) d_X10_table_56 ?_
      exact hret d_X10_table_57 (Nat.le_of_ble_eq_true rfl) (Nat.le_of_ble_eq_true rfl) rfl ⟨zF10, R, rfl, hIzF10, (by simp only [hzF7, hzF8, hzF9, hzF10] <;> rfl), (by simp only [hzF7, hzF8, hzF9, hzF10] <;> rfl), by simp [S_table, *]⟩
    · refine g_iconst cx 0 (by decide) d_X10_table_22 ?_
      exact hret d_X10_table_23 (Nat.le_of_ble_eq_true rfl) (Nat.le_of_ble_eq_true rfl) rfl ⟨F, R, rfl, hI, rfl, rfl, by simp [S_table, *]⟩
theorem d_X10_cloth_0 : g_dc cX10_cloth 0 (.iload_n 1) 1 1 := ⟨by decide +kernel, rfl⟩
theorem d_X10_cloth_1 : g_dc cX10_cloth 1 (.iconst 0) 1 2 := ⟨by decide +kernel, rfl⟩
theorem d_X10_cloth_2 : g_dc cX10_cloth 2 (.aload_n 0) 1 3 := ⟨by decide +kernel, rfl⟩
theorem d_X10_cloth_3 : g_dc cX10_cloth 3 (.getfield 10) 3 6 := ⟨by decide +kernel, rfl⟩
theorem d_X10_cloth_6 : g_dc cX10_cloth 6 (.getfield 86) 3 9 := ⟨by decide +kernel, rfl⟩
theorem d_X10_cloth_9 : g_dc cX10_cloth 9 (.invokestatic 82) 3 12 := ⟨by decide +kernel, rfl⟩
theorem d_X10_cloth_12 : g_dc cX10_cloth 12 (.ifCond .ne 5) 3 15 := ⟨by decide +kernel, rfl⟩
theorem d_X10_cloth_15 : g_dc cX10_cloth 15 (.iconst 0) 1 16 := ⟨by decide +kernel, rfl⟩
theorem d_X10_cloth_16 : g_dc cX10_cloth 16 (.ireturn) 1 17 := ⟨by decide +kernel, rfl⟩
theorem d_X10_cloth_17 : g_dc cX10_cloth 17 (.aload_n 0) 1 18 := ⟨by decide +kernel, rfl⟩
theorem d_X10_cloth_18 : g_dc cX10_cloth 18 (.getfield 10) 3 21 := ⟨by decide +kernel, rfl⟩
theorem d_X10_cloth_21 : g_dc cX10_cloth 21 (.iload_n 1) 1 22 := ⟨by decide +kernel, rfl⟩
theorem d_X10_cloth_22 : g_dc cX10_cloth 22 (.putfield 89) 3 25 := ⟨by decide +kernel, rfl⟩
theorem d_X10_cloth_25 : g_dc cX10_cloth 25 (.iconst 1) 1 26 := ⟨by decide +kernel, rfl⟩
theorem d_X10_cloth_26 : g_dc cX10_cloth 26 (.ireturn) 1 27 := ⟨by decide +kernel, rfl⟩
set_option maxHeartbeats 4000000 in
set_option maxRecDepth 100000 in
theorem c_X10_cloth (l : Launch) (X : gX) (ad : Nat → Nat) (F : Nat → Int32) (R : Nat → Nat → Int32) (hI : IX F) (a : Int32) : g_Ci l X yX10_cloth cX10_cloth 2 (some .boolean) 3 0 0 [.ref (ad 0), .int a] (wX X ad F R) (fun r w => ∃ (F' : Nat → Int32) (R' : Nat → Nat → Int32), w = wX X ad F' R' ∧ IX F' ∧ KX F F') := by
  refine g_mi (by decide +kernel) (Nat.le_of_ble_eq_true rfl) (fun E cx hret => ?_)
  refine g_iload_n cx 1 rfl d_X10_cloth_0 ?_
  refine g_iconst cx 0 (by decide) d_X10_cloth_1 ?_
  refine g_aload_n cx 0 rfl d_X10_cloth_2 ?_
  refine g_get cx cl_X10 fl_X10_10 0 (.ref (ad 1)) d_X10_cloth_3 rfl rfl ?_
  refine g_getN cx cl_X8 fn_X10_86 1 (.int (F 16)) d_X10_cloth_6 rfl rfl ?_
  refine g_cSiW cx [.int a, .int 0, .int (F 16)] [] (c_X10_within l X _ a 0 (F 16)) ml_X10_82 yS_X10_within rfl d_X10_cloth_9 (by unfold g_rr; decide) (by decide) rfl (Nat.le_of_ble_eq_true rfl) (fun r1 w2 h3 => ?_)
  obtain ⟨rfl, rfl⟩ := h3
  refine g_if_ne cx 17 d_X10_cloth_12 (by decide) (fun zc12 => ?_) (fun zc12 => ?_)
  · refine g_aload_n cx 0 rfl d_X10_cloth_17 ?_
    refine g_get cx cl_X10 fl_X10_10 0 (.ref (ad 1)) d_X10_cloth_18 rfl rfl ?_
    refine g_iload_n cx 1 rfl d_X10_cloth_21 ?_
    refine g_putN cx cl_X8 fn_X10_89 1 (wX X ad (upd F 17 a) R) d_X10_cloth_22 rfl rfl rfl rfl (Nat.le_of_ble_eq_true rfl) rfl ?_
    obtain ⟨zF4, hzF4⟩ : ∃ z, z = (upd F 17 a) := ⟨_, rfl⟩
    rw [← hzF4]
    have hIzF4 : IX zF4 := by rw [hzF4]; exact IX_u (hI) rfl
    have hKzF4 : KX F zF4 := by rw [hzF4]; exact KX_u (KX_rf F) rfl
    refine g_iconst cx 1 (by decide) d_X10_cloth_25 ?_
    exact hret d_X10_cloth_26 (Nat.le_of_ble_eq_true rfl) (Nat.le_of_ble_eq_true rfl) rfl ⟨zF4, R, rfl, hIzF4, hKzF4⟩
  · refine g_iconst cx 0 (by decide) d_X10_cloth_15 ?_
    exact hret d_X10_cloth_16 (Nat.le_of_ble_eq_true rfl) (Nat.le_of_ble_eq_true rfl) rfl ⟨F, R, rfl, hI, KX_rf F⟩
theorem d_X10_seed_0 : g_dc cX10_seed 0 (.iload_n 1) 1 1 := ⟨by decide +kernel, rfl⟩
theorem d_X10_seed_1 : g_dc cX10_seed 1 (.iconst 0) 1 2 := ⟨by decide +kernel, rfl⟩
theorem d_X10_seed_2 : g_dc cX10_seed 2 (.ldc_w 263) 3 5 := ⟨by decide +kernel, rfl⟩
theorem d_X10_seed_5 : g_dc cX10_seed 5 (.invokestatic 82) 3 8 := ⟨by decide +kernel, rfl⟩
theorem d_X10_seed_8 : g_dc cX10_seed 8 (.ifCond .ne 5) 3 11 := ⟨by decide +kernel, rfl⟩
theorem d_X10_seed_11 : g_dc cX10_seed 11 (.iconst 0) 1 12 := ⟨by decide +kernel, rfl⟩
theorem d_X10_seed_12 : g_dc cX10_seed 12 (.ireturn) 1 13 := ⟨by decide +kernel, rfl⟩
theorem d_X10_seed_13 : g_dc cX10_seed 13 (.aload_n 0) 1 14 := ⟨by decide +kernel, rfl⟩
theorem d_X10_seed_14 : g_dc cX10_seed 14 (.getfield 10) 3 17 := ⟨by decide +kernel, rfl⟩
theorem d_X10_seed_17 : g_dc cX10_seed 17 (.iload_n 1) 1 18 := ⟨by decide +kernel, rfl⟩
theorem d_X10_seed_18 : g_dc cX10_seed 18 (.putfield 168) 3 21 := ⟨by decide +kernel, rfl⟩
theorem d_X10_seed_21 : g_dc cX10_seed 21 (.iconst 1) 1 22 := ⟨by decide +kernel, rfl⟩
theorem d_X10_seed_22 : g_dc cX10_seed 22 (.ireturn) 1 23 := ⟨by decide +kernel, rfl⟩
set_option maxHeartbeats 4000000 in
set_option maxRecDepth 100000 in
theorem c_X10_seed (l : Launch) (X : gX) (ad : Nat → Nat) (F : Nat → Int32) (R : Nat → Nat → Int32) (hI : IX F) (a : Int32) : g_Ci l X yX10_seed cX10_seed 2 (some .boolean) 3 0 0 [.ref (ad 0), .int a] (wX X ad F R) (fun r w => ∃ (F' : Nat → Int32) (R' : Nat → Nat → Int32), w = wX X ad F' R' ∧ IX F' ∧ KX F F') := by
  refine g_mi (by decide +kernel) (Nat.le_of_ble_eq_true rfl) (fun E cx hret => ?_)
  refine g_iload_n cx 1 rfl d_X10_seed_0 ?_
  refine g_iconst cx 0 (by decide) d_X10_seed_1 ?_
  refine g_ldcw cx 65535 kc_X10_263 d_X10_seed_2 ?_
  refine g_cSiW cx [.int a, .int 0, .int 65535] [] (c_X10_within l X _ a 0 65535) ml_X10_82 yS_X10_within rfl d_X10_seed_5 (by unfold g_rr; decide) (by decide) rfl (Nat.le_of_ble_eq_true rfl) (fun r1 w2 h3 => ?_)
  obtain ⟨rfl, rfl⟩ := h3
  refine g_if_ne cx 13 d_X10_seed_8 (by decide) (fun zc8 => ?_) (fun zc8 => ?_)
  · refine g_aload_n cx 0 rfl d_X10_seed_13 ?_
    refine g_get cx cl_X10 fl_X10_10 0 (.ref (ad 1)) d_X10_seed_14 rfl rfl ?_
    refine g_iload_n cx 1 rfl d_X10_seed_17 ?_
    refine g_putN cx cl_X8 fn_X10_168 1 (wX X ad (upd F 20 a) R) d_X10_seed_18 rfl rfl rfl rfl (Nat.le_of_ble_eq_true rfl) rfl ?_
    obtain ⟨zF4, hzF4⟩ : ∃ z, z = (upd F 20 a) := ⟨_, rfl⟩
    rw [← hzF4]
    have hIzF4 : IX zF4 := by rw [hzF4]; exact IX_u (hI) rfl
    have hKzF4 : KX F zF4 := by rw [hzF4]; exact KX_u (KX_rf F) rfl
    refine g_iconst cx 1 (by decide) d_X10_seed_21 ?_
    exact hret d_X10_seed_22 (Nat.le_of_ble_eq_true rfl) (Nat.le_of_ble_eq_true rfl) rfl ⟨zF4, R, rfl, hIzF4, hKzF4⟩
  · refine g_iconst cx 0 (by decide) d_X10_seed_11 ?_
    exact hret d_X10_seed_12 (Nat.le_of_ble_eq_true rfl) (Nat.le_of_ble_eq_true rfl) rfl ⟨F, R, rfl, hI, KX_rf F⟩
