def LK_wX : List (Nat × Int × Int) := [(11, 0, 1), (145, 0, 220), (177, 0, 60), (209, 0, 60), (241, 0, 60), (274, 0, 256), (402, 0, 256), (278, 0, 14), (406, 0, 14), (755, 0, 5)]
def LA_wX : List (Nat × Nat × Int × Int) := []
def S_table (a b : Int32) : Int32 := if g_in a 10 200 = 0 then 0 else if g_in b 0 63 = 0 then 0 else 1
def K_X10_table_22 (F : Nat → Int32) (R : Nat → Nat → Int32)  : Int32 × (Nat → Int32) × (Nat → Nat → Int32) :=
  (0, F, R)
def sp_X10_table (F : Nat → Int32) (R : Nat → Nat → Int32) (a0 : Int32) (a1 : Int32) : Int32 × (Nat → Int32) × (Nat → Nat → Int32) :=
  k_lt (g_in a0 10 200) (fun r1 => if r1 = 0 then K_X10_table_22 F R else k_lt (g_in a1 0 63) (fun r11 => if r11 = 0 then K_X10_table_22 F R else k_lt (upd F 16 a0) (fun F19 => k_lt (upd F19 17 a0) (fun F21 => k_lt (upd F21 18 a1) (fun F23 => k_lt (upd F23 19 0) (fun F25 => (1, F25, R)))))))
theorem e_X10_table_0 : g_dc cX10_table 0 (.iload_n 1) 1 1 := ⟨by decide +kernel, rfl⟩
theorem e_X10_table_1 : g_dc cX10_table 1 (.bipush 10) 2 3 := ⟨by decide +kernel, rfl⟩
theorem e_X10_table_3 : g_dc cX10_table 3 (.sipush 200) 3 6 := ⟨by decide +kernel, rfl⟩
theorem e_X10_table_6 : g_dc cX10_table 6 (.invokestatic 82) 3 9 := ⟨by decide +kernel, rfl⟩
theorem e_X10_table_9 : g_dc cX10_table 9 (.ifCond .eq 13) 3 12 := ⟨by decide +kernel, rfl⟩
theorem e_X10_table_12 : g_dc cX10_table 12 (.iload_n 2) 1 13 := ⟨by decide +kernel, rfl⟩
theorem e_X10_table_13 : g_dc cX10_table 13 (.iconst 0) 1 14 := ⟨by decide +kernel, rfl⟩
theorem e_X10_table_14 : g_dc cX10_table 14 (.bipush 63) 2 16 := ⟨by decide +kernel, rfl⟩
theorem e_X10_table_16 : g_dc cX10_table 16 (.invokestatic 82) 3 19 := ⟨by decide +kernel, rfl⟩
theorem e_X10_table_19 : g_dc cX10_table 19 (.ifCond .ne 5) 3 22 := ⟨by decide +kernel, rfl⟩
theorem e_X10_table_22 : g_dc cX10_table 22 (.iconst 0) 1 23 := ⟨by decide +kernel, rfl⟩
theorem e_X10_table_23 : g_dc cX10_table 23 (.ireturn) 1 24 := ⟨by decide +kernel, rfl⟩
theorem e_X10_table_24 : g_dc cX10_table 24 (.aload_n 0) 1 25 := ⟨by decide +kernel, rfl⟩
theorem e_X10_table_25 : g_dc cX10_table 25 (.getfield 10) 3 28 := ⟨by decide +kernel, rfl⟩
theorem e_X10_table_28 : g_dc cX10_table 28 (.iload_n 1) 1 29 := ⟨by decide +kernel, rfl⟩
theorem e_X10_table_29 : g_dc cX10_table 29 (.putfield 86) 3 32 := ⟨by decide +kernel, rfl⟩
theorem e_X10_table_32 : g_dc cX10_table 32 (.aload_n 0) 1 33 := ⟨by decide +kernel, rfl⟩
theorem e_X10_table_33 : g_dc cX10_table 33 (.getfield 10) 3 36 := ⟨by decide +kernel, rfl⟩
theorem e_X10_table_36 : g_dc cX10_table 36 (.iload_n 1) 1 37 := ⟨by decide +kernel, rfl⟩
theorem e_X10_table_37 : g_dc cX10_table 37 (.putfield 89) 3 40 := ⟨by decide +kernel, rfl⟩
theorem e_X10_table_40 : g_dc cX10_table 40 (.aload_n 0) 1 41 := ⟨by decide +kernel, rfl⟩
theorem e_X10_table_41 : g_dc cX10_table 41 (.getfield 10) 3 44 := ⟨by decide +kernel, rfl⟩
theorem e_X10_table_44 : g_dc cX10_table 44 (.iload_n 2) 1 45 := ⟨by decide +kernel, rfl⟩
theorem e_X10_table_45 : g_dc cX10_table 45 (.putfield 92) 3 48 := ⟨by decide +kernel, rfl⟩
theorem e_X10_table_48 : g_dc cX10_table 48 (.aload_n 0) 1 49 := ⟨by decide +kernel, rfl⟩
theorem e_X10_table_49 : g_dc cX10_table 49 (.getfield 10) 3 52 := ⟨by decide +kernel, rfl⟩
theorem e_X10_table_52 : g_dc cX10_table 52 (.iconst 0) 1 53 := ⟨by decide +kernel, rfl⟩
theorem e_X10_table_53 : g_dc cX10_table 53 (.putfield 95) 3 56 := ⟨by decide +kernel, rfl⟩
theorem e_X10_table_56 : g_dc cX10_table 56 (.iconst 1) 1 57 := ⟨by decide +kernel, rfl⟩
theorem e_X10_table_57 : g_dc cX10_table 57 (.ireturn) 1 58 := ⟨by decide +kernel, rfl⟩
def md_X10_table : List Nat := [16, 17, 18, 19]
def mr_X10_table : List Nat := []
set_option maxHeartbeats 4000000 in
set_option maxRecDepth 100000 in
theorem w_X10_table (l : Launch) (X : gX) (ad : Nat → Nat) (F : Nat → Int32) (R : Nat → Nat → Int32) (hI : g_ok LK_wX F) (hA : g_okR LA_wX R) (a0 : Int32) (a1 : Int32) : g_Ci l X yX10_table cX10_table 3 (some .boolean) 2 0 0 [.ref (ad 0), .int a0, .int a1] (wX X ad F R) (fun r w => ∃ (F' : Nat → Int32) (R' : Nat → Nat → Int32), w = wX X ad F' R' ∧ g_ok LK_wX F' ∧ g_okR LA_wX R' ∧ g_fr md_X10_table F F' ∧ g_fr mr_X10_table R R' ∧ jv 0 1 r ∧ (r, F', R') = sp_X10_table F R a0 a1) := by
  refine g_mi (by decide +kernel) (Nat.le_of_ble_eq_true rfl) (fun E cx hret => ?_)
  obtain ⟨SP, hSP⟩ : ∃ z, z = sp_X10_table F R a0 a1 := ⟨_, rfl⟩
  have hk0 := hSP
  unfold sp_X10_table at hk0
  refine g_iload_n cx 1 rfl e_X10_table_0 ?_
  refine g_bipush cx 10 (by decide) e_X10_table_1 ?_
  refine g_sipush cx 200 (by decide) e_X10_table_3 ?_
  refine g_cSiW cx [.int a0, .int 10, .int 200] [] (c_X10_within l X (wX X ad F R) a0 10 200) ml_X10_82 yS_X10_within rfl e_X10_table_6 (by unfold g_rr; decide) (by decide) rfl (Nat.le_of_ble_eq_true rfl) (fun r1 w2 h3 => ?_)
  obtain ⟨rfl, hr1⟩ := h3
  have pr1 : jv 0 1 r1 := by rw [hr1]; exact gi_01 _ _ _
  have hk4 := k_ls hk0 hr1
  have J22 : (SP = K_X10_table_22 F R) → G X E 3 0 0 (wX X ad F R) [] 22 [] := by
    intro   hkJ22
    unfold K_X10_table_22 at hkJ22
    refine g_iconst cx 0 (by decide) e_X10_table_22 ?_
    exact hret e_X10_table_23 (Nat.le_of_ble_eq_true rfl) (Nat.le_of_ble_eq_true rfl) rfl ⟨F, R, rfl, hI, hA, (g_fr_rf F), (g_fr_rf R), (jv_w (jv_k (x := 0) 0 (by decide)) (by decide)), (hkJ22.symm.trans hSP)⟩
  refine g_if_eq cx 22 e_X10_table_9 (by decide) (fun zc5 => ?_) (fun zc5 => ?_)
  · have p6 := gn_eq 0 0 (gc_eq zc5) pr1 (jv_k (x := 0) 0 (by decide)) (by decide)
    have hk7 := hk4.trans (if_pos zc5)
    refine g_lsub [] [] rfl ?_
    exact J22  hk7
  · have p8 := gn_neL 1 1 (gc_ne zc5) pr1 (jv_k (x := 0) 0 (by decide)) (by decide)
    have p9 := jv_i 10 200 (jv_t a0) (gi_in (A := 10) (B := 200) hr1 zc5 (by decide) (by decide)) (by decide)
    have hk10 := hk4.trans (if_neg zc5)
    refine g_iload_n cx 2 rfl e_X10_table_12 ?_
    refine g_iconst cx 0 (by decide) e_X10_table_13 ?_
    refine g_bipush cx 63 (by decide) e_X10_table_14 ?_
    refine g_cSiW cx [.int a1, .int 0, .int 63] [] (c_X10_within l X (wX X ad F R) a1 0 63) ml_X10_82 yS_X10_within rfl e_X10_table_16 (by unfold g_rr; decide) (by decide) rfl (Nat.le_of_ble_eq_true rfl) (fun r11 w12 h13 => ?_)
    obtain ⟨rfl, hr11⟩ := h13
    have pr11 : jv 0 1 r11 := by rw [hr11]; exact gi_01 _ _ _
    have hk14 := k_ls hk10 hr11
    refine g_if_ne cx 24 e_X10_table_19 (by decide) (fun zc15 => ?_) (fun zc15 => ?_)
    · have p16 := gn_neL 1 1 (gc_ne zc15) pr11 (jv_k (x := 0) 0 (by decide)) (by decide)
      have p17 := jv_i 0 63 (jv_t a1) (gi_in (A := 0) (B := 63) hr11 zc15 (by decide) (by decide)) (by decide)
      have hk18 := hk14.trans (if_neg zc15)
      refine g_aload_n cx 0 rfl e_X10_table_24 ?_
      refine g_get cx cl_X10 fl_X10_10 0 (.ref (ad 1)) e_X10_table_25 rfl rfl ?_
      refine g_iload_n cx 1 rfl e_X10_table_28 ?_
      refine g_putN cx cl_X8 fn_X10_86 1 (wX X ad (upd F 16 a0) R) e_X10_table_29 rfl rfl rfl rfl (Nat.le_of_ble_eq_true rfl) rfl ?_
      obtain ⟨F19, hF19⟩ : ∃ z, z = upd F 16 a0 := ⟨_, rfl⟩
      rw [← hF19]
      have hk20 := k_ls hk18 hF19
      have oF19 : g_ok LK_wX F19 := by rw [hF19]; exact g_ok_u hI rfl
      have fF19 : g_fr md_X10_table F F19 := by rw [hF19]; exact g_fr_u (g_fr_rf F) rfl
      refine g_aload_n cx 0 rfl e_X10_table_32 ?_
      refine g_get cx cl_X10 fl_X10_10 0 (.ref (ad 1)) e_X10_table_33 rfl rfl ?_
      refine g_iload_n cx 1 rfl e_X10_table_36 ?_
      refine g_putN cx cl_X8 fn_X10_89 1 (wX X ad (upd F19 17 a0) R) e_X10_table_37 rfl rfl rfl rfl (Nat.le_of_ble_eq_true rfl) rfl ?_
      obtain ⟨F21, hF21⟩ : ∃ z, z = upd F19 17 a0 := ⟨_, rfl⟩
      rw [← hF21]
      have hk22 := k_ls hk20 hF21
      have oF21 : g_ok LK_wX F21 := by rw [hF21]; exact g_ok_u oF19 rfl
      have fF21 : g_fr md_X10_table F F21 := by rw [hF21]; exact g_fr_u fF19 rfl
      refine g_aload_n cx 0 rfl e_X10_table_40 ?_
      refine g_get cx cl_X10 fl_X10_10 0 (.ref (ad 1)) e_X10_table_41 rfl rfl ?_
      refine g_iload_n cx 2 rfl e_X10_table_44 ?_
      refine g_putN cx cl_X8 fn_X10_92 1 (wX X ad (upd F21 18 a1) R) e_X10_table_45 rfl rfl rfl rfl (Nat.le_of_ble_eq_true rfl) rfl ?_
      obtain ⟨F23, hF23⟩ : ∃ z, z = upd F21 18 a1 := ⟨_, rfl⟩
      rw [← hF23]
      have hk24 := k_ls hk22 hF23
      have oF23 : g_ok LK_wX F23 := by rw [hF23]; exact g_ok_u oF21 rfl
      have fF23 : g_fr md_X10_table F F23 := by rw [hF23]; exact g_fr_u fF21 rfl
      refine g_aload_n cx 0 rfl e_X10_table_48 ?_
      refine g_get cx cl_X10 fl_X10_10 0 (.ref (ad 1)) e_X10_table_49 rfl rfl ?_
      refine g_iconst cx 0 (by decide) e_X10_table_52 ?_
      refine g_putN cx cl_X8 fn_X10_95 1 (wX X ad (upd F23 19 0) R) e_X10_table_53 rfl rfl rfl rfl (Nat.le_of_ble_eq_true rfl) rfl ?_
      obtain ⟨F25, hF25⟩ : ∃ z, z = upd F23 19 0 := ⟨_, rfl⟩
      rw [← hF25]
      have hk26 := k_ls hk24 hF25
      have oF25 : g_ok LK_wX F25 := by rw [hF25]; exact g_ok_u oF23 rfl
      have fF25 : g_fr md_X10_table F F25 := by rw [hF25]; exact g_fr_u fF23 rfl
      refine g_iconst cx 1 (by decide) e_X10_table_56 ?_
      exact hret e_X10_table_57 (Nat.le_of_ble_eq_true rfl) (Nat.le_of_ble_eq_true rfl) rfl ⟨F25, R, rfl, oF25, hA, fF25, (g_fr_rf R), (jv_w (jv_k (x := 1) 1 (by decide)) (by decide)), (hk26.symm.trans hSP)⟩
    · have p27 := gn_eq 0 0 (gc_eq zc15) pr11 (jv_k (x := 0) 0 (by decide)) (by decide)
      have hk28 := hk14.trans (if_pos zc15)
      refine g_lsub [] [] rfl ?_
      exact J22  hk28
def sp_X10_cloth (F : Nat → Int32) (R : Nat → Nat → Int32) (a0 : Int32) : Int32 × (Nat → Int32) × (Nat → Nat → Int32) :=
  k_lt (g_in a0 0 (F 16)) (fun r1 => if r1 = 0 then (0, F, R) else k_lt (upd F 17 a0) (fun F8 => (1, F8, R)))
theorem e_X10_cloth_0 : g_dc cX10_cloth 0 (.iload_n 1) 1 1 := ⟨by decide +kernel, rfl⟩
theorem e_X10_cloth_1 : g_dc cX10_cloth 1 (.iconst 0) 1 2 := ⟨by decide +kernel, rfl⟩
theorem e_X10_cloth_2 : g_dc cX10_cloth 2 (.aload_n 0) 1 3 := ⟨by decide +kernel, rfl⟩
theorem e_X10_cloth_3 : g_dc cX10_cloth 3 (.getfield 10) 3 6 := ⟨by decide +kernel, rfl⟩
theorem e_X10_cloth_6 : g_dc cX10_cloth 6 (.getfield 86) 3 9 := ⟨by decide +kernel, rfl⟩
theorem e_X10_cloth_9 : g_dc cX10_cloth 9 (.invokestatic 82) 3 12 := ⟨by decide +kernel, rfl⟩
theorem e_X10_cloth_12 : g_dc cX10_cloth 12 (.ifCond .ne 5) 3 15 := ⟨by decide +kernel, rfl⟩
theorem e_X10_cloth_15 : g_dc cX10_cloth 15 (.iconst 0) 1 16 := ⟨by decide +kernel, rfl⟩
theorem e_X10_cloth_16 : g_dc cX10_cloth 16 (.ireturn) 1 17 := ⟨by decide +kernel, rfl⟩
theorem e_X10_cloth_17 : g_dc cX10_cloth 17 (.aload_n 0) 1 18 := ⟨by decide +kernel, rfl⟩
theorem e_X10_cloth_18 : g_dc cX10_cloth 18 (.getfield 10) 3 21 := ⟨by decide +kernel, rfl⟩
theorem e_X10_cloth_21 : g_dc cX10_cloth 21 (.iload_n 1) 1 22 := ⟨by decide +kernel, rfl⟩
theorem e_X10_cloth_22 : g_dc cX10_cloth 22 (.putfield 89) 3 25 := ⟨by decide +kernel, rfl⟩
theorem e_X10_cloth_25 : g_dc cX10_cloth 25 (.iconst 1) 1 26 := ⟨by decide +kernel, rfl⟩
theorem e_X10_cloth_26 : g_dc cX10_cloth 26 (.ireturn) 1 27 := ⟨by decide +kernel, rfl⟩
def md_X10_cloth : List Nat := [17]
def mr_X10_cloth : List Nat := []
set_option maxHeartbeats 4000000 in
set_option maxRecDepth 100000 in
theorem w_X10_cloth (l : Launch) (X : gX) (ad : Nat → Nat) (F : Nat → Int32) (R : Nat → Nat → Int32) (hI : g_ok LK_wX F) (hA : g_okR LA_wX R) (a0 : Int32) : g_Ci l X yX10_cloth cX10_cloth 2 (some .boolean) 2 0 0 [.ref (ad 0), .int a0] (wX X ad F R) (fun r w => ∃ (F' : Nat → Int32) (R' : Nat → Nat → Int32), w = wX X ad F' R' ∧ g_ok LK_wX F' ∧ g_okR LA_wX R' ∧ g_fr md_X10_cloth F F' ∧ g_fr mr_X10_cloth R R' ∧ jv 0 1 r ∧ (r, F', R') = sp_X10_cloth F R a0) := by
  refine g_mi (by decide +kernel) (Nat.le_of_ble_eq_true rfl) (fun E cx hret => ?_)
  obtain ⟨SP, hSP⟩ : ∃ z, z = sp_X10_cloth F R a0 := ⟨_, rfl⟩
  have hk0 := hSP
  unfold sp_X10_cloth at hk0
  refine g_iload_n cx 1 rfl e_X10_cloth_0 ?_
  refine g_iconst cx 0 (by decide) e_X10_cloth_1 ?_
  refine g_aload_n cx 0 rfl e_X10_cloth_2 ?_
  refine g_get cx cl_X10 fl_X10_10 0 (.ref (ad 1)) e_X10_cloth_3 rfl rfl ?_
  refine g_getN cx cl_X8 fn_X10_86 1 (.int (F 16)) e_X10_cloth_6 rfl rfl ?_
  refine g_cSiW cx [.int a0, .int 0, .int (F 16)] [] (c_X10_within l X (wX X ad F R) a0 0 (F 16)) ml_X10_82 yS_X10_within rfl e_X10_cloth_9 (by unfold g_rr; decide) (by decide) rfl (Nat.le_of_ble_eq_true rfl) (fun r1 w2 h3 => ?_)
  obtain ⟨rfl, hr1⟩ := h3
  have pr1 : jv 0 1 r1 := by rw [hr1]; exact gi_01 _ _ _
  have hk4 := k_ls hk0 hr1
  refine g_if_ne cx 17 e_X10_cloth_12 (by decide) (fun zc5 => ?_) (fun zc5 => ?_)
  · have p6 := gn_neL 1 1 (gc_ne zc5) pr1 (jv_k (x := 0) 0 (by decide)) (by decide)
    have hk7 := hk4.trans (if_neg zc5)
    refine g_aload_n cx 0 rfl e_X10_cloth_17 ?_
    refine g_get cx cl_X10 fl_X10_10 0 (.ref (ad 1)) e_X10_cloth_18 rfl rfl ?_
    refine g_iload_n cx 1 rfl e_X10_cloth_21 ?_
    refine g_putN cx cl_X8 fn_X10_89 1 (wX X ad (upd F 17 a0) R) e_X10_cloth_22 rfl rfl rfl rfl (Nat.le_of_ble_eq_true rfl) rfl ?_
    obtain ⟨F8, hF8⟩ : ∃ z, z = upd F 17 a0 := ⟨_, rfl⟩
    rw [← hF8]
    have hk9 := k_ls hk7 hF8
    have oF8 : g_ok LK_wX F8 := by rw [hF8]; exact g_ok_u hI rfl
    have fF8 : g_fr md_X10_cloth F F8 := by rw [hF8]; exact g_fr_u (g_fr_rf F) rfl
    refine g_iconst cx 1 (by decide) e_X10_cloth_25 ?_
    exact hret e_X10_cloth_26 (Nat.le_of_ble_eq_true rfl) (Nat.le_of_ble_eq_true rfl) rfl ⟨F8, R, rfl, oF8, hA, fF8, (g_fr_rf R), (jv_w (jv_k (x := 1) 1 (by decide)) (by decide)), (hk9.symm.trans hSP)⟩
  · have p10 := gn_eq 0 0 (gc_eq zc5) pr1 (jv_k (x := 0) 0 (by decide)) (by decide)
    have hk11 := hk4.trans (if_pos zc5)
    refine g_iconst cx 0 (by decide) e_X10_cloth_15 ?_
    exact hret e_X10_cloth_16 (Nat.le_of_ble_eq_true rfl) (Nat.le_of_ble_eq_true rfl) rfl ⟨F, R, rfl, hI, hA, (g_fr_rf F), (g_fr_rf R), (jv_w (jv_k (x := 0) 0 (by decide)) (by decide)), (hk11.symm.trans hSP)⟩
def K_X8_change_1_32 (F : Nat → Int32) (R5 : Nat → Nat → Int32) : (Nat → Int32) × (Nat → Nat → Int32) :=
  (F, R5)
def sp_X8_change_1 (F : Nat → Int32) (R : Nat → Nat → Int32) (a0 : Int32) (a1 : Int32) (a2 : Int32) : (Nat → Int32) × (Nat → Nat → Int32) :=
  k_lt (g_in a0 0 9) (fun r1 => if r1 = 0 then K_X8_change_1_32 F R else k_lt (g_in a1 0 7) (fun r12 => if r12 = 0 then K_X8_change_1_32 F R else k_lt (a0 * 8) (fun x22 => k_lt (x22 + a1) (fun x24 => k_lt (g_u R 2 (upd (R 2) (Int32.toNatClampNeg x24) a2)) (fun R26 => K_X8_change_1_32 F R26)))))
theorem e_X8_change_0 : g_dc cX8_change 0 (.iload_n 1) 1 1 := ⟨by decide +kernel, rfl⟩
theorem e_X8_change_1 : g_dc cX8_change 1 (.iconst 0) 1 2 := ⟨by decide +kernel, rfl⟩
theorem e_X8_change_2 : g_dc cX8_change 2 (.bipush 9) 2 4 := ⟨by decide +kernel, rfl⟩
theorem e_X8_change_4 : g_dc cX8_change 4 (.invokestatic 31) 3 7 := ⟨by decide +kernel, rfl⟩
theorem e_X8_change_7 : g_dc cX8_change 7 (.ifCond .eq 25) 3 10 := ⟨by decide +kernel, rfl⟩
theorem e_X8_change_10 : g_dc cX8_change 10 (.iload_n 2) 1 11 := ⟨by decide +kernel, rfl⟩
theorem e_X8_change_11 : g_dc cX8_change 11 (.iconst 0) 1 12 := ⟨by decide +kernel, rfl⟩
theorem e_X8_change_12 : g_dc cX8_change 12 (.bipush 7) 2 14 := ⟨by decide +kernel, rfl⟩
theorem e_X8_change_14 : g_dc cX8_change 14 (.invokestatic 31) 3 17 := ⟨by decide +kernel, rfl⟩
theorem e_X8_change_17 : g_dc cX8_change 17 (.ifCond .eq 15) 3 20 := ⟨by decide +kernel, rfl⟩
theorem e_X8_change_20 : g_dc cX8_change 20 (.aload_n 0) 1 21 := ⟨by decide +kernel, rfl⟩
theorem e_X8_change_21 : g_dc cX8_change 21 (.getfield 27) 3 24 := ⟨by decide +kernel, rfl⟩
theorem e_X8_change_24 : g_dc cX8_change 24 (.iload_n 1) 1 25 := ⟨by decide +kernel, rfl⟩
theorem e_X8_change_25 : g_dc cX8_change 25 (.bipush 8) 2 27 := ⟨by decide +kernel, rfl⟩
theorem e_X8_change_27 : g_dc cX8_change 27 (.imul) 1 28 := ⟨by decide +kernel, rfl⟩
theorem e_X8_change_28 : g_dc cX8_change 28 (.iload_n 2) 1 29 := ⟨by decide +kernel, rfl⟩
theorem e_X8_change_29 : g_dc cX8_change 29 (.iadd) 1 30 := ⟨by decide +kernel, rfl⟩
theorem e_X8_change_30 : g_dc cX8_change 30 (.iload_n 3) 1 31 := ⟨by decide +kernel, rfl⟩
theorem e_X8_change_31 : g_dc cX8_change 31 (.iastore) 1 32 := ⟨by decide +kernel, rfl⟩
theorem e_X8_change_32 : g_dc cX8_change 32 (.return_) 1 33 := ⟨by decide +kernel, rfl⟩
def md_X8_change_1 : List Nat := []
def mr_X8_change_1 : List Nat := [2]
set_option maxHeartbeats 4000000 in
set_option maxRecDepth 100000 in
theorem w_X8_change_1 (l : Launch) (X : gX) (ad : Nat → Nat) (F : Nat → Int32) (R : Nat → Nat → Int32) (hI : g_ok LK_wX F) (hA : g_okR LA_wX R) (a0 : Int32) (a1 : Int32) (a2 : Int32) : g_Cv l X yX8_change cX8_change 4 2 0 0 [.ref (ad 1), .int a0, .int a1, .int a2] (wX X ad F R) (fun w => ∃ (F' : Nat → Int32) (R' : Nat → Nat → Int32), w = wX X ad F' R' ∧ g_ok LK_wX F' ∧ g_okR LA_wX R' ∧ g_fr md_X8_change_1 F F' ∧ g_fr mr_X8_change_1 R R' ∧ (F', R') = sp_X8_change_1 F R a0 a1 a2) := by
  refine g_mv (by decide +kernel) (Nat.le_of_ble_eq_true rfl) (fun E cx hret => ?_)
  obtain ⟨SP, hSP⟩ : ∃ z, z = sp_X8_change_1 F R a0 a1 a2 := ⟨_, rfl⟩
  have hk0 := hSP
  unfold sp_X8_change_1 at hk0
  refine g_iload_n cx 1 rfl e_X8_change_0 ?_
  refine g_iconst cx 0 (by decide) e_X8_change_1 ?_
  refine g_bipush cx 9 (by decide) e_X8_change_2 ?_
  refine g_cNiW cx [.int a0, .int 0, .int 9] [] (c_X10_within l X (wX X ad F R) a0 0 9) mn_X8_31 yS_X10_within e_X8_change_4 (by unfold g_rr; decide) (by decide) rfl (Nat.le_of_ble_eq_true rfl) (fun r1 w2 h3 => ?_)
  obtain ⟨rfl, hr1⟩ := h3
  have pr1 : jv 0 1 r1 := by rw [hr1]; exact gi_01 _ _ _
  have hk4 := k_ls hk0 hr1
  have J32 : ∀ (R5 : Nat → Nat → Int32), (g_okR LA_wX R5) → (g_fr mr_X8_change_1 R R5) → (SP = K_X8_change_1_32 F R5) → G X E 4 0 0 (wX X ad F R5) [] 32 [] := by
    intro R5 oR5 fR5 hkJ32
    unfold K_X8_change_1_32 at hkJ32
    exact hret e_X8_change_32 (Nat.le_of_ble_eq_true rfl) (Nat.le_of_ble_eq_true rfl) ⟨F, R5, rfl, hI, oR5, (g_fr_rf F), fR5, (hkJ32.symm.trans hSP)⟩
  refine g_if_eq cx 32 e_X8_change_7 (by decide) (fun zc6 => ?_) (fun zc6 => ?_)
  · have p7 := gn_eq 0 0 (gc_eq zc6) pr1 (jv_k (x := 0) 0 (by decide)) (by decide)
    have hk8 := hk4.trans (if_pos zc6)
    refine g_lsub [] [] rfl ?_
    exact J32 R hA (g_fr_rf R) hk8
  · have p9 := gn_neL 1 1 (gc_ne zc6) pr1 (jv_k (x := 0) 0 (by decide)) (by decide)
    have p10 := jv_i 0 9 (jv_t a0) (gi_in (A := 0) (B := 9) hr1 zc6 (by decide) (by decide)) (by decide)
    have hk11 := hk4.trans (if_neg zc6)
    refine g_iload_n cx 2 rfl e_X8_change_10 ?_
    refine g_iconst cx 0 (by decide) e_X8_change_11 ?_
    refine g_bipush cx 7 (by decide) e_X8_change_12 ?_
    refine g_cNiW cx [.int a1, .int 0, .int 7] [] (c_X10_within l X (wX X ad F R) a1 0 7) mn_X8_31 yS_X10_within e_X8_change_14 (by unfold g_rr; decide) (by decide) rfl (Nat.le_of_ble_eq_true rfl) (fun r12 w13 h14 => ?_)
    obtain ⟨rfl, hr12⟩ := h14
    have pr12 : jv 0 1 r12 := by rw [hr12]; exact gi_01 _ _ _
    have hk15 := k_ls hk11 hr12
    refine g_if_eq cx 32 e_X8_change_17 (by decide) (fun zc16 => ?_) (fun zc16 => ?_)
    · have p17 := gn_eq 0 0 (gc_eq zc16) pr12 (jv_k (x := 0) 0 (by decide)) (by decide)
      have hk18 := hk15.trans (if_pos zc16)
      refine g_lsub [] [] rfl ?_
      exact J32 R hA (g_fr_rf R) hk18
    · have p19 := gn_neL 1 1 (gc_ne zc16) pr12 (jv_k (x := 0) 0 (by decide)) (by decide)
      have p20 := jv_i 0 7 (jv_t a1) (gi_in (A := 0) (B := 7) hr12 zc16 (by decide) (by decide)) (by decide)
      have hk21 := hk15.trans (if_neg zc16)
      refine g_aload_n cx 0 rfl e_X8_change_20 ?_
      refine g_get cx cl_X8 fl_X8_27 1 (.ref (ad 2)) e_X8_change_21 rfl rfl ?_
      refine g_iload_n cx 1 rfl e_X8_change_24 ?_
      refine g_bipush cx 8 (by decide) e_X8_change_25 ?_
      refine g_imul cx e_X8_change_27 ?_
      refine g_topi (fun x22 ex22 => ?_)
      have hk23 := k_ls hk21 ex22
      have zx22 := jv_mul 0 72 ex22 p10 (jv_k (x := 8) 8 (by decide)) (by decide)
      refine g_iload_n cx 2 rfl e_X8_change_28 ?_
      refine g_iadd cx e_X8_change_29 ?_
      refine g_topi (fun x24 ex24 => ?_)
      have hk25 := k_ls hk23 ex24
      have zx24 := jv_add 0 79 ex24 zx22.2 p20 (by decide)
      refine g_iload_n cx 3 rfl e_X8_change_30 ?_
      refine g_iast cx 2 (wX X ad F (g_u R 2 (upd (R 2) (Int32.toNatClampNeg x24) a2))) e_X8_change_31 rfl (jv_ix 80 zx24.2 (by decide)) rfl ?_
      obtain ⟨R26, hR26⟩ : ∃ z, z = g_u R 2 (upd (R 2) (Int32.toNatClampNeg x24) a2) := ⟨_, rfl⟩
      rw [← hR26]
      have hk27 := k_ls hk25 hR26
      have oR26 : g_okR LA_wX R26 := by rw [hR26]; exact g_okR_u hA rfl
      have fR26 : g_fr mr_X8_change_1 R R26 := by rw [hR26]; exact g_fr_r (g_fr_rf R) rfl
      refine g_lsub [] [] rfl ?_
      exact J32 R26 oR26 fR26 hk27
def K_X10_thing_74 (F : Nat → Int32) (R : Nat → Nat → Int32) (a0 : Int32) (a1 : Int32) (a2 : Int32) (a3 : Int32) (a4 : Int32) (a5 : Int32) (y5 : Int32) : Int32 × (Nat → Int32) × (Nat → Nat → Int32) :=
  if y5 = 0 then (0, F, R) else k_lt (1 <<< (a0 &&& 31)) (fun x9 => k_lt ((F 19) ||| x9) (fun x11 => k_lt (upd F 19 x11) (fun F13 => k_lt2 (sp_X8_change_1 F13 R a0 0 a1) (fun F19 R20 => k_lt2 (sp_X8_change_1 F19 R20 a0 1 a2) (fun F26 R27 => k_lt2 (sp_X8_change_1 F26 R27 a0 2 a3) (fun F33 R34 => k_lt2 (sp_X8_change_1 F33 R34 a0 3 a4) (fun F40 R41 => k_lt2 (sp_X8_change_1 F40 R41 a0 4 a5) (fun F47 R48 => k_lt2 (sp_X8_change_1 F47 R48 a0 5 0) (fun F54 R55 => k_lt2 (sp_X8_change_1 F54 R55 a0 6 0) (fun F61 R62 => k_lt2 (sp_X8_change_1 F61 R62 a0 7 0) (fun F68 R69 => (1, F68, R69))))))))))))
def K_X10_thing_73 (F : Nat → Int32) (R : Nat → Nat → Int32) (a0 : Int32) (a1 : Int32) (a2 : Int32) (a3 : Int32) (a4 : Int32) (a5 : Int32)  : Int32 × (Nat → Int32) × (Nat → Nat → Int32) :=
  K_X10_thing_74 F R a0 a1 a2 a3 a4 a5 0
def sp_X10_thing (F : Nat → Int32) (R : Nat → Nat → Int32) (a0 : Int32) (a1 : Int32) (a2 : Int32) (a3 : Int32) (a4 : Int32) (a5 : Int32) : Int32 × (Nat → Int32) × (Nat → Nat → Int32) :=
  k_lt (g_in a0 0 9) (fun r1 => if r1 = 0 then K_X10_thing_73 F R a0 a1 a2 a3 a4 a5 else k_lt (g_in a1 0 3) (fun r79 => if r79 = 0 then K_X10_thing_73 F R a0 a1 a2 a3 a4 a5 else k_lt ((F 16) - 1) (fun x89 => k_lt (g_in a2 0 x89) (fun r91 => if r91 = 0 then K_X10_thing_73 F R a0 a1 a2 a3 a4 a5 else k_lt (g_in a3 1 40) (fun r100 => if r100 = 0 then K_X10_thing_73 F R a0 a1 a2 a3 a4 a5 else k_lt (g_in a4 1 60) (fun r110 => if r110 = 0 then K_X10_thing_73 F R a0 a1 a2 a3 a4 a5 else k_lt (g_in a5 1 99) (fun r120 => if r120 = 0 then K_X10_thing_73 F R a0 a1 a2 a3 a4 a5 else K_X10_thing_74 F R a0 a1 a2 a3 a4 a5 1)))))))
theorem e_X10_thing_0 : g_dc cX10_thing 0 (.iload_n 1) 1 1 := ⟨by decide +kernel, rfl⟩
theorem e_X10_thing_1 : g_dc cX10_thing 1 (.iconst 0) 1 2 := ⟨by decide +kernel, rfl⟩
theorem e_X10_thing_2 : g_dc cX10_thing 2 (.bipush 9) 2 4 := ⟨by decide +kernel, rfl⟩
theorem e_X10_thing_4 : g_dc cX10_thing 4 (.invokestatic 82) 3 7 := ⟨by decide +kernel, rfl⟩
theorem e_X10_thing_7 : g_dc cX10_thing 7 (.ifCond .eq 66) 3 10 := ⟨by decide +kernel, rfl⟩
theorem e_X10_thing_10 : g_dc cX10_thing 10 (.iload_n 2) 1 11 := ⟨by decide +kernel, rfl⟩
theorem e_X10_thing_11 : g_dc cX10_thing 11 (.iconst 0) 1 12 := ⟨by decide +kernel, rfl⟩
theorem e_X10_thing_12 : g_dc cX10_thing 12 (.iconst 3) 1 13 := ⟨by decide +kernel, rfl⟩
theorem e_X10_thing_13 : g_dc cX10_thing 13 (.invokestatic 82) 3 16 := ⟨by decide +kernel, rfl⟩
theorem e_X10_thing_16 : g_dc cX10_thing 16 (.ifCond .eq 57) 3 19 := ⟨by decide +kernel, rfl⟩
theorem e_X10_thing_19 : g_dc cX10_thing 19 (.iload_n 3) 1 20 := ⟨by decide +kernel, rfl⟩
theorem e_X10_thing_20 : g_dc cX10_thing 20 (.iconst 0) 1 21 := ⟨by decide +kernel, rfl⟩
theorem e_X10_thing_21 : g_dc cX10_thing 21 (.aload_n 0) 1 22 := ⟨by decide +kernel, rfl⟩
theorem e_X10_thing_22 : g_dc cX10_thing 22 (.getfield 10) 3 25 := ⟨by decide +kernel, rfl⟩
theorem e_X10_thing_25 : g_dc cX10_thing 25 (.getfield 86) 3 28 := ⟨by decide +kernel, rfl⟩
theorem e_X10_thing_28 : g_dc cX10_thing 28 (.iconst 1) 1 29 := ⟨by decide +kernel, rfl⟩
theorem e_X10_thing_29 : g_dc cX10_thing 29 (.isub) 1 30 := ⟨by decide +kernel, rfl⟩
theorem e_X10_thing_30 : g_dc cX10_thing 30 (.invokestatic 82) 3 33 := ⟨by decide +kernel, rfl⟩
theorem e_X10_thing_33 : g_dc cX10_thing 33 (.ifCond .eq 40) 3 36 := ⟨by decide +kernel, rfl⟩
theorem e_X10_thing_36 : g_dc cX10_thing 36 (.iload 4) 2 38 := ⟨by decide +kernel, rfl⟩
theorem e_X10_thing_38 : g_dc cX10_thing 38 (.iconst 1) 1 39 := ⟨by decide +kernel, rfl⟩
theorem e_X10_thing_39 : g_dc cX10_thing 39 (.bipush 40) 2 41 := ⟨by decide +kernel, rfl⟩
theorem e_X10_thing_41 : g_dc cX10_thing 41 (.invokestatic 82) 3 44 := ⟨by decide +kernel, rfl⟩
theorem e_X10_thing_44 : g_dc cX10_thing 44 (.ifCond .eq 29) 3 47 := ⟨by decide +kernel, rfl⟩
theorem e_X10_thing_47 : g_dc cX10_thing 47 (.iload 5) 2 49 := ⟨by decide +kernel, rfl⟩
theorem e_X10_thing_49 : g_dc cX10_thing 49 (.iconst 1) 1 50 := ⟨by decide +kernel, rfl⟩
theorem e_X10_thing_50 : g_dc cX10_thing 50 (.bipush 60) 2 52 := ⟨by decide +kernel, rfl⟩
theorem e_X10_thing_52 : g_dc cX10_thing 52 (.invokestatic 82) 3 55 := ⟨by decide +kernel, rfl⟩
theorem e_X10_thing_55 : g_dc cX10_thing 55 (.ifCond .eq 18) 3 58 := ⟨by decide +kernel, rfl⟩
theorem e_X10_thing_58 : g_dc cX10_thing 58 (.iload 6) 2 60 := ⟨by decide +kernel, rfl⟩
theorem e_X10_thing_60 : g_dc cX10_thing 60 (.iconst 1) 1 61 := ⟨by decide +kernel, rfl⟩
theorem e_X10_thing_61 : g_dc cX10_thing 61 (.bipush 99) 2 63 := ⟨by decide +kernel, rfl⟩
theorem e_X10_thing_63 : g_dc cX10_thing 63 (.invokestatic 82) 3 66 := ⟨by decide +kernel, rfl⟩
theorem e_X10_thing_66 : g_dc cX10_thing 66 (.ifCond .eq 7) 3 69 := ⟨by decide +kernel, rfl⟩
theorem e_X10_thing_69 : g_dc cX10_thing 69 (.iconst 1) 1 70 := ⟨by decide +kernel, rfl⟩
theorem e_X10_thing_70 : g_dc cX10_thing 70 (.goto 4) 3 73 := ⟨by decide +kernel, rfl⟩
theorem e_X10_thing_73 : g_dc cX10_thing 73 (.iconst 0) 1 74 := ⟨by decide +kernel, rfl⟩
theorem e_X10_thing_74 : g_dc cX10_thing 74 (.istore 7) 2 76 := ⟨by decide +kernel, rfl⟩
theorem e_X10_thing_76 : g_dc cX10_thing 76 (.iload 7) 2 78 := ⟨by decide +kernel, rfl⟩
theorem e_X10_thing_78 : g_dc cX10_thing 78 (.ifCond .ne 5) 3 81 := ⟨by decide +kernel, rfl⟩
theorem e_X10_thing_81 : g_dc cX10_thing 81 (.iconst 0) 1 82 := ⟨by decide +kernel, rfl⟩
theorem e_X10_thing_82 : g_dc cX10_thing 82 (.ireturn) 1 83 := ⟨by decide +kernel, rfl⟩
theorem e_X10_thing_83 : g_dc cX10_thing 83 (.aload_n 0) 1 84 := ⟨by decide +kernel, rfl⟩
theorem e_X10_thing_84 : g_dc cX10_thing 84 (.getfield 10) 3 87 := ⟨by decide +kernel, rfl⟩
theorem e_X10_thing_87 : g_dc cX10_thing 87 (.dup) 1 88 := ⟨by decide +kernel, rfl⟩
theorem e_X10_thing_88 : g_dc cX10_thing 88 (.getfield 95) 3 91 := ⟨by decide +kernel, rfl⟩
theorem e_X10_thing_91 : g_dc cX10_thing 91 (.iconst 1) 1 92 := ⟨by decide +kernel, rfl⟩
theorem e_X10_thing_92 : g_dc cX10_thing 92 (.iload_n 1) 1 93 := ⟨by decide +kernel, rfl⟩
theorem e_X10_thing_93 : g_dc cX10_thing 93 (.ishl) 1 94 := ⟨by decide +kernel, rfl⟩
theorem e_X10_thing_94 : g_dc cX10_thing 94 (.ior) 1 95 := ⟨by decide +kernel, rfl⟩
theorem e_X10_thing_95 : g_dc cX10_thing 95 (.putfield 95) 3 98 := ⟨by decide +kernel, rfl⟩
theorem e_X10_thing_98 : g_dc cX10_thing 98 (.aload_n 0) 1 99 := ⟨by decide +kernel, rfl⟩
theorem e_X10_thing_99 : g_dc cX10_thing 99 (.getfield 10) 3 102 := ⟨by decide +kernel, rfl⟩
theorem e_X10_thing_102 : g_dc cX10_thing 102 (.iload_n 1) 1 103 := ⟨by decide +kernel, rfl⟩
theorem e_X10_thing_103 : g_dc cX10_thing 103 (.iconst 0) 1 104 := ⟨by decide +kernel, rfl⟩
theorem e_X10_thing_104 : g_dc cX10_thing 104 (.iload_n 2) 1 105 := ⟨by decide +kernel, rfl⟩
theorem e_X10_thing_105 : g_dc cX10_thing 105 (.invokevirtual 98) 3 108 := ⟨by decide +kernel, rfl⟩
theorem e_X10_thing_108 : g_dc cX10_thing 108 (.aload_n 0) 1 109 := ⟨by decide +kernel, rfl⟩
theorem e_X10_thing_109 : g_dc cX10_thing 109 (.getfield 10) 3 112 := ⟨by decide +kernel, rfl⟩
theorem e_X10_thing_112 : g_dc cX10_thing 112 (.iload_n 1) 1 113 := ⟨by decide +kernel, rfl⟩
theorem e_X10_thing_113 : g_dc cX10_thing 113 (.iconst 1) 1 114 := ⟨by decide +kernel, rfl⟩
theorem e_X10_thing_114 : g_dc cX10_thing 114 (.iload_n 3) 1 115 := ⟨by decide +kernel, rfl⟩
theorem e_X10_thing_115 : g_dc cX10_thing 115 (.invokevirtual 98) 3 118 := ⟨by decide +kernel, rfl⟩
theorem e_X10_thing_118 : g_dc cX10_thing 118 (.aload_n 0) 1 119 := ⟨by decide +kernel, rfl⟩
theorem e_X10_thing_119 : g_dc cX10_thing 119 (.getfield 10) 3 122 := ⟨by decide +kernel, rfl⟩
theorem e_X10_thing_122 : g_dc cX10_thing 122 (.iload_n 1) 1 123 := ⟨by decide +kernel, rfl⟩
theorem e_X10_thing_123 : g_dc cX10_thing 123 (.iconst 2) 1 124 := ⟨by decide +kernel, rfl⟩
theorem e_X10_thing_124 : g_dc cX10_thing 124 (.iload 4) 2 126 := ⟨by decide +kernel, rfl⟩
theorem e_X10_thing_126 : g_dc cX10_thing 126 (.invokevirtual 98) 3 129 := ⟨by decide +kernel, rfl⟩
theorem e_X10_thing_129 : g_dc cX10_thing 129 (.aload_n 0) 1 130 := ⟨by decide +kernel, rfl⟩
theorem e_X10_thing_130 : g_dc cX10_thing 130 (.getfield 10) 3 133 := ⟨by decide +kernel, rfl⟩
theorem e_X10_thing_133 : g_dc cX10_thing 133 (.iload_n 1) 1 134 := ⟨by decide +kernel, rfl⟩
theorem e_X10_thing_134 : g_dc cX10_thing 134 (.iconst 3) 1 135 := ⟨by decide +kernel, rfl⟩
theorem e_X10_thing_135 : g_dc cX10_thing 135 (.iload 5) 2 137 := ⟨by decide +kernel, rfl⟩
theorem e_X10_thing_137 : g_dc cX10_thing 137 (.invokevirtual 98) 3 140 := ⟨by decide +kernel, rfl⟩
theorem e_X10_thing_140 : g_dc cX10_thing 140 (.aload_n 0) 1 141 := ⟨by decide +kernel, rfl⟩
theorem e_X10_thing_141 : g_dc cX10_thing 141 (.getfield 10) 3 144 := ⟨by decide +kernel, rfl⟩
theorem e_X10_thing_144 : g_dc cX10_thing 144 (.iload_n 1) 1 145 := ⟨by decide +kernel, rfl⟩
theorem e_X10_thing_145 : g_dc cX10_thing 145 (.iconst 4) 1 146 := ⟨by decide +kernel, rfl⟩
theorem e_X10_thing_146 : g_dc cX10_thing 146 (.iload 6) 2 148 := ⟨by decide +kernel, rfl⟩
theorem e_X10_thing_148 : g_dc cX10_thing 148 (.invokevirtual 98) 3 151 := ⟨by decide +kernel, rfl⟩
theorem e_X10_thing_151 : g_dc cX10_thing 151 (.aload_n 0) 1 152 := ⟨by decide +kernel, rfl⟩
theorem e_X10_thing_152 : g_dc cX10_thing 152 (.getfield 10) 3 155 := ⟨by decide +kernel, rfl⟩
theorem e_X10_thing_155 : g_dc cX10_thing 155 (.iload_n 1) 1 156 := ⟨by decide +kernel, rfl⟩
theorem e_X10_thing_156 : g_dc cX10_thing 156 (.iconst 5) 1 157 := ⟨by decide +kernel, rfl⟩
theorem e_X10_thing_157 : g_dc cX10_thing 157 (.iconst 0) 1 158 := ⟨by decide +kernel, rfl⟩
theorem e_X10_thing_158 : g_dc cX10_thing 158 (.invokevirtual 98) 3 161 := ⟨by decide +kernel, rfl⟩
theorem e_X10_thing_161 : g_dc cX10_thing 161 (.aload_n 0) 1 162 := ⟨by decide +kernel, rfl⟩
theorem e_X10_thing_162 : g_dc cX10_thing 162 (.getfield 10) 3 165 := ⟨by decide +kernel, rfl⟩
theorem e_X10_thing_165 : g_dc cX10_thing 165 (.iload_n 1) 1 166 := ⟨by decide +kernel, rfl⟩
theorem e_X10_thing_166 : g_dc cX10_thing 166 (.bipush 6) 2 168 := ⟨by decide +kernel, rfl⟩
theorem e_X10_thing_168 : g_dc cX10_thing 168 (.iconst 0) 1 169 := ⟨by decide +kernel, rfl⟩
theorem e_X10_thing_169 : g_dc cX10_thing 169 (.invokevirtual 98) 3 172 := ⟨by decide +kernel, rfl⟩
theorem e_X10_thing_172 : g_dc cX10_thing 172 (.aload_n 0) 1 173 := ⟨by decide +kernel, rfl⟩
theorem e_X10_thing_173 : g_dc cX10_thing 173 (.getfield 10) 3 176 := ⟨by decide +kernel, rfl⟩
theorem e_X10_thing_176 : g_dc cX10_thing 176 (.iload_n 1) 1 177 := ⟨by decide +kernel, rfl⟩
theorem e_X10_thing_177 : g_dc cX10_thing 177 (.bipush 7) 2 179 := ⟨by decide +kernel, rfl⟩
theorem e_X10_thing_179 : g_dc cX10_thing 179 (.iconst 0) 1 180 := ⟨by decide +kernel, rfl⟩
theorem e_X10_thing_180 : g_dc cX10_thing 180 (.invokevirtual 98) 3 183 := ⟨by decide +kernel, rfl⟩
theorem e_X10_thing_183 : g_dc cX10_thing 183 (.iconst 1) 1 184 := ⟨by decide +kernel, rfl⟩
theorem e_X10_thing_184 : g_dc cX10_thing 184 (.ireturn) 1 185 := ⟨by decide +kernel, rfl⟩
def md_X10_thing : List Nat := [19]
def mr_X10_thing : List Nat := [2]
set_option maxHeartbeats 4000000 in
set_option maxRecDepth 100000 in
theorem w_X10_thing (l : Launch) (X : gX) (ad : Nat → Nat) (F : Nat → Int32) (R : Nat → Nat → Int32) (hI : g_ok LK_wX F) (hA : g_okR LA_wX R) (a0 : Int32) (a1 : Int32) (a2 : Int32) (a3 : Int32) (a4 : Int32) (a5 : Int32) : g_Ci l X yX10_thing cX10_thing 8 (some .boolean) 3 0 0 [.ref (ad 0), .int a0, .int a1, .int a2, .int a3, .int a4, .int a5] (wX X ad F R) (fun r w => ∃ (F' : Nat → Int32) (R' : Nat → Nat → Int32), w = wX X ad F' R' ∧ g_ok LK_wX F' ∧ g_okR LA_wX R' ∧ g_fr md_X10_thing F F' ∧ g_fr mr_X10_thing R R' ∧ jv 0 1 r ∧ (r, F', R') = sp_X10_thing F R a0 a1 a2 a3 a4 a5) := by
  refine g_mi (by decide +kernel) (Nat.le_of_ble_eq_true rfl) (fun E cx hret => ?_)
  obtain ⟨SP, hSP⟩ : ∃ z, z = sp_X10_thing F R a0 a1 a2 a3 a4 a5 := ⟨_, rfl⟩
  have hk0 := hSP
  unfold sp_X10_thing at hk0
  refine g_iload_n cx 1 rfl e_X10_thing_0 ?_
  refine g_iconst cx 0 (by decide) e_X10_thing_1 ?_
  refine g_bipush cx 9 (by decide) e_X10_thing_2 ?_
  refine g_cSiW cx [.int a0, .int 0, .int 9] [] (c_X10_within l X (wX X ad F R) a0 0 9) ml_X10_82 yS_X10_within rfl e_X10_thing_4 (by unfold g_rr; decide) (by decide) rfl (Nat.le_of_ble_eq_true rfl) (fun r1 w2 h3 => ?_)
  obtain ⟨rfl, hr1⟩ := h3
  have pr1 : jv 0 1 r1 := by rw [hr1]; exact gi_01 _ _ _
  have hk4 := k_ls hk0 hr1
  have J74 : ∀ (y5 : Int32), (jv 0 1 y5) → (SP = K_X10_thing_74 F R a0 a1 a2 a3 a4 a5 y5) → G X E 8 0 0 (wX X ad F R) [(0, .ref (ad 0)), (1, .int a0), (2, .int a1), (3, .int a2), (4, .int a3), (5, .int a4), (6, .int a5)] 74 [.int y5] := by
    intro y5 py5 hkJ74
    unfold K_X10_thing_74 at hkJ74
    refine g_istore cx [(7, .int y5), (0, .ref (ad 0)), (1, .int a0), (2, .int a1), (3, .int a2), (4, .int a3), (5, .int a4), (6, .int a5)] e_X10_thing_74 (by decide) rfl ?_
    refine g_iload cx 0 rfl e_X10_thing_76 ?_
    refine g_if_ne cx 83 e_X10_thing_78 (by decide) (fun zc6 => ?_) (fun zc6 => ?_)
    · have p7 := gn_neL 1 1 (gc_ne zc6) py5 (jv_k (x := 0) 0 (by decide)) (by decide)
      have hk8 := hkJ74.trans (if_neg zc6)
      refine g_aload_n cx 1 rfl e_X10_thing_83 ?_
      refine g_get cx cl_X10 fl_X10_10 0 (.ref (ad 1)) e_X10_thing_84 rfl rfl ?_
      refine g_dup cx rfl e_X10_thing_87 ?_
      refine g_getN cx cl_X8 fn_X10_95 1 (.int (F 19)) e_X10_thing_88 rfl rfl ?_
      refine g_iconst cx 1 (by decide) e_X10_thing_91 ?_
      refine g_iload_n cx 2 rfl e_X10_thing_92 ?_
      refine g_ishl cx e_X10_thing_93 ?_
      refine g_topi (fun x9 ex9 => ?_)
      have hk10 := k_ls hk8 ex9
      refine g_ior cx e_X10_thing_94 ?_
      refine g_topi (fun x11 ex11 => ?_)
      have hk12 := k_ls hk10 ex11
      refine g_putN cx cl_X8 fn_X10_95 1 (wX X ad (upd F 19 x11) R) e_X10_thing_95 rfl rfl rfl rfl (Nat.le_of_ble_eq_true rfl) rfl ?_
      obtain ⟨F13, hF13⟩ : ∃ z, z = upd F 19 x11 := ⟨_, rfl⟩
      rw [← hF13]
      have hk14 := k_ls hk12 hF13
      have oF13 : g_ok LK_wX F13 := by rw [hF13]; exact g_ok_u hI rfl
      have fF13 : g_fr md_X10_thing F F13 := by rw [hF13]; exact g_fr_u (g_fr_rf F) rfl
      refine g_aload_n cx 1 rfl e_X10_thing_98 ?_
      refine g_get cx cl_X10 fl_X10_10 0 (.ref (ad 1)) e_X10_thing_99 rfl rfl ?_
      refine g_iload_n cx 2 rfl e_X10_thing_102 ?_
      refine g_iconst cx 0 (by decide) e_X10_thing_103 ?_
      refine g_iload_n cx 3 rfl e_X10_thing_104 ?_
      refine g_cVvW cx [.int a0, .int 0, .int a1] [] (w_X8_change_1 l X ad F13 R oF13 hA a0 0 a1) ml_X10_98 yV_X8_change e_X10_thing_105 (by unfold g_rr; decide) (by decide) 1 rfl rfl rfl (Nat.le_of_ble_eq_true rfl) (fun w16 h17 => ?_)
      obtain ⟨F19, R20, rfl, oF19, oR20, cF19, cR20, hx18⟩ := h17
      have hk21 := k_ls2 hk14 hx18
      have fF19 : g_fr md_X10_thing F F19 := g_fr_c fF13 cF19 rfl
      have fR20 : g_fr mr_X10_thing R R20 := g_fr_c (g_fr_rf R) cR20 rfl
      refine g_aload_n cx 1 rfl e_X10_thing_108 ?_
      refine g_get cx cl_X10 fl_X10_10 0 (.ref (ad 1)) e_X10_thing_109 rfl rfl ?_
      refine g_iload_n cx 2 rfl e_X10_thing_112 ?_
      refine g_iconst cx 1 (by decide) e_X10_thing_113 ?_
      refine g_iload_n cx 4 rfl e_X10_thing_114 ?_
      refine g_cVvW cx [.int a0, .int 1, .int a2] [] (w_X8_change_1 l X ad F19 R20 oF19 oR20 a0 1 a2) ml_X10_98 yV_X8_change e_X10_thing_115 (by unfold g_rr; decide) (by decide) 1 rfl rfl rfl (Nat.le_of_ble_eq_true rfl) (fun w23 h24 => ?_)
      obtain ⟨F26, R27, rfl, oF26, oR27, cF26, cR27, hx25⟩ := h24
      have hk28 := k_ls2 hk21 hx25
      have fF26 : g_fr md_X10_thing F F26 := g_fr_c fF19 cF26 rfl
      have fR27 : g_fr mr_X10_thing R R27 := g_fr_c fR20 cR27 rfl
      refine g_aload_n cx 1 rfl e_X10_thing_118 ?_
      refine g_get cx cl_X10 fl_X10_10 0 (.ref (ad 1)) e_X10_thing_119 rfl rfl ?_
      refine g_iload_n cx 2 rfl e_X10_thing_122 ?_
      refine g_iconst cx 2 (by decide) e_X10_thing_123 ?_
      refine g_iload cx 5 rfl e_X10_thing_124 ?_
      refine g_cVvW cx [.int a0, .int 2, .int a3] [] (w_X8_change_1 l X ad F26 R27 oF26 oR27 a0 2 a3) ml_X10_98 yV_X8_change e_X10_thing_126 (by unfold g_rr; decide) (by decide) 1 rfl rfl rfl (Nat.le_of_ble_eq_true rfl) (fun w30 h31 => ?_)
      obtain ⟨F33, R34, rfl, oF33, oR34, cF33, cR34, hx32⟩ := h31
      have hk35 := k_ls2 hk28 hx32
      have fF33 : g_fr md_X10_thing F F33 := g_fr_c fF26 cF33 rfl
      have fR34 : g_fr mr_X10_thing R R34 := g_fr_c fR27 cR34 rfl
      refine g_aload_n cx 1 rfl e_X10_thing_129 ?_
      refine g_get cx cl_X10 fl_X10_10 0 (.ref (ad 1)) e_X10_thing_130 rfl rfl ?_
      refine g_iload_n cx 2 rfl e_X10_thing_133 ?_
      refine g_iconst cx 3 (by decide) e_X10_thing_134 ?_
      refine g_iload cx 6 rfl e_X10_thing_135 ?_
      refine g_cVvW cx [.int a0, .int 3, .int a4] [] (w_X8_change_1 l X ad F33 R34 oF33 oR34 a0 3 a4) ml_X10_98 yV_X8_change e_X10_thing_137 (by unfold g_rr; decide) (by decide) 1 rfl rfl rfl (Nat.le_of_ble_eq_true rfl) (fun w37 h38 => ?_)
      obtain ⟨F40, R41, rfl, oF40, oR41, cF40, cR41, hx39⟩ := h38
      have hk42 := k_ls2 hk35 hx39
      have fF40 : g_fr md_X10_thing F F40 := g_fr_c fF33 cF40 rfl
      have fR41 : g_fr mr_X10_thing R R41 := g_fr_c fR34 cR41 rfl
      refine g_aload_n cx 1 rfl e_X10_thing_140 ?_
      refine g_get cx cl_X10 fl_X10_10 0 (.ref (ad 1)) e_X10_thing_141 rfl rfl ?_
      refine g_iload_n cx 2 rfl e_X10_thing_144 ?_
      refine g_iconst cx 4 (by decide) e_X10_thing_145 ?_
      refine g_iload cx 7 rfl e_X10_thing_146 ?_
      refine g_cVvW cx [.int a0, .int 4, .int a5] [] (w_X8_change_1 l X ad F40 R41 oF40 oR41 a0 4 a5) ml_X10_98 yV_X8_change e_X10_thing_148 (by unfold g_rr; decide) (by decide) 1 rfl rfl rfl (Nat.le_of_ble_eq_true rfl) (fun w44 h45 => ?_)
      obtain ⟨F47, R48, rfl, oF47, oR48, cF47, cR48, hx46⟩ := h45
      have hk49 := k_ls2 hk42 hx46
      have fF47 : g_fr md_X10_thing F F47 := g_fr_c fF40 cF47 rfl
      have fR48 : g_fr mr_X10_thing R R48 := g_fr_c fR41 cR48 rfl
      refine g_aload_n cx 1 rfl e_X10_thing_151 ?_
      refine g_get cx cl_X10 fl_X10_10 0 (.ref (ad 1)) e_X10_thing_152 rfl rfl ?_
      refine g_iload_n cx 2 rfl e_X10_thing_155 ?_
      refine g_iconst cx 5 (by decide) e_X10_thing_156 ?_
      refine g_iconst cx 0 (by decide) e_X10_thing_157 ?_
      refine g_cVvW cx [.int a0, .int 5, .int 0] [] (w_X8_change_1 l X ad F47 R48 oF47 oR48 a0 5 0) ml_X10_98 yV_X8_change e_X10_thing_158 (by unfold g_rr; decide) (by decide) 1 rfl rfl rfl (Nat.le_of_ble_eq_true rfl) (fun w51 h52 => ?_)
      obtain ⟨F54, R55, rfl, oF54, oR55, cF54, cR55, hx53⟩ := h52
      have hk56 := k_ls2 hk49 hx53
      have fF54 : g_fr md_X10_thing F F54 := g_fr_c fF47 cF54 rfl
      have fR55 : g_fr mr_X10_thing R R55 := g_fr_c fR48 cR55 rfl
      refine g_aload_n cx 1 rfl e_X10_thing_161 ?_
      refine g_get cx cl_X10 fl_X10_10 0 (.ref (ad 1)) e_X10_thing_162 rfl rfl ?_
      refine g_iload_n cx 2 rfl e_X10_thing_165 ?_
      refine g_bipush cx 6 (by decide) e_X10_thing_166 ?_
      refine g_iconst cx 0 (by decide) e_X10_thing_168 ?_
      refine g_cVvW cx [.int a0, .int 6, .int 0] [] (w_X8_change_1 l X ad F54 R55 oF54 oR55 a0 6 0) ml_X10_98 yV_X8_change e_X10_thing_169 (by unfold g_rr; decide) (by decide) 1 rfl rfl rfl (Nat.le_of_ble_eq_true rfl) (fun w58 h59 => ?_)
      obtain ⟨F61, R62, rfl, oF61, oR62, cF61, cR62, hx60⟩ := h59
      have hk63 := k_ls2 hk56 hx60
      have fF61 : g_fr md_X10_thing F F61 := g_fr_c fF54 cF61 rfl
      have fR62 : g_fr mr_X10_thing R R62 := g_fr_c fR55 cR62 rfl
      refine g_aload_n cx 1 rfl e_X10_thing_172 ?_
      refine g_get cx cl_X10 fl_X10_10 0 (.ref (ad 1)) e_X10_thing_173 rfl rfl ?_
      refine g_iload_n cx 2 rfl e_X10_thing_176 ?_
      refine g_bipush cx 7 (by decide) e_X10_thing_177 ?_
      refine g_iconst cx 0 (by decide) e_X10_thing_179 ?_
      refine g_cVvW cx [.int a0, .int 7, .int 0] [] (w_X8_change_1 l X ad F61 R62 oF61 oR62 a0 7 0) ml_X10_98 yV_X8_change e_X10_thing_180 (by unfold g_rr; decide) (by decide) 1 rfl rfl rfl (Nat.le_of_ble_eq_true rfl) (fun w65 h66 => ?_)
      obtain ⟨F68, R69, rfl, oF68, oR69, cF68, cR69, hx67⟩ := h66
      have hk70 := k_ls2 hk63 hx67
      have fF68 : g_fr md_X10_thing F F68 := g_fr_c fF61 cF68 rfl
      have fR69 : g_fr mr_X10_thing R R69 := g_fr_c fR62 cR69 rfl
      refine g_iconst cx 1 (by decide) e_X10_thing_183 ?_
      exact hret e_X10_thing_184 (Nat.le_of_ble_eq_true rfl) (Nat.le_of_ble_eq_true rfl) rfl ⟨F68, R69, rfl, oF68, oR69, fF68, fR69, (jv_w (jv_k (x := 1) 1 (by decide)) (by decide)), (hk70.symm.trans hSP)⟩
    · have p71 := gn_eq 0 0 (gc_eq zc6) py5 (jv_k (x := 0) 0 (by decide)) (by decide)
      have hk72 := hkJ74.trans (if_pos zc6)
      refine g_iconst cx 0 (by decide) e_X10_thing_81 ?_
      exact hret e_X10_thing_82 (Nat.le_of_ble_eq_true rfl) (Nat.le_of_ble_eq_true rfl) rfl ⟨F, R, rfl, hI, hA, (g_fr_rf F), (g_fr_rf R), (jv_w (jv_k (x := 0) 0 (by decide)) (by decide)), (hk72.symm.trans hSP)⟩
  have J73 : (SP = K_X10_thing_73 F R a0 a1 a2 a3 a4 a5) → G X E 8 0 0 (wX X ad F R) [(0, .ref (ad 0)), (1, .int a0), (2, .int a1), (3, .int a2), (4, .int a3), (5, .int a4), (6, .int a5)] 73 [] := by
    intro   hkJ73
    unfold K_X10_thing_73 at hkJ73
    refine g_iconst cx 0 (by decide) e_X10_thing_73 ?_
    exact J74 0 (jv_w (jv_k (x := 0) 0 (by decide)) (by decide)) hkJ73
  refine g_if_eq cx 73 e_X10_thing_7 (by decide) (fun zc73 => ?_) (fun zc73 => ?_)
  · have p74 := gn_eq 0 0 (gc_eq zc73) pr1 (jv_k (x := 0) 0 (by decide)) (by decide)
    have hk75 := hk4.trans (if_pos zc73)
    exact J73  hk75
  · have p76 := gn_neL 1 1 (gc_ne zc73) pr1 (jv_k (x := 0) 0 (by decide)) (by decide)
    have p77 := jv_i 0 9 (jv_t a0) (gi_in (A := 0) (B := 9) hr1 zc73 (by decide) (by decide)) (by decide)
    have hk78 := hk4.trans (if_neg zc73)
    refine g_iload_n cx 2 rfl e_X10_thing_10 ?_
    refine g_iconst cx 0 (by decide) e_X10_thing_11 ?_
    refine g_iconst cx 3 (by decide) e_X10_thing_12 ?_
    refine g_cSiW cx [.int a1, .int 0, .int 3] [] (c_X10_within l X (wX X ad F R) a1 0 3) ml_X10_82 yS_X10_within rfl e_X10_thing_13 (by unfold g_rr; decide) (by decide) rfl (Nat.le_of_ble_eq_true rfl) (fun r79 w80 h81 => ?_)
    obtain ⟨rfl, hr79⟩ := h81
    have pr79 : jv 0 1 r79 := by rw [hr79]; exact gi_01 _ _ _
    have hk82 := k_ls hk78 hr79
    refine g_if_eq cx 73 e_X10_thing_16 (by decide) (fun zc83 => ?_) (fun zc83 => ?_)
    · have p84 := gn_eq 0 0 (gc_eq zc83) pr79 (jv_k (x := 0) 0 (by decide)) (by decide)
      have hk85 := hk82.trans (if_pos zc83)
      exact J73  hk85
    · have p86 := gn_neL 1 1 (gc_ne zc83) pr79 (jv_k (x := 0) 0 (by decide)) (by decide)
      have p87 := jv_i 0 3 (jv_t a1) (gi_in (A := 0) (B := 3) hr79 zc83 (by decide) (by decide)) (by decide)
      have hk88 := hk82.trans (if_neg zc83)
      refine g_iload_n cx 3 rfl e_X10_thing_19 ?_
      refine g_iconst cx 0 (by decide) e_X10_thing_20 ?_
      refine g_aload_n cx 0 rfl e_X10_thing_21 ?_
      refine g_get cx cl_X10 fl_X10_10 0 (.ref (ad 1)) e_X10_thing_22 rfl rfl ?_
      refine g_getN cx cl_X8 fn_X10_86 1 (.int (F 16)) e_X10_thing_25 rfl rfl ?_
      refine g_iconst cx 1 (by decide) e_X10_thing_28 ?_
      refine g_isub cx e_X10_thing_29 ?_
      refine g_topi (fun x89 ex89 => ?_)
      have hk90 := k_ls hk88 ex89
      refine g_cSiW cx [.int a2, .int 0, .int x89] [] (c_X10_within l X (wX X ad F R) a2 0 x89) ml_X10_82 yS_X10_within rfl e_X10_thing_30 (by unfold g_rr; decide) (by decide) rfl (Nat.le_of_ble_eq_true rfl) (fun r91 w92 h93 => ?_)
      obtain ⟨rfl, hr91⟩ := h93
      have pr91 : jv 0 1 r91 := by rw [hr91]; exact gi_01 _ _ _
      have hk94 := k_ls hk90 hr91
      refine g_if_eq cx 73 e_X10_thing_33 (by decide) (fun zc95 => ?_) (fun zc95 => ?_)
      · have p96 := gn_eq 0 0 (gc_eq zc95) pr91 (jv_k (x := 0) 0 (by decide)) (by decide)
        have hk97 := hk94.trans (if_pos zc95)
        exact J73  hk97
      · have p98 := gn_neL 1 1 (gc_ne zc95) pr91 (jv_k (x := 0) 0 (by decide)) (by decide)
        have hk99 := hk94.trans (if_neg zc95)
        refine g_iload cx 4 rfl e_X10_thing_36 ?_
        refine g_iconst cx 1 (by decide) e_X10_thing_38 ?_
        refine g_bipush cx 40 (by decide) e_X10_thing_39 ?_
        refine g_cSiW cx [.int a3, .int 1, .int 40] [] (c_X10_within l X (wX X ad F R) a3 1 40) ml_X10_82 yS_X10_within rfl e_X10_thing_41 (by unfold g_rr; decide) (by decide) rfl (Nat.le_of_ble_eq_true rfl) (fun r100 w101 h102 => ?_)
        obtain ⟨rfl, hr100⟩ := h102
        have pr100 : jv 0 1 r100 := by rw [hr100]; exact gi_01 _ _ _
        have hk103 := k_ls hk99 hr100
        refine g_if_eq cx 73 e_X10_thing_44 (by decide) (fun zc104 => ?_) (fun zc104 => ?_)
        · have p105 := gn_eq 0 0 (gc_eq zc104) pr100 (jv_k (x := 0) 0 (by decide)) (by decide)
          have hk106 := hk103.trans (if_pos zc104)
          exact J73  hk106
        · have p107 := gn_neL 1 1 (gc_ne zc104) pr100 (jv_k (x := 0) 0 (by decide)) (by decide)
          have p108 := jv_i 1 40 (jv_t a3) (gi_in (A := 1) (B := 40) hr100 zc104 (by decide) (by decide)) (by decide)
          have hk109 := hk103.trans (if_neg zc104)
          refine g_iload cx 5 rfl e_X10_thing_47 ?_
          refine g_iconst cx 1 (by decide) e_X10_thing_49 ?_
          refine g_bipush cx 60 (by decide) e_X10_thing_50 ?_
          refine g_cSiW cx [.int a4, .int 1, .int 60] [] (c_X10_within l X (wX X ad F R) a4 1 60) ml_X10_82 yS_X10_within rfl e_X10_thing_52 (by unfold g_rr; decide) (by decide) rfl (Nat.le_of_ble_eq_true rfl) (fun r110 w111 h112 => ?_)
          obtain ⟨rfl, hr110⟩ := h112
          have pr110 : jv 0 1 r110 := by rw [hr110]; exact gi_01 _ _ _
          have hk113 := k_ls hk109 hr110
          refine g_if_eq cx 73 e_X10_thing_55 (by decide) (fun zc114 => ?_) (fun zc114 => ?_)
          · have p115 := gn_eq 0 0 (gc_eq zc114) pr110 (jv_k (x := 0) 0 (by decide)) (by decide)
            have hk116 := hk113.trans (if_pos zc114)
            exact J73  hk116
          · have p117 := gn_neL 1 1 (gc_ne zc114) pr110 (jv_k (x := 0) 0 (by decide)) (by decide)
            have p118 := jv_i 1 60 (jv_t a4) (gi_in (A := 1) (B := 60) hr110 zc114 (by decide) (by decide)) (by decide)
            have hk119 := hk113.trans (if_neg zc114)
            refine g_iload cx 6 rfl e_X10_thing_58 ?_
            refine g_iconst cx 1 (by decide) e_X10_thing_60 ?_
            refine g_bipush cx 99 (by decide) e_X10_thing_61 ?_
            refine g_cSiW cx [.int a5, .int 1, .int 99] [] (c_X10_within l X (wX X ad F R) a5 1 99) ml_X10_82 yS_X10_within rfl e_X10_thing_63 (by unfold g_rr; decide) (by decide) rfl (Nat.le_of_ble_eq_true rfl) (fun r120 w121 h122 => ?_)
            obtain ⟨rfl, hr120⟩ := h122
            have pr120 : jv 0 1 r120 := by rw [hr120]; exact gi_01 _ _ _
            have hk123 := k_ls hk119 hr120
            refine g_if_eq cx 73 e_X10_thing_66 (by decide) (fun zc124 => ?_) (fun zc124 => ?_)
            · have p125 := gn_eq 0 0 (gc_eq zc124) pr120 (jv_k (x := 0) 0 (by decide)) (by decide)
              have hk126 := hk123.trans (if_pos zc124)
              exact J73  hk126
            · have p127 := gn_neL 1 1 (gc_ne zc124) pr120 (jv_k (x := 0) 0 (by decide)) (by decide)
              have p128 := jv_i 1 99 (jv_t a5) (gi_in (A := 1) (B := 99) hr120 zc124 (by decide) (by decide)) (by decide)
              have hk129 := hk123.trans (if_neg zc124)
              refine g_iconst cx 1 (by decide) e_X10_thing_69 ?_
              refine g_goto cx 74 e_X10_thing_70 (by decide) ?_
              exact J74 1 (jv_w (jv_k (x := 1) 1 (by decide)) (by decide)) hk129
def K_X8_has_1_26  (y5 : Int32) : Int32 :=
  y5
def K_X8_has_1_25   : Int32 :=
  K_X8_has_1_26 0
def sp_X8_has_1 (F : Nat → Int32) (R : Nat → Nat → Int32) (a0 : Int32) : Int32 :=
  k_lt (g_in a0 0 9) (fun r1 => if r1 = 0 then K_X8_has_1_25 else k_lt (1 <<< (a0 &&& 31)) (fun x12 => k_lt ((F 19) &&& x12) (fun x14 => if x14 = 0 then K_X8_has_1_25 else K_X8_has_1_26 1)))
theorem e_X8_has_0 : g_dc cX8_has 0 (.iload_n 1) 1 1 := ⟨by decide +kernel, rfl⟩
theorem e_X8_has_1 : g_dc cX8_has 1 (.iconst 0) 1 2 := ⟨by decide +kernel, rfl⟩
theorem e_X8_has_2 : g_dc cX8_has 2 (.bipush 9) 2 4 := ⟨by decide +kernel, rfl⟩
theorem e_X8_has_4 : g_dc cX8_has 4 (.invokestatic 31) 3 7 := ⟨by decide +kernel, rfl⟩
theorem e_X8_has_7 : g_dc cX8_has 7 (.ifCond .eq 18) 3 10 := ⟨by decide +kernel, rfl⟩
theorem e_X8_has_10 : g_dc cX8_has 10 (.aload_n 0) 1 11 := ⟨by decide +kernel, rfl⟩
theorem e_X8_has_11 : g_dc cX8_has 11 (.getfield 21) 3 14 := ⟨by decide +kernel, rfl⟩
theorem e_X8_has_14 : g_dc cX8_has 14 (.iconst 1) 1 15 := ⟨by decide +kernel, rfl⟩
theorem e_X8_has_15 : g_dc cX8_has 15 (.iload_n 1) 1 16 := ⟨by decide +kernel, rfl⟩
theorem e_X8_has_16 : g_dc cX8_has 16 (.ishl) 1 17 := ⟨by decide +kernel, rfl⟩
theorem e_X8_has_17 : g_dc cX8_has 17 (.iand) 1 18 := ⟨by decide +kernel, rfl⟩
theorem e_X8_has_18 : g_dc cX8_has 18 (.ifCond .eq 7) 3 21 := ⟨by decide +kernel, rfl⟩
theorem e_X8_has_21 : g_dc cX8_has 21 (.iconst 1) 1 22 := ⟨by decide +kernel, rfl⟩
theorem e_X8_has_22 : g_dc cX8_has 22 (.goto 4) 3 25 := ⟨by decide +kernel, rfl⟩
theorem e_X8_has_25 : g_dc cX8_has 25 (.iconst 0) 1 26 := ⟨by decide +kernel, rfl⟩
theorem e_X8_has_26 : g_dc cX8_has 26 (.ireturn) 1 27 := ⟨by decide +kernel, rfl⟩
set_option maxHeartbeats 4000000 in
set_option maxRecDepth 100000 in
theorem w_X8_has_1 (l : Launch) (X : gX) (ad : Nat → Nat) (F : Nat → Int32) (R : Nat → Nat → Int32) (hI : g_ok LK_wX F) (hA : g_okR LA_wX R) (a0 : Int32) : g_Ci l X yX8_has cX8_has 2 (some .boolean) 2 0 0 [.ref (ad 1), .int a0] (wX X ad F R) (fun r w => w = wX X ad F R ∧ jv 0 1 r ∧ r = sp_X8_has_1 F R a0) := by
  refine g_mi (by decide +kernel) (Nat.le_of_ble_eq_true rfl) (fun E cx hret => ?_)
  obtain ⟨SP, hSP⟩ : ∃ z, z = sp_X8_has_1 F R a0 := ⟨_, rfl⟩
  have hk0 := hSP
  unfold sp_X8_has_1 at hk0
  refine g_iload_n cx 1 rfl e_X8_has_0 ?_
  refine g_iconst cx 0 (by decide) e_X8_has_1 ?_
  refine g_bipush cx 9 (by decide) e_X8_has_2 ?_
  refine g_cNiW cx [.int a0, .int 0, .int 9] [] (c_X10_within l X (wX X ad F R) a0 0 9) mn_X8_31 yS_X10_within e_X8_has_4 (by unfold g_rr; decide) (by decide) rfl (Nat.le_of_ble_eq_true rfl) (fun r1 w2 h3 => ?_)
  obtain ⟨rfl, hr1⟩ := h3
  have pr1 : jv 0 1 r1 := by rw [hr1]; exact gi_01 _ _ _
  have hk4 := k_ls hk0 hr1
  have J26 : ∀ (y5 : Int32), (jv 0 1 y5) → (SP = K_X8_has_1_26 y5) → G X E 2 0 0 (wX X ad F R) [] 26 [.int y5] := by
    intro y5 py5 hkJ26
    unfold K_X8_has_1_26 at hkJ26
    exact hret e_X8_has_26 (Nat.le_of_ble_eq_true rfl) (Nat.le_of_ble_eq_true rfl) (g_narb py5) ⟨rfl, py5, (hkJ26.symm.trans hSP)⟩
  have J25 : (SP = K_X8_has_1_25) → G X E 2 0 0 (wX X ad F R) [] 25 [] := by
    intro   hkJ25
    unfold K_X8_has_1_25 at hkJ25
    refine g_iconst cx 0 (by decide) e_X8_has_25 ?_
    exact J26 0 (jv_w (jv_k (x := 0) 0 (by decide)) (by decide)) hkJ25
  refine g_if_eq cx 25 e_X8_has_7 (by decide) (fun zc6 => ?_) (fun zc6 => ?_)
  · have p7 := gn_eq 0 0 (gc_eq zc6) pr1 (jv_k (x := 0) 0 (by decide)) (by decide)
    have hk8 := hk4.trans (if_pos zc6)
    refine g_lsub [] [] rfl ?_
    exact J25  hk8
  · have p9 := gn_neL 1 1 (gc_ne zc6) pr1 (jv_k (x := 0) 0 (by decide)) (by decide)
    have p10 := jv_i 0 9 (jv_t a0) (gi_in (A := 0) (B := 9) hr1 zc6 (by decide) (by decide)) (by decide)
    have hk11 := hk4.trans (if_neg zc6)
    refine g_aload_n cx 0 rfl e_X8_has_10 ?_
    refine g_get cx cl_X8 fl_X8_21 1 (.int (F 19)) e_X8_has_11 rfl rfl ?_
    refine g_iconst cx 1 (by decide) e_X8_has_14 ?_
    refine g_iload_n cx 1 rfl e_X8_has_15 ?_
    refine g_ishl cx e_X8_has_16 ?_
    refine g_topi (fun x12 ex12 => ?_)
    have hk13 := k_ls hk11 ex12
    refine g_iand cx e_X8_has_17 ?_
    refine g_topi (fun x14 ex14 => ?_)
    have hk15 := k_ls hk13 ex14
    refine g_if_eq cx 25 e_X8_has_18 (by decide) (fun zc16 => ?_) (fun zc16 => ?_)
    · have p17 := gn_eq 0 0 (gc_eq zc16) (jv_t x14) (jv_k (x := 0) 0 (by decide)) (by decide)
      have hk18 := hk15.trans (if_pos zc16)
      refine g_lsub [] [] rfl ?_
      exact J25  hk18
    · have hk19 := hk15.trans (if_neg zc16)
      refine g_iconst cx 1 (by decide) e_X8_has_21 ?_
      refine g_goto cx 26 e_X8_has_22 (by decide) ?_
      refine g_lsub [] [] rfl ?_
      exact J26 1 (jv_w (jv_k (x := 1) 1 (by decide)) (by decide)) hk19
def K_X10_more_43 (F : Nat → Int32) (R : Nat → Nat → Int32)  : Int32 × (Nat → Int32) × (Nat → Nat → Int32) :=
  (0, F, R)
def sp_X10_more (F : Nat → Int32) (R : Nat → Nat → Int32) (a0 : Int32) (a1 : Int32) (a2 : Int32) (a3 : Int32) : Int32 × (Nat → Int32) × (Nat → Nat → Int32) :=
  k_lt (sp_X8_has_1 F R a0) (fun r1 => if r1 = 0 then K_X10_more_43 F R else k_lt (g_in a1 0 9) (fun r11 => if r11 = 0 then K_X10_more_43 F R else k_lt (g_in a2 0 9) (fun r21 => if r21 = 0 then K_X10_more_43 F R else k_lt (g_in a3 0 999) (fun r31 => if r31 = 0 then K_X10_more_43 F R else k_lt2 (sp_X8_change_1 F R a0 5 a1) (fun F43 R44 => k_lt2 (sp_X8_change_1 F43 R44 a0 6 a2) (fun F50 R51 => k_lt2 (sp_X8_change_1 F50 R51 a0 7 a3) (fun F57 R58 => (1, F57, R58))))))))
theorem e_X10_more_0 : g_dc cX10_more 0 (.aload_n 0) 1 1 := ⟨by decide +kernel, rfl⟩
theorem e_X10_more_1 : g_dc cX10_more 1 (.getfield 10) 3 4 := ⟨by decide +kernel, rfl⟩
theorem e_X10_more_4 : g_dc cX10_more 4 (.iload_n 1) 1 5 := ⟨by decide +kernel, rfl⟩
theorem e_X10_more_5 : g_dc cX10_more 5 (.invokevirtual 102) 3 8 := ⟨by decide +kernel, rfl⟩
theorem e_X10_more_8 : g_dc cX10_more 8 (.ifCond .eq 35) 3 11 := ⟨by decide +kernel, rfl⟩
theorem e_X10_more_11 : g_dc cX10_more 11 (.iload_n 2) 1 12 := ⟨by decide +kernel, rfl⟩
theorem e_X10_more_12 : g_dc cX10_more 12 (.iconst 0) 1 13 := ⟨by decide +kernel, rfl⟩
theorem e_X10_more_13 : g_dc cX10_more 13 (.bipush 9) 2 15 := ⟨by decide +kernel, rfl⟩
theorem e_X10_more_15 : g_dc cX10_more 15 (.invokestatic 82) 3 18 := ⟨by decide +kernel, rfl⟩
theorem e_X10_more_18 : g_dc cX10_more 18 (.ifCond .eq 25) 3 21 := ⟨by decide +kernel, rfl⟩
theorem e_X10_more_21 : g_dc cX10_more 21 (.iload_n 3) 1 22 := ⟨by decide +kernel, rfl⟩
theorem e_X10_more_22 : g_dc cX10_more 22 (.iconst 0) 1 23 := ⟨by decide +kernel, rfl⟩
theorem e_X10_more_23 : g_dc cX10_more 23 (.bipush 9) 2 25 := ⟨by decide +kernel, rfl⟩
theorem e_X10_more_25 : g_dc cX10_more 25 (.invokestatic 82) 3 28 := ⟨by decide +kernel, rfl⟩
theorem e_X10_more_28 : g_dc cX10_more 28 (.ifCond .eq 15) 3 31 := ⟨by decide +kernel, rfl⟩
theorem e_X10_more_31 : g_dc cX10_more 31 (.iload 4) 2 33 := ⟨by decide +kernel, rfl⟩
theorem e_X10_more_33 : g_dc cX10_more 33 (.iconst 0) 1 34 := ⟨by decide +kernel, rfl⟩
theorem e_X10_more_34 : g_dc cX10_more 34 (.sipush 999) 3 37 := ⟨by decide +kernel, rfl⟩
theorem e_X10_more_37 : g_dc cX10_more 37 (.invokestatic 82) 3 40 := ⟨by decide +kernel, rfl⟩
theorem e_X10_more_40 : g_dc cX10_more 40 (.ifCond .ne 5) 3 43 := ⟨by decide +kernel, rfl⟩
theorem e_X10_more_43 : g_dc cX10_more 43 (.iconst 0) 1 44 := ⟨by decide +kernel, rfl⟩
theorem e_X10_more_44 : g_dc cX10_more 44 (.ireturn) 1 45 := ⟨by decide +kernel, rfl⟩
theorem e_X10_more_45 : g_dc cX10_more 45 (.aload_n 0) 1 46 := ⟨by decide +kernel, rfl⟩
theorem e_X10_more_46 : g_dc cX10_more 46 (.getfield 10) 3 49 := ⟨by decide +kernel, rfl⟩
theorem e_X10_more_49 : g_dc cX10_more 49 (.iload_n 1) 1 50 := ⟨by decide +kernel, rfl⟩
theorem e_X10_more_50 : g_dc cX10_more 50 (.iconst 5) 1 51 := ⟨by decide +kernel, rfl⟩
theorem e_X10_more_51 : g_dc cX10_more 51 (.iload_n 2) 1 52 := ⟨by decide +kernel, rfl⟩
theorem e_X10_more_52 : g_dc cX10_more 52 (.invokevirtual 98) 3 55 := ⟨by decide +kernel, rfl⟩
theorem e_X10_more_55 : g_dc cX10_more 55 (.aload_n 0) 1 56 := ⟨by decide +kernel, rfl⟩
theorem e_X10_more_56 : g_dc cX10_more 56 (.getfield 10) 3 59 := ⟨by decide +kernel, rfl⟩
theorem e_X10_more_59 : g_dc cX10_more 59 (.iload_n 1) 1 60 := ⟨by decide +kernel, rfl⟩
theorem e_X10_more_60 : g_dc cX10_more 60 (.bipush 6) 2 62 := ⟨by decide +kernel, rfl⟩
theorem e_X10_more_62 : g_dc cX10_more 62 (.iload_n 3) 1 63 := ⟨by decide +kernel, rfl⟩
theorem e_X10_more_63 : g_dc cX10_more 63 (.invokevirtual 98) 3 66 := ⟨by decide +kernel, rfl⟩
theorem e_X10_more_66 : g_dc cX10_more 66 (.aload_n 0) 1 67 := ⟨by decide +kernel, rfl⟩
theorem e_X10_more_67 : g_dc cX10_more 67 (.getfield 10) 3 70 := ⟨by decide +kernel, rfl⟩
theorem e_X10_more_70 : g_dc cX10_more 70 (.iload_n 1) 1 71 := ⟨by decide +kernel, rfl⟩
theorem e_X10_more_71 : g_dc cX10_more 71 (.bipush 7) 2 73 := ⟨by decide +kernel, rfl⟩
theorem e_X10_more_73 : g_dc cX10_more 73 (.iload 4) 2 75 := ⟨by decide +kernel, rfl⟩
theorem e_X10_more_75 : g_dc cX10_more 75 (.invokevirtual 98) 3 78 := ⟨by decide +kernel, rfl⟩
theorem e_X10_more_78 : g_dc cX10_more 78 (.iconst 1) 1 79 := ⟨by decide +kernel, rfl⟩
theorem e_X10_more_79 : g_dc cX10_more 79 (.ireturn) 1 80 := ⟨by decide +kernel, rfl⟩
def md_X10_more : List Nat := []
def mr_X10_more : List Nat := [2]
set_option maxHeartbeats 4000000 in
set_option maxRecDepth 100000 in
theorem w_X10_more (l : Launch) (X : gX) (ad : Nat → Nat) (F : Nat → Int32) (R : Nat → Nat → Int32) (hI : g_ok LK_wX F) (hA : g_okR LA_wX R) (a0 : Int32) (a1 : Int32) (a2 : Int32) (a3 : Int32) : g_Ci l X yX10_more cX10_more 5 (some .boolean) 3 0 0 [.ref (ad 0), .int a0, .int a1, .int a2, .int a3] (wX X ad F R) (fun r w => ∃ (F' : Nat → Int32) (R' : Nat → Nat → Int32), w = wX X ad F' R' ∧ g_ok LK_wX F' ∧ g_okR LA_wX R' ∧ g_fr md_X10_more F F' ∧ g_fr mr_X10_more R R' ∧ jv 0 1 r ∧ (r, F', R') = sp_X10_more F R a0 a1 a2 a3) := by
  refine g_mi (by decide +kernel) (Nat.le_of_ble_eq_true rfl) (fun E cx hret => ?_)
  obtain ⟨SP, hSP⟩ : ∃ z, z = sp_X10_more F R a0 a1 a2 a3 := ⟨_, rfl⟩
  have hk0 := hSP
  unfold sp_X10_more at hk0
  refine g_aload_n cx 0 rfl e_X10_more_0 ?_
  refine g_get cx cl_X10 fl_X10_10 0 (.ref (ad 1)) e_X10_more_1 rfl rfl ?_
  refine g_iload_n cx 1 rfl e_X10_more_4 ?_
  refine g_cViW cx [.int a0] [] (w_X8_has_1 l X ad F R hI hA a0) ml_X10_102 yV_X8_has e_X10_more_5 (by unfold g_rr; decide) (by decide) 1 rfl rfl rfl (Nat.le_of_ble_eq_true rfl) (fun r1 w2 h3 => ?_)
  obtain ⟨rfl, pr1, hx4⟩ := h3
  have hk5 := k_ls hk0 hx4
  have J43 : (SP = K_X10_more_43 F R) → G X E 5 0 0 (wX X ad F R) [] 43 [] := by
    intro   hkJ43
    unfold K_X10_more_43 at hkJ43
    refine g_iconst cx 0 (by decide) e_X10_more_43 ?_
    exact hret e_X10_more_44 (Nat.le_of_ble_eq_true rfl) (Nat.le_of_ble_eq_true rfl) rfl ⟨F, R, rfl, hI, hA, (g_fr_rf F), (g_fr_rf R), (jv_w (jv_k (x := 0) 0 (by decide)) (by decide)), (hkJ43.symm.trans hSP)⟩
  refine g_if_eq cx 43 e_X10_more_8 (by decide) (fun zc6 => ?_) (fun zc6 => ?_)
  · have p7 := gn_eq 0 0 (gc_eq zc6) pr1 (jv_k (x := 0) 0 (by decide)) (by decide)
    have hk8 := hk5.trans (if_pos zc6)
    refine g_lsub [] [] rfl ?_
    exact J43  hk8
  · have p9 := gn_neL 1 1 (gc_ne zc6) pr1 (jv_k (x := 0) 0 (by decide)) (by decide)
    have hk10 := hk5.trans (if_neg zc6)
    refine g_iload_n cx 2 rfl e_X10_more_11 ?_
    refine g_iconst cx 0 (by decide) e_X10_more_12 ?_
    refine g_bipush cx 9 (by decide) e_X10_more_13 ?_
    refine g_cSiW cx [.int a1, .int 0, .int 9] [] (c_X10_within l X (wX X ad F R) a1 0 9) ml_X10_82 yS_X10_within rfl e_X10_more_15 (by unfold g_rr; decide) (by decide) rfl (Nat.le_of_ble_eq_true rfl) (fun r11 w12 h13 => ?_)
    obtain ⟨rfl, hr11⟩ := h13
    have pr11 : jv 0 1 r11 := by rw [hr11]; exact gi_01 _ _ _
    have hk14 := k_ls hk10 hr11
    refine g_if_eq cx 43 e_X10_more_18 (by decide) (fun zc15 => ?_) (fun zc15 => ?_)
    · have p16 := gn_eq 0 0 (gc_eq zc15) pr11 (jv_k (x := 0) 0 (by decide)) (by decide)
      have hk17 := hk14.trans (if_pos zc15)
      refine g_lsub [] [] rfl ?_
      exact J43  hk17
    · have p18 := gn_neL 1 1 (gc_ne zc15) pr11 (jv_k (x := 0) 0 (by decide)) (by decide)
      have p19 := jv_i 0 9 (jv_t a1) (gi_in (A := 0) (B := 9) hr11 zc15 (by decide) (by decide)) (by decide)
      have hk20 := hk14.trans (if_neg zc15)
      refine g_iload_n cx 3 rfl e_X10_more_21 ?_
      refine g_iconst cx 0 (by decide) e_X10_more_22 ?_
      refine g_bipush cx 9 (by decide) e_X10_more_23 ?_
      refine g_cSiW cx [.int a2, .int 0, .int 9] [] (c_X10_within l X (wX X ad F R) a2 0 9) ml_X10_82 yS_X10_within rfl e_X10_more_25 (by unfold g_rr; decide) (by decide) rfl (Nat.le_of_ble_eq_true rfl) (fun r21 w22 h23 => ?_)
      obtain ⟨rfl, hr21⟩ := h23
      have pr21 : jv 0 1 r21 := by rw [hr21]; exact gi_01 _ _ _
      have hk24 := k_ls hk20 hr21
      refine g_if_eq cx 43 e_X10_more_28 (by decide) (fun zc25 => ?_) (fun zc25 => ?_)
      · have p26 := gn_eq 0 0 (gc_eq zc25) pr21 (jv_k (x := 0) 0 (by decide)) (by decide)
        have hk27 := hk24.trans (if_pos zc25)
        refine g_lsub [] [] rfl ?_
        exact J43  hk27
      · have p28 := gn_neL 1 1 (gc_ne zc25) pr21 (jv_k (x := 0) 0 (by decide)) (by decide)
        have p29 := jv_i 0 9 (jv_t a2) (gi_in (A := 0) (B := 9) hr21 zc25 (by decide) (by decide)) (by decide)
        have hk30 := hk24.trans (if_neg zc25)
        refine g_iload cx 4 rfl e_X10_more_31 ?_
        refine g_iconst cx 0 (by decide) e_X10_more_33 ?_
        refine g_sipush cx 999 (by decide) e_X10_more_34 ?_
        refine g_cSiW cx [.int a3, .int 0, .int 999] [] (c_X10_within l X (wX X ad F R) a3 0 999) ml_X10_82 yS_X10_within rfl e_X10_more_37 (by unfold g_rr; decide) (by decide) rfl (Nat.le_of_ble_eq_true rfl) (fun r31 w32 h33 => ?_)
        obtain ⟨rfl, hr31⟩ := h33
        have pr31 : jv 0 1 r31 := by rw [hr31]; exact gi_01 _ _ _
        have hk34 := k_ls hk30 hr31
        refine g_if_ne cx 45 e_X10_more_40 (by decide) (fun zc35 => ?_) (fun zc35 => ?_)
        · have p36 := gn_neL 1 1 (gc_ne zc35) pr31 (jv_k (x := 0) 0 (by decide)) (by decide)
          have p37 := jv_i 0 999 (jv_t a3) (gi_in (A := 0) (B := 999) hr31 zc35 (by decide) (by decide)) (by decide)
          have hk38 := hk34.trans (if_neg zc35)
          refine g_aload_n cx 0 rfl e_X10_more_45 ?_
          refine g_get cx cl_X10 fl_X10_10 0 (.ref (ad 1)) e_X10_more_46 rfl rfl ?_
          refine g_iload_n cx 1 rfl e_X10_more_49 ?_
          refine g_iconst cx 5 (by decide) e_X10_more_50 ?_
          refine g_iload_n cx 2 rfl e_X10_more_51 ?_
          refine g_cVvW cx [.int a0, .int 5, .int a1] [] (w_X8_change_1 l X ad F R hI hA a0 5 a1) ml_X10_98 yV_X8_change e_X10_more_52 (by unfold g_rr; decide) (by decide) 1 rfl rfl rfl (Nat.le_of_ble_eq_true rfl) (fun w40 h41 => ?_)
          obtain ⟨F43, R44, rfl, oF43, oR44, cF43, cR44, hx42⟩ := h41
          have hk45 := k_ls2 hk38 hx42
          have fF43 : g_fr md_X10_more F F43 := g_fr_c (g_fr_rf F) cF43 rfl
          have fR44 : g_fr mr_X10_more R R44 := g_fr_c (g_fr_rf R) cR44 rfl
          refine g_aload_n cx 0 rfl e_X10_more_55 ?_
          refine g_get cx cl_X10 fl_X10_10 0 (.ref (ad 1)) e_X10_more_56 rfl rfl ?_
          refine g_iload_n cx 1 rfl e_X10_more_59 ?_
          refine g_bipush cx 6 (by decide) e_X10_more_60 ?_
          refine g_iload_n cx 3 rfl e_X10_more_62 ?_
          refine g_cVvW cx [.int a0, .int 6, .int a2] [] (w_X8_change_1 l X ad F43 R44 oF43 oR44 a0 6 a2) ml_X10_98 yV_X8_change e_X10_more_63 (by unfold g_rr; decide) (by decide) 1 rfl rfl rfl (Nat.le_of_ble_eq_true rfl) (fun w47 h48 => ?_)
          obtain ⟨F50, R51, rfl, oF50, oR51, cF50, cR51, hx49⟩ := h48
          have hk52 := k_ls2 hk45 hx49
          have fF50 : g_fr md_X10_more F F50 := g_fr_c fF43 cF50 rfl
          have fR51 : g_fr mr_X10_more R R51 := g_fr_c fR44 cR51 rfl
          refine g_aload_n cx 0 rfl e_X10_more_66 ?_
          refine g_get cx cl_X10 fl_X10_10 0 (.ref (ad 1)) e_X10_more_67 rfl rfl ?_
          refine g_iload_n cx 1 rfl e_X10_more_70 ?_
          refine g_bipush cx 7 (by decide) e_X10_more_71 ?_
          refine g_iload cx 4 rfl e_X10_more_73 ?_
          refine g_cVvW cx [.int a0, .int 7, .int a3] [] (w_X8_change_1 l X ad F50 R51 oF50 oR51 a0 7 a3) ml_X10_98 yV_X8_change e_X10_more_75 (by unfold g_rr; decide) (by decide) 1 rfl rfl rfl (Nat.le_of_ble_eq_true rfl) (fun w54 h55 => ?_)
          obtain ⟨F57, R58, rfl, oF57, oR58, cF57, cR58, hx56⟩ := h55
          have hk59 := k_ls2 hk52 hx56
          have fF57 : g_fr md_X10_more F F57 := g_fr_c fF50 cF57 rfl
          have fR58 : g_fr mr_X10_more R R58 := g_fr_c fR51 cR58 rfl
          refine g_iconst cx 1 (by decide) e_X10_more_78 ?_
          exact hret e_X10_more_79 (Nat.le_of_ble_eq_true rfl) (Nat.le_of_ble_eq_true rfl) rfl ⟨F57, R58, rfl, oF57, oR58, fF57, fR58, (jv_w (jv_k (x := 1) 1 (by decide)) (by decide)), (hk59.symm.trans hSP)⟩
        · have p60 := gn_eq 0 0 (gc_eq zc35) pr31 (jv_k (x := 0) 0 (by decide)) (by decide)
          have hk61 := hk34.trans (if_pos zc35)
          refine g_lsub [] [] rfl ?_
          exact J43  hk61
def sp_X8_take_1 (F : Nat → Int32) (R : Nat → Nat → Int32) (a0 : Int32) : (Nat → Int32) × (Nat → Nat → Int32) :=
  k_lt (1 <<< (a0 &&& 31)) (fun x1 => k_lt (x1 ^^^ (-1)) (fun x3 => k_lt ((F 19) &&& x3) (fun x5 => k_lt (upd F 19 x5) (fun F7 => (F7, R)))))
theorem e_X8_take_0 : g_dc cX8_take 0 (.aload_n 0) 1 1 := ⟨by decide +kernel, rfl⟩
theorem e_X8_take_1 : g_dc cX8_take 1 (.dup) 1 2 := ⟨by decide +kernel, rfl⟩
theorem e_X8_take_2 : g_dc cX8_take 2 (.getfield 21) 3 5 := ⟨by decide +kernel, rfl⟩
theorem e_X8_take_5 : g_dc cX8_take 5 (.iconst 1) 1 6 := ⟨by decide +kernel, rfl⟩
theorem e_X8_take_6 : g_dc cX8_take 6 (.iload_n 1) 1 7 := ⟨by decide +kernel, rfl⟩
theorem e_X8_take_7 : g_dc cX8_take 7 (.ishl) 1 8 := ⟨by decide +kernel, rfl⟩
theorem e_X8_take_8 : g_dc cX8_take 8 (.iconst (-1)) 1 9 := ⟨by decide +kernel, rfl⟩
theorem e_X8_take_9 : g_dc cX8_take 9 (.ixor) 1 10 := ⟨by decide +kernel, rfl⟩
theorem e_X8_take_10 : g_dc cX8_take 10 (.iand) 1 11 := ⟨by decide +kernel, rfl⟩
theorem e_X8_take_11 : g_dc cX8_take 11 (.putfield 21) 3 14 := ⟨by decide +kernel, rfl⟩
theorem e_X8_take_14 : g_dc cX8_take 14 (.return_) 1 15 := ⟨by decide +kernel, rfl⟩
def md_X8_take_1 : List Nat := [19]
def mr_X8_take_1 : List Nat := []
set_option maxHeartbeats 4000000 in
set_option maxRecDepth 100000 in
theorem w_X8_take_1 (l : Launch) (X : gX) (ad : Nat → Nat) (F : Nat → Int32) (R : Nat → Nat → Int32) (hI : g_ok LK_wX F) (hA : g_okR LA_wX R) (a0 : Int32) : g_Cv l X yX8_take cX8_take 2 1 0 0 [.ref (ad 1), .int a0] (wX X ad F R) (fun w => ∃ (F' : Nat → Int32) (R' : Nat → Nat → Int32), w = wX X ad F' R' ∧ g_ok LK_wX F' ∧ g_okR LA_wX R' ∧ g_fr md_X8_take_1 F F' ∧ g_fr mr_X8_take_1 R R' ∧ (F', R') = sp_X8_take_1 F R a0) := by
  refine g_mv (by decide +kernel) (Nat.le_of_ble_eq_true rfl) (fun E cx hret => ?_)
  obtain ⟨SP, hSP⟩ : ∃ z, z = sp_X8_take_1 F R a0 := ⟨_, rfl⟩
  have hk0 := hSP
  unfold sp_X8_take_1 at hk0
  refine g_aload_n cx 0 rfl e_X8_take_0 ?_
  refine g_dup cx rfl e_X8_take_1 ?_
  refine g_get cx cl_X8 fl_X8_21 1 (.int (F 19)) e_X8_take_2 rfl rfl ?_
  refine g_iconst cx 1 (by decide) e_X8_take_5 ?_
  refine g_iload_n cx 1 rfl e_X8_take_6 ?_
  refine g_ishl cx e_X8_take_7 ?_
  refine g_topi (fun x1 ex1 => ?_)
  have hk2 := k_ls hk0 ex1
  refine g_iconst cx (-1) (by decide) e_X8_take_8 ?_
  refine g_ixor cx e_X8_take_9 ?_
  refine g_topi (fun x3 ex3 => ?_)
  have hk4 := k_ls hk2 ex3
  refine g_iand cx e_X8_take_10 ?_
  refine g_topi (fun x5 ex5 => ?_)
  have hk6 := k_ls hk4 ex5
  refine g_put cx cl_X8 fl_X8_21 1 (wX X ad (upd F 19 x5) R) e_X8_take_11 rfl rfl rfl rfl (Nat.le_of_ble_eq_true rfl) rfl ?_
  obtain ⟨F7, hF7⟩ : ∃ z, z = upd F 19 x5 := ⟨_, rfl⟩
  rw [← hF7]
  have hk8 := k_ls hk6 hF7
  have oF7 : g_ok LK_wX F7 := by rw [hF7]; exact g_ok_u hI rfl
  have fF7 : g_fr md_X8_take_1 F F7 := by rw [hF7]; exact g_fr_u (g_fr_rf F) rfl
  exact hret e_X8_take_14 (Nat.le_of_ble_eq_true rfl) (Nat.le_of_ble_eq_true rfl) ⟨F7, R, rfl, oF7, hA, fF7, (g_fr_rf R), (hk8.symm.trans hSP)⟩
def sp_X10_away (F : Nat → Int32) (R : Nat → Nat → Int32) (a0 : Int32) : Int32 × (Nat → Int32) × (Nat → Nat → Int32) :=
  k_lt (sp_X8_has_1 F R a0) (fun r1 => if r1 = 0 then (0, F, R) else k_lt2 (sp_X8_take_1 F R a0) (fun F13 R14 => (1, F13, R14)))
theorem e_X10_away_0 : g_dc cX10_away 0 (.aload_n 0) 1 1 := ⟨by decide +kernel, rfl⟩
theorem e_X10_away_1 : g_dc cX10_away 1 (.getfield 10) 3 4 := ⟨by decide +kernel, rfl⟩
theorem e_X10_away_4 : g_dc cX10_away 4 (.iload_n 1) 1 5 := ⟨by decide +kernel, rfl⟩
theorem e_X10_away_5 : g_dc cX10_away 5 (.invokevirtual 102) 3 8 := ⟨by decide +kernel, rfl⟩
theorem e_X10_away_8 : g_dc cX10_away 8 (.ifCond .ne 5) 3 11 := ⟨by decide +kernel, rfl⟩
theorem e_X10_away_11 : g_dc cX10_away 11 (.iconst 0) 1 12 := ⟨by decide +kernel, rfl⟩
theorem e_X10_away_12 : g_dc cX10_away 12 (.ireturn) 1 13 := ⟨by decide +kernel, rfl⟩
theorem e_X10_away_13 : g_dc cX10_away 13 (.aload_n 0) 1 14 := ⟨by decide +kernel, rfl⟩
theorem e_X10_away_14 : g_dc cX10_away 14 (.getfield 10) 3 17 := ⟨by decide +kernel, rfl⟩
theorem e_X10_away_17 : g_dc cX10_away 17 (.iload_n 1) 1 18 := ⟨by decide +kernel, rfl⟩
theorem e_X10_away_18 : g_dc cX10_away 18 (.invokevirtual 106) 3 21 := ⟨by decide +kernel, rfl⟩
theorem e_X10_away_21 : g_dc cX10_away 21 (.iconst 1) 1 22 := ⟨by decide +kernel, rfl⟩
theorem e_X10_away_22 : g_dc cX10_away 22 (.ireturn) 1 23 := ⟨by decide +kernel, rfl⟩
def md_X10_away : List Nat := [19]
def mr_X10_away : List Nat := []
set_option maxHeartbeats 4000000 in
set_option maxRecDepth 100000 in
theorem w_X10_away (l : Launch) (X : gX) (ad : Nat → Nat) (F : Nat → Int32) (R : Nat → Nat → Int32) (hI : g_ok LK_wX F) (hA : g_okR LA_wX R) (a0 : Int32) : g_Ci l X yX10_away cX10_away 2 (some .boolean) 3 0 0 [.ref (ad 0), .int a0] (wX X ad F R) (fun r w => ∃ (F' : Nat → Int32) (R' : Nat → Nat → Int32), w = wX X ad F' R' ∧ g_ok LK_wX F' ∧ g_okR LA_wX R' ∧ g_fr md_X10_away F F' ∧ g_fr mr_X10_away R R' ∧ jv 0 1 r ∧ (r, F', R') = sp_X10_away F R a0) := by
  refine g_mi (by decide +kernel) (Nat.le_of_ble_eq_true rfl) (fun E cx hret => ?_)
  obtain ⟨SP, hSP⟩ : ∃ z, z = sp_X10_away F R a0 := ⟨_, rfl⟩
  have hk0 := hSP
  unfold sp_X10_away at hk0
  refine g_aload_n cx 0 rfl e_X10_away_0 ?_
  refine g_get cx cl_X10 fl_X10_10 0 (.ref (ad 1)) e_X10_away_1 rfl rfl ?_
  refine g_iload_n cx 1 rfl e_X10_away_4 ?_
  refine g_cViW cx [.int a0] [] (w_X8_has_1 l X ad F R hI hA a0) ml_X10_102 yV_X8_has e_X10_away_5 (by unfold g_rr; decide) (by decide) 1 rfl rfl rfl (Nat.le_of_ble_eq_true rfl) (fun r1 w2 h3 => ?_)
  obtain ⟨rfl, pr1, hx4⟩ := h3
  have hk5 := k_ls hk0 hx4
  refine g_if_ne cx 13 e_X10_away_8 (by decide) (fun zc6 => ?_) (fun zc6 => ?_)
  · have p7 := gn_neL 1 1 (gc_ne zc6) pr1 (jv_k (x := 0) 0 (by decide)) (by decide)
    have hk8 := hk5.trans (if_neg zc6)
    refine g_aload_n cx 0 rfl e_X10_away_13 ?_
    refine g_get cx cl_X10 fl_X10_10 0 (.ref (ad 1)) e_X10_away_14 rfl rfl ?_
    refine g_iload_n cx 1 rfl e_X10_away_17 ?_
    refine g_cVvW cx [.int a0] [] (w_X8_take_1 l X ad F R hI hA a0) ml_X10_106 yV_X8_take e_X10_away_18 (by unfold g_rr; decide) (by decide) 1 rfl rfl rfl (Nat.le_of_ble_eq_true rfl) (fun w10 h11 => ?_)
    obtain ⟨F13, R14, rfl, oF13, oR14, cF13, cR14, hx12⟩ := h11
    have hk15 := k_ls2 hk8 hx12
    have fF13 : g_fr md_X10_away F F13 := g_fr_c (g_fr_rf F) cF13 rfl
    have fR14 : g_fr mr_X10_away R R14 := g_fr_c (g_fr_rf R) cR14 rfl
    refine g_iconst cx 1 (by decide) e_X10_away_21 ?_
    exact hret e_X10_away_22 (Nat.le_of_ble_eq_true rfl) (Nat.le_of_ble_eq_true rfl) rfl ⟨F13, R14, rfl, oF13, oR14, fF13, fR14, (jv_w (jv_k (x := 1) 1 (by decide)) (by decide)), (hk15.symm.trans hSP)⟩
  · have p16 := gn_eq 0 0 (gc_eq zc6) pr1 (jv_k (x := 0) 0 (by decide)) (by decide)
    have hk17 := hk5.trans (if_pos zc6)
    refine g_iconst cx 0 (by decide) e_X10_away_11 ?_
    exact hret e_X10_away_12 (Nat.le_of_ble_eq_true rfl) (Nat.le_of_ble_eq_true rfl) rfl ⟨F, R, rfl, hI, hA, (g_fr_rf F), (g_fr_rf R), (jv_w (jv_k (x := 0) 0 (by decide)) (by decide)), (hk17.symm.trans hSP)⟩
def K_X8_side_1_35  (y5 : Int32) : Int32 :=
  y5
def K_X8_side_1_34   : Int32 :=
  K_X8_side_1_35 0
def sp_X8_side_1 (F : Nat → Int32) (R : Nat → Nat → Int32) (a0 : Int32) (a1 : Int32) : Int32 :=
  k_lt (g_in a0 0 9) (fun r1 => if r1 = 0 then K_X8_side_1_34 else k_lt (g_in a1 0 7) (fun r12 => if r12 = 0 then K_X8_side_1_34 else k_lt (a0 * 8) (fun x22 => k_lt (x22 + a1) (fun x24 => k_lt (R 2 (Int32.toNatClampNeg x24)) (fun x26 => K_X8_side_1_35 x26)))))
theorem e_X8_side_0 : g_dc cX8_side 0 (.iload_n 1) 1 1 := ⟨by decide +kernel, rfl⟩
theorem e_X8_side_1 : g_dc cX8_side 1 (.iconst 0) 1 2 := ⟨by decide +kernel, rfl⟩
theorem e_X8_side_2 : g_dc cX8_side 2 (.bipush 9) 2 4 := ⟨by decide +kernel, rfl⟩
theorem e_X8_side_4 : g_dc cX8_side 4 (.invokestatic 31) 3 7 := ⟨by decide +kernel, rfl⟩
theorem e_X8_side_7 : g_dc cX8_side 7 (.ifCond .eq 27) 3 10 := ⟨by decide +kernel, rfl⟩
theorem e_X8_side_10 : g_dc cX8_side 10 (.iload_n 2) 1 11 := ⟨by decide +kernel, rfl⟩
theorem e_X8_side_11 : g_dc cX8_side 11 (.iconst 0) 1 12 := ⟨by decide +kernel, rfl⟩
theorem e_X8_side_12 : g_dc cX8_side 12 (.bipush 7) 2 14 := ⟨by decide +kernel, rfl⟩
theorem e_X8_side_14 : g_dc cX8_side 14 (.invokestatic 31) 3 17 := ⟨by decide +kernel, rfl⟩
theorem e_X8_side_17 : g_dc cX8_side 17 (.ifCond .eq 17) 3 20 := ⟨by decide +kernel, rfl⟩
theorem e_X8_side_20 : g_dc cX8_side 20 (.aload_n 0) 1 21 := ⟨by decide +kernel, rfl⟩
theorem e_X8_side_21 : g_dc cX8_side 21 (.getfield 27) 3 24 := ⟨by decide +kernel, rfl⟩
theorem e_X8_side_24 : g_dc cX8_side 24 (.iload_n 1) 1 25 := ⟨by decide +kernel, rfl⟩
theorem e_X8_side_25 : g_dc cX8_side 25 (.bipush 8) 2 27 := ⟨by decide +kernel, rfl⟩
theorem e_X8_side_27 : g_dc cX8_side 27 (.imul) 1 28 := ⟨by decide +kernel, rfl⟩
theorem e_X8_side_28 : g_dc cX8_side 28 (.iload_n 2) 1 29 := ⟨by decide +kernel, rfl⟩
theorem e_X8_side_29 : g_dc cX8_side 29 (.iadd) 1 30 := ⟨by decide +kernel, rfl⟩
theorem e_X8_side_30 : g_dc cX8_side 30 (.iaload) 1 31 := ⟨by decide +kernel, rfl⟩
theorem e_X8_side_31 : g_dc cX8_side 31 (.goto 4) 3 34 := ⟨by decide +kernel, rfl⟩
theorem e_X8_side_34 : g_dc cX8_side 34 (.iconst 0) 1 35 := ⟨by decide +kernel, rfl⟩
theorem e_X8_side_35 : g_dc cX8_side 35 (.ireturn) 1 36 := ⟨by decide +kernel, rfl⟩
set_option maxHeartbeats 4000000 in
set_option maxRecDepth 100000 in
theorem w_X8_side_1 (l : Launch) (X : gX) (ad : Nat → Nat) (F : Nat → Int32) (R : Nat → Nat → Int32) (hI : g_ok LK_wX F) (hA : g_okR LA_wX R) (a0 : Int32) (a1 : Int32) : g_Ci l X yX8_side cX8_side 3 (some .int) 2 0 0 [.ref (ad 1), .int a0, .int a1] (wX X ad F R) (fun r w => w = wX X ad F R ∧ jv (-2147483648) 2147483647 r ∧ r = sp_X8_side_1 F R a0 a1) := by
  refine g_mi (by decide +kernel) (Nat.le_of_ble_eq_true rfl) (fun E cx hret => ?_)
  obtain ⟨SP, hSP⟩ : ∃ z, z = sp_X8_side_1 F R a0 a1 := ⟨_, rfl⟩
  have hk0 := hSP
  unfold sp_X8_side_1 at hk0
  refine g_iload_n cx 1 rfl e_X8_side_0 ?_
  refine g_iconst cx 0 (by decide) e_X8_side_1 ?_
  refine g_bipush cx 9 (by decide) e_X8_side_2 ?_
  refine g_cNiW cx [.int a0, .int 0, .int 9] [] (c_X10_within l X (wX X ad F R) a0 0 9) mn_X8_31 yS_X10_within e_X8_side_4 (by unfold g_rr; decide) (by decide) rfl (Nat.le_of_ble_eq_true rfl) (fun r1 w2 h3 => ?_)
  obtain ⟨rfl, hr1⟩ := h3
  have pr1 : jv 0 1 r1 := by rw [hr1]; exact gi_01 _ _ _
  have hk4 := k_ls hk0 hr1
  have J35 : ∀ (y5 : Int32), (jv (-2147483648) 2147483647 y5) → (SP = K_X8_side_1_35 y5) → G X E 3 0 0 (wX X ad F R) [] 35 [.int y5] := by
    intro y5 py5 hkJ35
    unfold K_X8_side_1_35 at hkJ35
    exact hret e_X8_side_35 (Nat.le_of_ble_eq_true rfl) (Nat.le_of_ble_eq_true rfl) rfl ⟨rfl, py5, (hkJ35.symm.trans hSP)⟩
  have J34 : (SP = K_X8_side_1_34) → G X E 3 0 0 (wX X ad F R) [] 34 [] := by
    intro   hkJ34
    unfold K_X8_side_1_34 at hkJ34
    refine g_iconst cx 0 (by decide) e_X8_side_34 ?_
    exact J35 0 (jv_w (jv_k (x := 0) 0 (by decide)) (by decide)) hkJ34
  refine g_if_eq cx 34 e_X8_side_7 (by decide) (fun zc6 => ?_) (fun zc6 => ?_)
  · have p7 := gn_eq 0 0 (gc_eq zc6) pr1 (jv_k (x := 0) 0 (by decide)) (by decide)
    have hk8 := hk4.trans (if_pos zc6)
    refine g_lsub [] [] rfl ?_
    exact J34  hk8
  · have p9 := gn_neL 1 1 (gc_ne zc6) pr1 (jv_k (x := 0) 0 (by decide)) (by decide)
    have p10 := jv_i 0 9 (jv_t a0) (gi_in (A := 0) (B := 9) hr1 zc6 (by decide) (by decide)) (by decide)
    have hk11 := hk4.trans (if_neg zc6)
    refine g_iload_n cx 2 rfl e_X8_side_10 ?_
    refine g_iconst cx 0 (by decide) e_X8_side_11 ?_
    refine g_bipush cx 7 (by decide) e_X8_side_12 ?_
    refine g_cNiW cx [.int a1, .int 0, .int 7] [] (c_X10_within l X (wX X ad F R) a1 0 7) mn_X8_31 yS_X10_within e_X8_side_14 (by unfold g_rr; decide) (by decide) rfl (Nat.le_of_ble_eq_true rfl) (fun r12 w13 h14 => ?_)
    obtain ⟨rfl, hr12⟩ := h14
    have pr12 : jv 0 1 r12 := by rw [hr12]; exact gi_01 _ _ _
    have hk15 := k_ls hk11 hr12
    refine g_if_eq cx 34 e_X8_side_17 (by decide) (fun zc16 => ?_) (fun zc16 => ?_)
    · have p17 := gn_eq 0 0 (gc_eq zc16) pr12 (jv_k (x := 0) 0 (by decide)) (by decide)
      have hk18 := hk15.trans (if_pos zc16)
      refine g_lsub [] [] rfl ?_
      exact J34  hk18
    · have p19 := gn_neL 1 1 (gc_ne zc16) pr12 (jv_k (x := 0) 0 (by decide)) (by decide)
      have p20 := jv_i 0 7 (jv_t a1) (gi_in (A := 0) (B := 7) hr12 zc16 (by decide) (by decide)) (by decide)
      have hk21 := hk15.trans (if_neg zc16)
      refine g_aload_n cx 0 rfl e_X8_side_20 ?_
      refine g_get cx cl_X8 fl_X8_27 1 (.ref (ad 2)) e_X8_side_21 rfl rfl ?_
      refine g_iload_n cx 1 rfl e_X8_side_24 ?_
      refine g_bipush cx 8 (by decide) e_X8_side_25 ?_
      refine g_imul cx e_X8_side_27 ?_
      refine g_topi (fun x22 ex22 => ?_)
      have hk23 := k_ls hk21 ex22
      have zx22 := jv_mul 0 72 ex22 p10 (jv_k (x := 8) 8 (by decide)) (by decide)
      refine g_iload_n cx 2 rfl e_X8_side_28 ?_
      refine g_iadd cx e_X8_side_29 ?_
      refine g_topi (fun x24 ex24 => ?_)
      have hk25 := k_ls hk23 ex24
      have zx24 := jv_add 0 79 ex24 zx22.2 p20 (by decide)
      refine g_iald cx 2 e_X8_side_30 rfl (jv_ix 80 zx24.2 (by decide)) ?_
      refine g_topi (fun x26 ex26 => ?_)
      have hk27 := k_ls hk25 ex26
      refine g_goto cx 35 e_X8_side_31 (by decide) ?_
      refine g_lsub [] [] rfl ?_
      exact J35 x26 (jv_t x26) hk27
def K_X10_thingIs_34  (y6 : Int32) : Int32 :=
  y6
def K_X10_thingIs_33   : Int32 :=
  K_X10_thingIs_34 (-1)
def sp_X10_thingIs (F : Nat → Int32) (R : Nat → Nat → Int32) (a0 : Int32) (a1 : Int32) : Int32 :=
  k_lt (sp_X8_has_1 F R a0) (fun r1 => if r1 = 0 then K_X10_thingIs_33 else k_lt (g_in a1 0 7) (fun r12 => if r12 = 0 then K_X10_thingIs_33 else k_lt (sp_X8_side_1 F R a0 a1) (fun r22 => K_X10_thingIs_34 r22)))
theorem e_X10_thingIs_0 : g_dc cX10_thingIs 0 (.aload_n 0) 1 1 := ⟨by decide +kernel, rfl⟩
theorem e_X10_thingIs_1 : g_dc cX10_thingIs 1 (.getfield 10) 3 4 := ⟨by decide +kernel, rfl⟩
theorem e_X10_thingIs_4 : g_dc cX10_thingIs 4 (.iload_n 1) 1 5 := ⟨by decide +kernel, rfl⟩
theorem e_X10_thingIs_5 : g_dc cX10_thingIs 5 (.invokevirtual 102) 3 8 := ⟨by decide +kernel, rfl⟩
theorem e_X10_thingIs_8 : g_dc cX10_thingIs 8 (.ifCond .eq 25) 3 11 := ⟨by decide +kernel, rfl⟩
theorem e_X10_thingIs_11 : g_dc cX10_thingIs 11 (.iload_n 2) 1 12 := ⟨by decide +kernel, rfl⟩
theorem e_X10_thingIs_12 : g_dc cX10_thingIs 12 (.iconst 0) 1 13 := ⟨by decide +kernel, rfl⟩
theorem e_X10_thingIs_13 : g_dc cX10_thingIs 13 (.bipush 7) 2 15 := ⟨by decide +kernel, rfl⟩
theorem e_X10_thingIs_15 : g_dc cX10_thingIs 15 (.invokestatic 82) 3 18 := ⟨by decide +kernel, rfl⟩
theorem e_X10_thingIs_18 : g_dc cX10_thingIs 18 (.ifCond .eq 15) 3 21 := ⟨by decide +kernel, rfl⟩
theorem e_X10_thingIs_21 : g_dc cX10_thingIs 21 (.aload_n 0) 1 22 := ⟨by decide +kernel, rfl⟩
theorem e_X10_thingIs_22 : g_dc cX10_thingIs 22 (.getfield 10) 3 25 := ⟨by decide +kernel, rfl⟩
theorem e_X10_thingIs_25 : g_dc cX10_thingIs 25 (.iload_n 1) 1 26 := ⟨by decide +kernel, rfl⟩
theorem e_X10_thingIs_26 : g_dc cX10_thingIs 26 (.iload_n 2) 1 27 := ⟨by decide +kernel, rfl⟩
theorem e_X10_thingIs_27 : g_dc cX10_thingIs 27 (.invokevirtual 173) 3 30 := ⟨by decide +kernel, rfl⟩
theorem e_X10_thingIs_30 : g_dc cX10_thingIs 30 (.goto 4) 3 33 := ⟨by decide +kernel, rfl⟩
theorem e_X10_thingIs_33 : g_dc cX10_thingIs 33 (.iconst (-1)) 1 34 := ⟨by decide +kernel, rfl⟩
theorem e_X10_thingIs_34 : g_dc cX10_thingIs 34 (.ireturn) 1 35 := ⟨by decide +kernel, rfl⟩
set_option maxHeartbeats 4000000 in
set_option maxRecDepth 100000 in
theorem w_X10_thingIs (l : Launch) (X : gX) (ad : Nat → Nat) (F : Nat → Int32) (R : Nat → Nat → Int32) (hI : g_ok LK_wX F) (hA : g_okR LA_wX R) (a0 : Int32) (a1 : Int32) : g_Ci l X yX10_thingIs cX10_thingIs 3 (some .int) 3 0 0 [.ref (ad 0), .int a0, .int a1] (wX X ad F R) (fun r w => w = wX X ad F R ∧ jv (-2147483648) 2147483647 r ∧ r = sp_X10_thingIs F R a0 a1) := by
  refine g_mi (by decide +kernel) (Nat.le_of_ble_eq_true rfl) (fun E cx hret => ?_)
  obtain ⟨SP, hSP⟩ : ∃ z, z = sp_X10_thingIs F R a0 a1 := ⟨_, rfl⟩
  have hk0 := hSP
  unfold sp_X10_thingIs at hk0
  refine g_aload_n cx 0 rfl e_X10_thingIs_0 ?_
  refine g_get cx cl_X10 fl_X10_10 0 (.ref (ad 1)) e_X10_thingIs_1 rfl rfl ?_
  refine g_iload_n cx 1 rfl e_X10_thingIs_4 ?_
  refine g_cViW cx [.int a0] [] (w_X8_has_1 l X ad F R hI hA a0) ml_X10_102 yV_X8_has e_X10_thingIs_5 (by unfold g_rr; decide) (by decide) 1 rfl rfl rfl (Nat.le_of_ble_eq_true rfl) (fun r1 w2 h3 => ?_)
  obtain ⟨rfl, pr1, hx4⟩ := h3
  have hk5 := k_ls hk0 hx4
  have J34 : ∀ (y6 : Int32), (jv (-2147483648) 2147483647 y6) → (SP = K_X10_thingIs_34 y6) → G X E 3 0 0 (wX X ad F R) [] 34 [.int y6] := by
    intro y6 py6 hkJ34
    unfold K_X10_thingIs_34 at hkJ34
    exact hret e_X10_thingIs_34 (Nat.le_of_ble_eq_true rfl) (Nat.le_of_ble_eq_true rfl) rfl ⟨rfl, py6, (hkJ34.symm.trans hSP)⟩
  have J33 : (SP = K_X10_thingIs_33) → G X E 3 0 0 (wX X ad F R) [] 33 [] := by
    intro   hkJ33
    unfold K_X10_thingIs_33 at hkJ33
    refine g_iconst cx (-1) (by decide) e_X10_thingIs_33 ?_
    exact J34 (-1) (jv_w (jv_k (x := (-1)) (-1) (by decide)) (by decide)) hkJ33
  refine g_if_eq cx 33 e_X10_thingIs_8 (by decide) (fun zc7 => ?_) (fun zc7 => ?_)
  · have p8 := gn_eq 0 0 (gc_eq zc7) pr1 (jv_k (x := 0) 0 (by decide)) (by decide)
    have hk9 := hk5.trans (if_pos zc7)
    refine g_lsub [] [] rfl ?_
    exact J33  hk9
  · have p10 := gn_neL 1 1 (gc_ne zc7) pr1 (jv_k (x := 0) 0 (by decide)) (by decide)
    have hk11 := hk5.trans (if_neg zc7)
    refine g_iload_n cx 2 rfl e_X10_thingIs_11 ?_
    refine g_iconst cx 0 (by decide) e_X10_thingIs_12 ?_
    refine g_bipush cx 7 (by decide) e_X10_thingIs_13 ?_
    refine g_cSiW cx [.int a1, .int 0, .int 7] [] (c_X10_within l X (wX X ad F R) a1 0 7) ml_X10_82 yS_X10_within rfl e_X10_thingIs_15 (by unfold g_rr; decide) (by decide) rfl (Nat.le_of_ble_eq_true rfl) (fun r12 w13 h14 => ?_)
    obtain ⟨rfl, hr12⟩ := h14
    have pr12 : jv 0 1 r12 := by rw [hr12]; exact gi_01 _ _ _
    have hk15 := k_ls hk11 hr12
    refine g_if_eq cx 33 e_X10_thingIs_18 (by decide) (fun zc16 => ?_) (fun zc16 => ?_)
    · have p17 := gn_eq 0 0 (gc_eq zc16) pr12 (jv_k (x := 0) 0 (by decide)) (by decide)
      have hk18 := hk15.trans (if_pos zc16)
      refine g_lsub [] [] rfl ?_
      exact J33  hk18
    · have p19 := gn_neL 1 1 (gc_ne zc16) pr12 (jv_k (x := 0) 0 (by decide)) (by decide)
      have p20 := jv_i 0 7 (jv_t a1) (gi_in (A := 0) (B := 7) hr12 zc16 (by decide) (by decide)) (by decide)
      have hk21 := hk15.trans (if_neg zc16)
      refine g_aload_n cx 0 rfl e_X10_thingIs_21 ?_
      refine g_get cx cl_X10 fl_X10_10 0 (.ref (ad 1)) e_X10_thingIs_22 rfl rfl ?_
      refine g_iload_n cx 1 rfl e_X10_thingIs_25 ?_
      refine g_iload_n cx 2 rfl e_X10_thingIs_26 ?_
      refine g_cViW cx [.int a0, .int a1] [] (w_X8_side_1 l X ad F R hI hA a0 a1) ml_X10_173 yV_X8_side e_X10_thingIs_27 (by unfold g_rr; decide) (by decide) 1 rfl rfl rfl (Nat.le_of_ble_eq_true rfl) (fun r22 w23 h24 => ?_)
      obtain ⟨rfl, pr22, hx25⟩ := h24
      have hk26 := k_ls hk21 hx25
      refine g_goto cx 34 e_X10_thingIs_30 (by decide) ?_
      refine g_lsub [] [] rfl ?_
      exact J34 r22 pr22 hk26
def K_X9_add_43 (b3 : (Nat → Int32) → (Nat → Nat → Int32) → (Int32) → (Nat → Int32) × (Nat → Nat → Int32)) (y1 : Int32) (F9 : Nat → Int32) (R10 : Nat → Nat → Int32) : (Nat → Int32) × (Nat → Nat → Int32) :=
  k_lt (y1 + (-8)) (fun x11 => b3 F9 R10 x11)
def KB_X9_add_3 (b3 : (Nat → Int32) → (Nat → Nat → Int32) → (Int32) → (Nat → Int32) × (Nat → Nat → Int32)) (a0 : Int32) (F2 : Nat → Int32) (R3 : Nat → Nat → Int32) (y1 : Int32) : (Nat → Int32) × (Nat → Nat → Int32) :=
  if y1 < 0 then (F2, R3) else if 220 ≤ (F2 145) then K_X9_add_43 b3 y1 F2 R3 else k_lt ((Int32.toUInt32 a0 >>> (Int32.toUInt32 y1 &&& Int32.toUInt32 31)).toInt32) (fun x18 => k_lt (x18 &&& 255) (fun x20 => k_lt (g_u R3 10 (upd (R3 10) (Int32.toNatClampNeg (F2 145)) x20)) (fun R22 => k_lt ((F2 145) + 1) (fun x24 => k_lt (upd F2 145 x24) (fun F26 => K_X9_add_43 b3 y1 F26 R22)))))
def K_X9_add_3 (a0 : Int32) : Nat → (Nat → Int32) → (Nat → Nat → Int32) → (Int32) → (Nat → Int32) × (Nat → Nat → Int32)
  | 0 => fun F2 R3 _ => (F2, R3)
  | n + 1 => KB_X9_add_3 (K_X9_add_3 a0 n) a0
def sp_X9_add (F : Nat → Int32) (R : Nat → Nat → Int32) (a0 : Int32) : (Nat → Int32) × (Nat → Nat → Int32) :=
  K_X9_add_3 a0 8589934592 F R 24
theorem e_X9_add_0 : g_dc cX9_add 0 (.bipush 24) 2 2 := ⟨by decide +kernel, rfl⟩
theorem e_X9_add_2 : g_dc cX9_add 2 (.istore_n 2) 1 3 := ⟨by decide +kernel, rfl⟩
theorem e_X9_add_3 : g_dc cX9_add 3 (.iload_n 2) 1 4 := ⟨by decide +kernel, rfl⟩
theorem e_X9_add_4 : g_dc cX9_add 4 (.ifCond .lt 45) 3 7 := ⟨by decide +kernel, rfl⟩
theorem e_X9_add_7 : g_dc cX9_add 7 (.aload_n 0) 1 8 := ⟨by decide +kernel, rfl⟩
theorem e_X9_add_8 : g_dc cX9_add 8 (.getfield 15) 3 11 := ⟨by decide +kernel, rfl⟩
theorem e_X9_add_11 : g_dc cX9_add 11 (.sipush 220) 3 14 := ⟨by decide +kernel, rfl⟩
theorem e_X9_add_14 : g_dc cX9_add 14 (.if_icmp .ge 29) 3 17 := ⟨by decide +kernel, rfl⟩
theorem e_X9_add_17 : g_dc cX9_add 17 (.aload_n 0) 1 18 := ⟨by decide +kernel, rfl⟩
theorem e_X9_add_18 : g_dc cX9_add 18 (.getfield 9) 3 21 := ⟨by decide +kernel, rfl⟩
theorem e_X9_add_21 : g_dc cX9_add 21 (.aload_n 0) 1 22 := ⟨by decide +kernel, rfl⟩
theorem e_X9_add_22 : g_dc cX9_add 22 (.getfield 15) 3 25 := ⟨by decide +kernel, rfl⟩
theorem e_X9_add_25 : g_dc cX9_add 25 (.iload_n 1) 1 26 := ⟨by decide +kernel, rfl⟩
theorem e_X9_add_26 : g_dc cX9_add 26 (.iload_n 2) 1 27 := ⟨by decide +kernel, rfl⟩
theorem e_X9_add_27 : g_dc cX9_add 27 (.iushr) 1 28 := ⟨by decide +kernel, rfl⟩
theorem e_X9_add_28 : g_dc cX9_add 28 (.sipush 255) 3 31 := ⟨by decide +kernel, rfl⟩
theorem e_X9_add_31 : g_dc cX9_add 31 (.iand) 1 32 := ⟨by decide +kernel, rfl⟩
theorem e_X9_add_32 : g_dc cX9_add 32 (.iastore) 1 33 := ⟨by decide +kernel, rfl⟩
theorem e_X9_add_33 : g_dc cX9_add 33 (.aload_n 0) 1 34 := ⟨by decide +kernel, rfl⟩
theorem e_X9_add_34 : g_dc cX9_add 34 (.dup) 1 35 := ⟨by decide +kernel, rfl⟩
theorem e_X9_add_35 : g_dc cX9_add 35 (.getfield 15) 3 38 := ⟨by decide +kernel, rfl⟩
theorem e_X9_add_38 : g_dc cX9_add 38 (.iconst 1) 1 39 := ⟨by decide +kernel, rfl⟩
theorem e_X9_add_39 : g_dc cX9_add 39 (.iadd) 1 40 := ⟨by decide +kernel, rfl⟩
theorem e_X9_add_40 : g_dc cX9_add 40 (.putfield 15) 3 43 := ⟨by decide +kernel, rfl⟩
theorem e_X9_add_43 : g_dc cX9_add 43 (.iinc 2 (-8)) 3 46 := ⟨by decide +kernel, rfl⟩
theorem e_X9_add_46 : g_dc cX9_add 46 (.goto (-43)) 3 49 := ⟨by decide +kernel, rfl⟩
theorem e_X9_add_49 : g_dc cX9_add 49 (.return_) 1 50 := ⟨by decide +kernel, rfl⟩
def md_X9_add : List Nat := [145]
def mr_X9_add : List Nat := [10]
set_option maxHeartbeats 4000000 in
set_option maxRecDepth 100000 in
theorem w_X9_add (l : Launch) (X : gX) (ad : Nat → Nat) (F : Nat → Int32) (R : Nat → Nat → Int32) (hI : g_ok LK_wX F) (hA : g_okR LA_wX R) (a0 : Int32) : g_Cv l X yX9_add cX9_add 3 1 0 0 [.ref (ad 9), .int a0] (wX X ad F R) (fun w => ∃ (F' : Nat → Int32) (R' : Nat → Nat → Int32), w = wX X ad F' R' ∧ g_ok LK_wX F' ∧ g_okR LA_wX R' ∧ g_fr md_X9_add F F' ∧ g_fr mr_X9_add R R' ∧ (F', R') = sp_X9_add F R a0) := by
  refine g_mv (by decide +kernel) (Nat.le_of_ble_eq_true rfl) (fun E cx hret => ?_)
  obtain ⟨SP, hSP⟩ : ∃ z, z = sp_X9_add F R a0 := ⟨_, rfl⟩
  have hk0 := hSP
  unfold sp_X9_add at hk0
  refine g_bipush cx 24 (by decide) e_X9_add_0 ?_
  refine g_istore_n cx [(2, .int 24), (0, .ref (ad 9)), (1, .int a0)] e_X9_add_2 (by decide) rfl ?_
  have J3 : ∀ (N : Nat) (F2 : Nat → Int32) (R3 : Nat → Nat → Int32) (y1 : Int32), (g_ok LK_wX F2) → (g_fr md_X9_add F F2) → (g_okR LA_wX R3) → (g_fr mr_X9_add R R3) → (jv (-2147483648) 24 y1) → (SP = K_X9_add_3 a0 N F2 R3 y1) → (y1.toInt + 2147483648).toNat < N → G X E 3 0 0 (wX X ad F2 R3) [(0, .ref (ad 9)), (1, .int a0), (2, .int y1)] 3 [] := by
    intro N
    induction N with
    | zero => intro F2 R3 y1 oF2 fF2 oR3 fR3 py1 hkJ3 hm; exact absurd hm (Nat.not_lt_zero _)
    | succ N ih3 =>
      intro F2 R3 y1 oF2 fF2 oR3 fR3 py1 hkJ3 hm3
      have hkK3 : SP = KB_X9_add_3 (K_X9_add_3 a0 N) a0 F2 R3 y1 := hkJ3
      obtain ⟨b3, hb3⟩ : ∃ z, z = K_X9_add_3 a0 N := ⟨_, rfl⟩
      rw [← hb3] at hkK3
      unfold KB_X9_add_3 at hkK3
      refine g_iload_n cx 2 rfl e_X9_add_3 ?_
      refine g_if_lt cx 49 e_X9_add_4 (by decide) (fun zc4 => ?_) (fun zc4 => ?_)
      · have p5 := gn_lt (-2147483648) (-1) (gc_lt zc4) py1 (jv_k (x := 0) 0 (by decide)) (by decide)
        have hk6 := hkK3.trans (if_pos zc4)
        exact hret e_X9_add_49 (Nat.le_of_ble_eq_true rfl) (Nat.le_of_ble_eq_true rfl) ⟨F2, R3, rfl, oF2, oR3, fF2, fR3, (hk6.symm.trans hSP)⟩
      · have p7 := gn_ge 0 24 (gc_nlt zc4) py1 (jv_k (x := 0) 0 (by decide)) (by decide)
        have hk8 := hkK3.trans (if_neg zc4)
        refine g_aload_n cx 0 rfl e_X9_add_7 ?_
        refine g_get cx cl_X9 fl_X9_15 9 (.int (F2 145)) e_X9_add_8 rfl rfl ?_
        refine g_sipush cx 220 (by decide) e_X9_add_11 ?_
        have J43 : ∀ (F9 : Nat → Int32) (R10 : Nat → Nat → Int32), (g_ok LK_wX F9) → (g_fr md_X9_add F F9) → (g_okR LA_wX R10) → (g_fr mr_X9_add R R10) → (SP = K_X9_add_43 b3 y1 F9 R10) → G X E 3 0 0 (wX X ad F9 R10) [(0, .ref (ad 9)), (1, .int a0), (2, .int y1)] 43 [] := by
          intro F9 R10 oF9 fF9 oR10 fR10 hkJ43
          unfold K_X9_add_43 at hkJ43
          obtain ⟨x11, ex11⟩ : ∃ z : Int32, z = y1 + Int32.ofInt (-8) := ⟨_, rfl⟩
          have hk12 := k_ls hkJ43 (show x11 = y1 + (-8) from ex11)
          refine g_iinc cx x11 [(2, .int x11), (0, .ref (ad 9)), (1, .int a0)] 2 e_X9_add_43 rfl ex11.symm (by decide) rfl ?_
          have zx11 := jv_add (-8) 16 (show x11 = y1 + (-8) from ex11) p7 (jv_k (x := (-8)) (-8) (by decide)) (by decide)
          refine g_goto cx 3 e_X9_add_46 (by decide) ?_
          refine g_lsub [1, 2, 0] [(0, .ref (ad 9)), (1, .int a0), (2, .int x11)] rfl ?_
          exact ih3 F9 R10 x11 oF9 fF9 oR10 fR10 (jv_w zx11.2 (by decide)) (hk12.trans (by rw [hb3])) (Nat.lt_of_lt_of_le (show (x11.toInt + 2147483648).toNat < (y1.toInt + 2147483648).toNat from by have q0 := (jv_k (x := (-8)) (-8) (by decide)).1; have q1 := (jv_k (x := (-8)) (-8) (by decide)).2; have q2 := (jv_k (x := 0) 0 (by decide)).1; have q3 := (jv_k (x := 0) 0 (by decide)).2; have q4 := zx11.2.1; have q5 := zx11.2.2; have q6 := p7.1; have q7 := p7.2; have q8 := (gc_nlt zc4); have q9 := (g_eq0 zx11.1); omega) (Nat.le_of_lt_succ hm3))
        refine g_icmp_ge cx 43 e_X9_add_14 (by decide) (fun zc13 => ?_) (fun zc13 => ?_)
        · have p14 := gn_ge 220 220 (gc_le zc13) (g_ok_g oF2 1 rfl) (jv_k (x := 220) 220 (by decide)) (by decide)
          have hk15 := hk8.trans (if_pos zc13)
          exact J43 F2 R3 oF2 fF2 oR3 fR3 hk15
        · have p16 := gn_lt 0 219 (gc_nle zc13) (g_ok_g oF2 1 rfl) (jv_k (x := 220) 220 (by decide)) (by decide)
          have hk17 := hk8.trans (if_neg zc13)
          refine g_aload_n cx 0 rfl e_X9_add_17 ?_
          refine g_get cx cl_X9 fl_X9_9 9 (.ref (ad 10)) e_X9_add_18 rfl rfl ?_
          refine g_aload_n cx 0 rfl e_X9_add_21 ?_
          refine g_get cx cl_X9 fl_X9_15 9 (.int (F2 145)) e_X9_add_22 rfl rfl ?_
          refine g_iload_n cx 1 rfl e_X9_add_25 ?_
          refine g_iload_n cx 2 rfl e_X9_add_26 ?_
          refine g_iushr cx e_X9_add_27 ?_
          refine g_topi (fun x18 ex18 => ?_)
          have hk19 := k_ls hk17 ex18
          refine g_sipush cx 255 (by decide) e_X9_add_28 ?_
          refine g_iand cx e_X9_add_31 ?_
          refine g_topi (fun x20 ex20 => ?_)
          have hk21 := k_ls hk19 ex20
          have px20 := jv_and 0 255 ex20 (jv_k (x := 255) 255 (by decide)) (by decide)
          refine g_iast cx 10 (wX X ad F2 (g_u R3 10 (upd (R3 10) (Int32.toNatClampNeg (F2 145)) x20))) e_X9_add_32 rfl (jv_ix 220 p16 (by decide)) rfl ?_
          obtain ⟨R22, hR22⟩ : ∃ z, z = g_u R3 10 (upd (R3 10) (Int32.toNatClampNeg (F2 145)) x20) := ⟨_, rfl⟩
          rw [← hR22]
          have hk23 := k_ls hk21 hR22
          have oR22 : g_okR LA_wX R22 := by rw [hR22]; exact g_okR_u oR3 rfl
          have fR22 : g_fr mr_X9_add R R22 := by rw [hR22]; exact g_fr_r fR3 rfl
          refine g_aload_n cx 0 rfl e_X9_add_33 ?_
          refine g_dup cx rfl e_X9_add_34 ?_
          refine g_get cx cl_X9 fl_X9_15 9 (.int (F2 145)) e_X9_add_35 rfl rfl ?_
          refine g_iconst cx 1 (by decide) e_X9_add_38 ?_
          refine g_iadd cx e_X9_add_39 ?_
          refine g_topi (fun x24 ex24 => ?_)
          have hk25 := k_ls hk23 ex24
          have zx24 := jv_add 1 220 ex24 p16 (jv_k (x := 1) 1 (by decide)) (by decide)
          refine g_put cx cl_X9 fl_X9_15 9 (wX X ad (upd F2 145 x24) R22) e_X9_add_40 rfl rfl rfl rfl (Nat.le_of_ble_eq_true rfl) rfl ?_
          obtain ⟨F26, hF26⟩ : ∃ z, z = upd F2 145 x24 := ⟨_, rfl⟩
          rw [← hF26]
          have hk27 := k_ls hk25 hF26
          have oF26 : g_ok LK_wX F26 := by rw [hF26]; exact g_ok_p oF2 zx24.2 rfl
          have fF26 : g_fr md_X9_add F F26 := by rw [hF26]; exact g_fr_u fF2 rfl
          exact J43 F26 R22 oF26 fF26 oR22 fR22 hk27
  refine g_lsub [1, 2, 0] [(0, .ref (ad 9)), (1, .int a0), (2, .int 24)] rfl ?_
  exact J3 8589934592 F R 24 hI (g_fr_rf F) hA (g_fr_rf R) (jv_w (jv_k (x := 24) 24 (by decide)) (by decide)) hk0 (show ((24 : Int32).toInt + 2147483648).toNat < 8589934592 from by have q0 := (jv_k (x := 24) 24 (by decide)).1; have q1 := (jv_k (x := 24) 24 (by decide)).2; omega)
def sp_X10_feed (F : Nat → Int32) (R : Nat → Nat → Int32) (a0 : Int32) (a1 : Int32) (a2 : Int32) (a3 : Int32) (a4 : Int32) : Int32 × (Nat → Int32) × (Nat → Nat → Int32) :=
  k_lt ((F 145) + 20) (fun x1 => if x1 ≤ 220 then k_lt2 (sp_X9_add F R a0) (fun F11 R12 => k_lt2 (sp_X9_add F11 R12 a1) (fun F18 R19 => k_lt2 (sp_X9_add F18 R19 a2) (fun F25 R26 => k_lt2 (sp_X9_add F25 R26 a3) (fun F32 R33 => k_lt2 (sp_X9_add F32 R33 a4) (fun F39 R40 => (F39 145, F39, R40)))))) else ((-1), F, R))
theorem e_X10_feed_0 : g_dc cX10_feed 0 (.aload_n 0) 1 1 := ⟨by decide +kernel, rfl⟩
theorem e_X10_feed_1 : g_dc cX10_feed 1 (.getfield 22) 3 4 := ⟨by decide +kernel, rfl⟩
theorem e_X10_feed_4 : g_dc cX10_feed 4 (.getfield 110) 3 7 := ⟨by decide +kernel, rfl⟩
theorem e_X10_feed_7 : g_dc cX10_feed 7 (.bipush 20) 2 9 := ⟨by decide +kernel, rfl⟩
theorem e_X10_feed_9 : g_dc cX10_feed 9 (.iadd) 1 10 := ⟨by decide +kernel, rfl⟩
theorem e_X10_feed_10 : g_dc cX10_feed 10 (.sipush 220) 3 13 := ⟨by decide +kernel, rfl⟩
theorem e_X10_feed_13 : g_dc cX10_feed 13 (.if_icmp .le 5) 3 16 := ⟨by decide +kernel, rfl⟩
theorem e_X10_feed_16 : g_dc cX10_feed 16 (.iconst (-1)) 1 17 := ⟨by decide +kernel, rfl⟩
theorem e_X10_feed_17 : g_dc cX10_feed 17 (.ireturn) 1 18 := ⟨by decide +kernel, rfl⟩
theorem e_X10_feed_18 : g_dc cX10_feed 18 (.aload_n 0) 1 19 := ⟨by decide +kernel, rfl⟩
theorem e_X10_feed_19 : g_dc cX10_feed 19 (.getfield 22) 3 22 := ⟨by decide +kernel, rfl⟩
theorem e_X10_feed_22 : g_dc cX10_feed 22 (.iload_n 1) 1 23 := ⟨by decide +kernel, rfl⟩
theorem e_X10_feed_23 : g_dc cX10_feed 23 (.invokevirtual 113) 3 26 := ⟨by decide +kernel, rfl⟩
theorem e_X10_feed_26 : g_dc cX10_feed 26 (.aload_n 0) 1 27 := ⟨by decide +kernel, rfl⟩
theorem e_X10_feed_27 : g_dc cX10_feed 27 (.getfield 22) 3 30 := ⟨by decide +kernel, rfl⟩
theorem e_X10_feed_30 : g_dc cX10_feed 30 (.iload_n 2) 1 31 := ⟨by decide +kernel, rfl⟩
theorem e_X10_feed_31 : g_dc cX10_feed 31 (.invokevirtual 113) 3 34 := ⟨by decide +kernel, rfl⟩
theorem e_X10_feed_34 : g_dc cX10_feed 34 (.aload_n 0) 1 35 := ⟨by decide +kernel, rfl⟩
theorem e_X10_feed_35 : g_dc cX10_feed 35 (.getfield 22) 3 38 := ⟨by decide +kernel, rfl⟩
theorem e_X10_feed_38 : g_dc cX10_feed 38 (.iload_n 3) 1 39 := ⟨by decide +kernel, rfl⟩
theorem e_X10_feed_39 : g_dc cX10_feed 39 (.invokevirtual 113) 3 42 := ⟨by decide +kernel, rfl⟩
theorem e_X10_feed_42 : g_dc cX10_feed 42 (.aload_n 0) 1 43 := ⟨by decide +kernel, rfl⟩
theorem e_X10_feed_43 : g_dc cX10_feed 43 (.getfield 22) 3 46 := ⟨by decide +kernel, rfl⟩
theorem e_X10_feed_46 : g_dc cX10_feed 46 (.iload 4) 2 48 := ⟨by decide +kernel, rfl⟩
theorem e_X10_feed_48 : g_dc cX10_feed 48 (.invokevirtual 113) 3 51 := ⟨by decide +kernel, rfl⟩
theorem e_X10_feed_51 : g_dc cX10_feed 51 (.aload_n 0) 1 52 := ⟨by decide +kernel, rfl⟩
theorem e_X10_feed_52 : g_dc cX10_feed 52 (.getfield 22) 3 55 := ⟨by decide +kernel, rfl⟩
theorem e_X10_feed_55 : g_dc cX10_feed 55 (.iload 5) 2 57 := ⟨by decide +kernel, rfl⟩
theorem e_X10_feed_57 : g_dc cX10_feed 57 (.invokevirtual 113) 3 60 := ⟨by decide +kernel, rfl⟩
theorem e_X10_feed_60 : g_dc cX10_feed 60 (.aload_n 0) 1 61 := ⟨by decide +kernel, rfl⟩
theorem e_X10_feed_61 : g_dc cX10_feed 61 (.getfield 22) 3 64 := ⟨by decide +kernel, rfl⟩
theorem e_X10_feed_64 : g_dc cX10_feed 64 (.getfield 110) 3 67 := ⟨by decide +kernel, rfl⟩
theorem e_X10_feed_67 : g_dc cX10_feed 67 (.ireturn) 1 68 := ⟨by decide +kernel, rfl⟩
def md_X10_feed : List Nat := [145]
def mr_X10_feed : List Nat := [10]
set_option maxHeartbeats 4000000 in
set_option maxRecDepth 100000 in
theorem w_X10_feed (l : Launch) (X : gX) (ad : Nat → Nat) (F : Nat → Int32) (R : Nat → Nat → Int32) (hI : g_ok LK_wX F) (hA : g_okR LA_wX R) (a0 : Int32) (a1 : Int32) (a2 : Int32) (a3 : Int32) (a4 : Int32) : g_Ci l X yX10_feed cX10_feed 6 (some .int) 2 0 0 [.ref (ad 0), .int a0, .int a1, .int a2, .int a3, .int a4] (wX X ad F R) (fun r w => ∃ (F' : Nat → Int32) (R' : Nat → Nat → Int32), w = wX X ad F' R' ∧ g_ok LK_wX F' ∧ g_okR LA_wX R' ∧ g_fr md_X10_feed F F' ∧ g_fr mr_X10_feed R R' ∧ jv (-1) 220 r ∧ (r, F', R') = sp_X10_feed F R a0 a1 a2 a3 a4) := by
  refine g_mi (by decide +kernel) (Nat.le_of_ble_eq_true rfl) (fun E cx hret => ?_)
  obtain ⟨SP, hSP⟩ : ∃ z, z = sp_X10_feed F R a0 a1 a2 a3 a4 := ⟨_, rfl⟩
  have hk0 := hSP
  unfold sp_X10_feed at hk0
  refine g_aload_n cx 0 rfl e_X10_feed_0 ?_
  refine g_get cx cl_X10 fl_X10_22 0 (.ref (ad 9)) e_X10_feed_1 rfl rfl ?_
  refine g_getN cx cl_X9 fn_X10_110 9 (.int (F 145)) e_X10_feed_4 rfl rfl ?_
  refine g_bipush cx 20 (by decide) e_X10_feed_7 ?_
  refine g_iadd cx e_X10_feed_9 ?_
  refine g_topi (fun x1 ex1 => ?_)
  have hk2 := k_ls hk0 ex1
  have zx1 := jv_add 20 240 ex1 (g_ok_g hI 1 rfl) (jv_k (x := 20) 20 (by decide)) (by decide)
  refine g_sipush cx 220 (by decide) e_X10_feed_10 ?_
  refine g_icmp_le cx 18 e_X10_feed_13 (by decide) (fun zc3 => ?_) (fun zc3 => ?_)
  · have p4 := gn_le 20 220 (gc_le zc3) zx1.2 (jv_k (x := 220) 220 (by decide)) (by decide)
    have p5 : jv 0 200 (F 145) := ⟨by have q0 := (jv_k (x := 20) 20 (by decide)).1; have q1 := (jv_k (x := 20) 20 (by decide)).2; have q2 := (jv_k (x := 220) 220 (by decide)).1; have q3 := (jv_k (x := 220) 220 (by decide)).2; have q4 := (g_ok_g hI 1 rfl).1; have q5 := (g_ok_g hI 1 rfl).2; have q6 := p4.1; have q7 := p4.2; have q8 := (g_eq0 zx1.1); have q9 := (gc_le zc3); omega, by have q0 := (jv_k (x := 20) 20 (by decide)).1; have q1 := (jv_k (x := 20) 20 (by decide)).2; have q2 := (jv_k (x := 220) 220 (by decide)).1; have q3 := (jv_k (x := 220) 220 (by decide)).2; have q4 := (g_ok_g hI 1 rfl).1; have q5 := (g_ok_g hI 1 rfl).2; have q6 := p4.1; have q7 := p4.2; have q8 := (g_eq0 zx1.1); have q9 := (gc_le zc3); omega⟩
    have hk6 := hk2.trans (if_pos zc3)
    refine g_aload_n cx 0 rfl e_X10_feed_18 ?_
    refine g_get cx cl_X10 fl_X10_22 0 (.ref (ad 9)) e_X10_feed_19 rfl rfl ?_
    refine g_iload_n cx 1 rfl e_X10_feed_22 ?_
    refine g_cVvW cx [.int a0] [] (w_X9_add l X ad F R hI hA a0) ml_X10_113 yV_X9_add e_X10_feed_23 (by unfold g_rr; decide) (by decide) 9 rfl rfl rfl (Nat.le_of_ble_eq_true rfl) (fun w8 h9 => ?_)
    obtain ⟨F11, R12, rfl, oF11, oR12, cF11, cR12, hx10⟩ := h9
    have hk13 := k_ls2 hk6 hx10
    have fF11 : g_fr md_X10_feed F F11 := g_fr_c (g_fr_rf F) cF11 rfl
    have fR12 : g_fr mr_X10_feed R R12 := g_fr_c (g_fr_rf R) cR12 rfl
    refine g_aload_n cx 0 rfl e_X10_feed_26 ?_
    refine g_get cx cl_X10 fl_X10_22 0 (.ref (ad 9)) e_X10_feed_27 rfl rfl ?_
    refine g_iload_n cx 2 rfl e_X10_feed_30 ?_
    refine g_cVvW cx [.int a1] [] (w_X9_add l X ad F11 R12 oF11 oR12 a1) ml_X10_113 yV_X9_add e_X10_feed_31 (by unfold g_rr; decide) (by decide) 9 rfl rfl rfl (Nat.le_of_ble_eq_true rfl) (fun w15 h16 => ?_)
    obtain ⟨F18, R19, rfl, oF18, oR19, cF18, cR19, hx17⟩ := h16
    have hk20 := k_ls2 hk13 hx17
    have fF18 : g_fr md_X10_feed F F18 := g_fr_c fF11 cF18 rfl
    have fR19 : g_fr mr_X10_feed R R19 := g_fr_c fR12 cR19 rfl
    refine g_aload_n cx 0 rfl e_X10_feed_34 ?_
    refine g_get cx cl_X10 fl_X10_22 0 (.ref (ad 9)) e_X10_feed_35 rfl rfl ?_
    refine g_iload_n cx 3 rfl e_X10_feed_38 ?_
    refine g_cVvW cx [.int a2] [] (w_X9_add l X ad F18 R19 oF18 oR19 a2) ml_X10_113 yV_X9_add e_X10_feed_39 (by unfold g_rr; decide) (by decide) 9 rfl rfl rfl (Nat.le_of_ble_eq_true rfl) (fun w22 h23 => ?_)
    obtain ⟨F25, R26, rfl, oF25, oR26, cF25, cR26, hx24⟩ := h23
    have hk27 := k_ls2 hk20 hx24
    have fF25 : g_fr md_X10_feed F F25 := g_fr_c fF18 cF25 rfl
    have fR26 : g_fr mr_X10_feed R R26 := g_fr_c fR19 cR26 rfl
    refine g_aload_n cx 0 rfl e_X10_feed_42 ?_
    refine g_get cx cl_X10 fl_X10_22 0 (.ref (ad 9)) e_X10_feed_43 rfl rfl ?_
    refine g_iload cx 4 rfl e_X10_feed_46 ?_
    refine g_cVvW cx [.int a3] [] (w_X9_add l X ad F25 R26 oF25 oR26 a3) ml_X10_113 yV_X9_add e_X10_feed_48 (by unfold g_rr; decide) (by decide) 9 rfl rfl rfl (Nat.le_of_ble_eq_true rfl) (fun w29 h30 => ?_)
    obtain ⟨F32, R33, rfl, oF32, oR33, cF32, cR33, hx31⟩ := h30
    have hk34 := k_ls2 hk27 hx31
    have fF32 : g_fr md_X10_feed F F32 := g_fr_c fF25 cF32 rfl
    have fR33 : g_fr mr_X10_feed R R33 := g_fr_c fR26 cR33 rfl
    refine g_aload_n cx 0 rfl e_X10_feed_51 ?_
    refine g_get cx cl_X10 fl_X10_22 0 (.ref (ad 9)) e_X10_feed_52 rfl rfl ?_
    refine g_iload cx 5 rfl e_X10_feed_55 ?_
    refine g_cVvW cx [.int a4] [] (w_X9_add l X ad F32 R33 oF32 oR33 a4) ml_X10_113 yV_X9_add e_X10_feed_57 (by unfold g_rr; decide) (by decide) 9 rfl rfl rfl (Nat.le_of_ble_eq_true rfl) (fun w36 h37 => ?_)
    obtain ⟨F39, R40, rfl, oF39, oR40, cF39, cR40, hx38⟩ := h37
    have hk41 := k_ls2 hk34 hx38
    have fF39 : g_fr md_X10_feed F F39 := g_fr_c fF32 cF39 rfl
    have fR40 : g_fr mr_X10_feed R R40 := g_fr_c fR33 cR40 rfl
    refine g_aload_n cx 0 rfl e_X10_feed_60 ?_
    refine g_get cx cl_X10 fl_X10_22 0 (.ref (ad 9)) e_X10_feed_61 rfl rfl ?_
    refine g_getN cx cl_X9 fn_X10_110 9 (.int (F39 145)) e_X10_feed_64 rfl rfl ?_
    exact hret e_X10_feed_67 (Nat.le_of_ble_eq_true rfl) (Nat.le_of_ble_eq_true rfl) rfl ⟨F39, R40, rfl, oF39, oR40, fF39, fR40, (jv_w (g_ok_g oF39 1 rfl) (by decide)), (hk41.symm.trans hSP)⟩
  · have p42 := gn_gt 221 240 (gc_nle zc3) zx1.2 (jv_k (x := 220) 220 (by decide)) (by decide)
    have p43 : jv 201 220 (F 145) := ⟨by have q0 := (jv_k (x := 20) 20 (by decide)).1; have q1 := (jv_k (x := 20) 20 (by decide)).2; have q2 := (jv_k (x := 220) 220 (by decide)).1; have q3 := (jv_k (x := 220) 220 (by decide)).2; have q4 := (g_ok_g hI 1 rfl).1; have q5 := (g_ok_g hI 1 rfl).2; have q6 := p42.1; have q7 := p42.2; have q8 := (g_eq0 zx1.1); have q9 := (gc_nle zc3); omega, by have q0 := (jv_k (x := 20) 20 (by decide)).1; have q1 := (jv_k (x := 20) 20 (by decide)).2; have q2 := (jv_k (x := 220) 220 (by decide)).1; have q3 := (jv_k (x := 220) 220 (by decide)).2; have q4 := (g_ok_g hI 1 rfl).1; have q5 := (g_ok_g hI 1 rfl).2; have q6 := p42.1; have q7 := p42.2; have q8 := (g_eq0 zx1.1); have q9 := (gc_nle zc3); omega⟩
    have hk44 := hk2.trans (if_neg zc3)
    refine g_iconst cx (-1) (by decide) e_X10_feed_16 ?_
    exact hret e_X10_feed_17 (Nat.le_of_ble_eq_true rfl) (Nat.le_of_ble_eq_true rfl) rfl ⟨F, R, rfl, hI, hA, (g_fr_rf F), (g_fr_rf R), (jv_w (jv_k (x := (-1)) (-1) (by decide)) (by decide)), (hk44.symm.trans hSP)⟩
def sp_X10_seed (F : Nat → Int32) (R : Nat → Nat → Int32) (a0 : Int32) : Int32 × (Nat → Int32) × (Nat → Nat → Int32) :=
  k_lt (g_in a0 0 65535) (fun r1 => if r1 = 0 then (0, F, R) else k_lt (upd F 20 a0) (fun F9 => (1, F9, R)))
theorem e_X10_seed_0 : g_dc cX10_seed 0 (.iload_n 1) 1 1 := ⟨by decide +kernel, rfl⟩
theorem e_X10_seed_1 : g_dc cX10_seed 1 (.iconst 0) 1 2 := ⟨by decide +kernel, rfl⟩
theorem e_X10_seed_2 : g_dc cX10_seed 2 (.ldc_w 263) 3 5 := ⟨by decide +kernel, rfl⟩
theorem e_X10_seed_5 : g_dc cX10_seed 5 (.invokestatic 82) 3 8 := ⟨by decide +kernel, rfl⟩
theorem e_X10_seed_8 : g_dc cX10_seed 8 (.ifCond .ne 5) 3 11 := ⟨by decide +kernel, rfl⟩
theorem e_X10_seed_11 : g_dc cX10_seed 11 (.iconst 0) 1 12 := ⟨by decide +kernel, rfl⟩
theorem e_X10_seed_12 : g_dc cX10_seed 12 (.ireturn) 1 13 := ⟨by decide +kernel, rfl⟩
theorem e_X10_seed_13 : g_dc cX10_seed 13 (.aload_n 0) 1 14 := ⟨by decide +kernel, rfl⟩
theorem e_X10_seed_14 : g_dc cX10_seed 14 (.getfield 10) 3 17 := ⟨by decide +kernel, rfl⟩
theorem e_X10_seed_17 : g_dc cX10_seed 17 (.iload_n 1) 1 18 := ⟨by decide +kernel, rfl⟩
theorem e_X10_seed_18 : g_dc cX10_seed 18 (.putfield 168) 3 21 := ⟨by decide +kernel, rfl⟩
theorem e_X10_seed_21 : g_dc cX10_seed 21 (.iconst 1) 1 22 := ⟨by decide +kernel, rfl⟩
theorem e_X10_seed_22 : g_dc cX10_seed 22 (.ireturn) 1 23 := ⟨by decide +kernel, rfl⟩
def md_X10_seed : List Nat := [20]
def mr_X10_seed : List Nat := []
set_option maxHeartbeats 4000000 in
set_option maxRecDepth 100000 in
theorem w_X10_seed (l : Launch) (X : gX) (ad : Nat → Nat) (F : Nat → Int32) (R : Nat → Nat → Int32) (hI : g_ok LK_wX F) (hA : g_okR LA_wX R) (a0 : Int32) : g_Ci l X yX10_seed cX10_seed 2 (some .boolean) 2 0 0 [.ref (ad 0), .int a0] (wX X ad F R) (fun r w => ∃ (F' : Nat → Int32) (R' : Nat → Nat → Int32), w = wX X ad F' R' ∧ g_ok LK_wX F' ∧ g_okR LA_wX R' ∧ g_fr md_X10_seed F F' ∧ g_fr mr_X10_seed R R' ∧ jv 0 1 r ∧ (r, F', R') = sp_X10_seed F R a0) := by
  refine g_mi (by decide +kernel) (Nat.le_of_ble_eq_true rfl) (fun E cx hret => ?_)
  obtain ⟨SP, hSP⟩ : ∃ z, z = sp_X10_seed F R a0 := ⟨_, rfl⟩
  have hk0 := hSP
  unfold sp_X10_seed at hk0
  refine g_iload_n cx 1 rfl e_X10_seed_0 ?_
  refine g_iconst cx 0 (by decide) e_X10_seed_1 ?_
  refine g_ldcw cx 65535 kc_X10_263 e_X10_seed_2 ?_
  refine g_cSiW cx [.int a0, .int 0, .int 65535] [] (c_X10_within l X (wX X ad F R) a0 0 65535) ml_X10_82 yS_X10_within rfl e_X10_seed_5 (by unfold g_rr; decide) (by decide) rfl (Nat.le_of_ble_eq_true rfl) (fun r1 w2 h3 => ?_)
  obtain ⟨rfl, hr1⟩ := h3
  have pr1 : jv 0 1 r1 := by rw [hr1]; exact gi_01 _ _ _
  have hk4 := k_ls hk0 hr1
  refine g_if_ne cx 13 e_X10_seed_8 (by decide) (fun zc5 => ?_) (fun zc5 => ?_)
  · have p6 := gn_neL 1 1 (gc_ne zc5) pr1 (jv_k (x := 0) 0 (by decide)) (by decide)
    have p7 := jv_i 0 65535 (jv_t a0) (gi_in (A := 0) (B := 65535) hr1 zc5 (by decide) (by decide)) (by decide)
    have hk8 := hk4.trans (if_neg zc5)
    refine g_aload_n cx 0 rfl e_X10_seed_13 ?_
    refine g_get cx cl_X10 fl_X10_10 0 (.ref (ad 1)) e_X10_seed_14 rfl rfl ?_
    refine g_iload_n cx 1 rfl e_X10_seed_17 ?_
    refine g_putN cx cl_X8 fn_X10_168 1 (wX X ad (upd F 20 a0) R) e_X10_seed_18 rfl rfl rfl rfl (Nat.le_of_ble_eq_true rfl) rfl ?_
    obtain ⟨F9, hF9⟩ : ∃ z, z = upd F 20 a0 := ⟨_, rfl⟩
    rw [← hF9]
    have hk10 := k_ls hk8 hF9
    have oF9 : g_ok LK_wX F9 := by rw [hF9]; exact g_ok_u hI rfl
    have fF9 : g_fr md_X10_seed F F9 := by rw [hF9]; exact g_fr_u (g_fr_rf F) rfl
    refine g_iconst cx 1 (by decide) e_X10_seed_21 ?_
    exact hret e_X10_seed_22 (Nat.le_of_ble_eq_true rfl) (Nat.le_of_ble_eq_true rfl) rfl ⟨F9, R, rfl, oF9, hA, fF9, (g_fr_rf R), (jv_w (jv_k (x := 1) 1 (by decide)) (by decide)), (hk10.symm.trans hSP)⟩
  · have p11 := gn_eq 0 0 (gc_eq zc5) pr1 (jv_k (x := 0) 0 (by decide)) (by decide)
    have hk12 := hk4.trans (if_pos zc5)
    refine g_iconst cx 0 (by decide) e_X10_seed_11 ?_
    exact hret e_X10_seed_12 (Nat.le_of_ble_eq_true rfl) (Nat.le_of_ble_eq_true rfl) rfl ⟨F, R, rfl, hI, hA, (g_fr_rf F), (g_fr_rf R), (jv_w (jv_k (x := 0) 0 (by decide)) (by decide)), (hk12.symm.trans hSP)⟩
def K_X5_paceAt_11_28  (y1 : Int32) : Int32 :=
  y1
def K_X5_paceAt_11_27   : Int32 :=
  K_X5_paceAt_11_28 0
def sp_X5_paceAt_11 (F : Nat → Int32) (R : Nat → Nat → Int32) (a0 : Int32) : Int32 :=
  if a0 < 0 then K_X5_paceAt_11_27 else if (F 177) ≤ a0 then K_X5_paceAt_11_27 else k_lt (R 12 (Int32.toNatClampNeg a0)) (fun x13 => K_X5_paceAt_11_28 x13)
theorem e_X5_paceAt_0 : g_dc cX5_paceAt 0 (.iload_n 1) 1 1 := ⟨by decide +kernel, rfl⟩
theorem e_X5_paceAt_1 : g_dc cX5_paceAt 1 (.ifCond .lt 26) 3 4 := ⟨by decide +kernel, rfl⟩
theorem e_X5_paceAt_4 : g_dc cX5_paceAt 4 (.iload_n 1) 1 5 := ⟨by decide +kernel, rfl⟩
theorem e_X5_paceAt_5 : g_dc cX5_paceAt 5 (.aload_n 0) 1 6 := ⟨by decide +kernel, rfl⟩
theorem e_X5_paceAt_6 : g_dc cX5_paceAt 6 (.getfield 15) 3 9 := ⟨by decide +kernel, rfl⟩
theorem e_X5_paceAt_9 : g_dc cX5_paceAt 9 (.if_icmp .ge 18) 3 12 := ⟨by decide +kernel, rfl⟩
theorem e_X5_paceAt_12 : g_dc cX5_paceAt 12 (.iload_n 1) 1 13 := ⟨by decide +kernel, rfl⟩
theorem e_X5_paceAt_13 : g_dc cX5_paceAt 13 (.bipush 60) 2 15 := ⟨by decide +kernel, rfl⟩
theorem e_X5_paceAt_15 : g_dc cX5_paceAt 15 (.if_icmp .ge 12) 3 18 := ⟨by decide +kernel, rfl⟩
theorem e_X5_paceAt_18 : g_dc cX5_paceAt 18 (.aload_n 0) 1 19 := ⟨by decide +kernel, rfl⟩
theorem e_X5_paceAt_19 : g_dc cX5_paceAt 19 (.getfield 9) 3 22 := ⟨by decide +kernel, rfl⟩
theorem e_X5_paceAt_22 : g_dc cX5_paceAt 22 (.iload_n 1) 1 23 := ⟨by decide +kernel, rfl⟩
theorem e_X5_paceAt_23 : g_dc cX5_paceAt 23 (.iaload) 1 24 := ⟨by decide +kernel, rfl⟩
theorem e_X5_paceAt_24 : g_dc cX5_paceAt 24 (.goto 4) 3 27 := ⟨by decide +kernel, rfl⟩
theorem e_X5_paceAt_27 : g_dc cX5_paceAt 27 (.iconst 0) 1 28 := ⟨by decide +kernel, rfl⟩
theorem e_X5_paceAt_28 : g_dc cX5_paceAt 28 (.ireturn) 1 29 := ⟨by decide +kernel, rfl⟩
set_option maxHeartbeats 4000000 in
set_option maxRecDepth 100000 in
theorem w_X5_paceAt_11 (l : Launch) (X : gX) (ad : Nat → Nat) (F : Nat → Int32) (R : Nat → Nat → Int32) (hI : g_ok LK_wX F) (hA : g_okR LA_wX R) (a0 : Int32) : g_Ci l X yX5_paceAt cX5_paceAt 2 (some .int) 1 0 0 [.ref (ad 11), .int a0] (wX X ad F R) (fun r w => w = wX X ad F R ∧ jv (-2147483648) 2147483647 r ∧ r = sp_X5_paceAt_11 F R a0) := by
  refine g_mi (by decide +kernel) (Nat.le_of_ble_eq_true rfl) (fun E cx hret => ?_)
  obtain ⟨SP, hSP⟩ : ∃ z, z = sp_X5_paceAt_11 F R a0 := ⟨_, rfl⟩
  have hk0 := hSP
  unfold sp_X5_paceAt_11 at hk0
  refine g_iload_n cx 1 rfl e_X5_paceAt_0 ?_
  have J28 : ∀ (y1 : Int32), (jv (-2147483648) 2147483647 y1) → (SP = K_X5_paceAt_11_28 y1) → G X E 2 0 0 (wX X ad F R) [] 28 [.int y1] := by
    intro y1 py1 hkJ28
    unfold K_X5_paceAt_11_28 at hkJ28
    exact hret e_X5_paceAt_28 (Nat.le_of_ble_eq_true rfl) (Nat.le_of_ble_eq_true rfl) rfl ⟨rfl, py1, (hkJ28.symm.trans hSP)⟩
  have J27 : (SP = K_X5_paceAt_11_27) → G X E 2 0 0 (wX X ad F R) [] 27 [] := by
    intro   hkJ27
    unfold K_X5_paceAt_11_27 at hkJ27
    refine g_iconst cx 0 (by decide) e_X5_paceAt_27 ?_
    exact J28 0 (jv_w (jv_k (x := 0) 0 (by decide)) (by decide)) hkJ27
  refine g_if_lt cx 27 e_X5_paceAt_1 (by decide) (fun zc2 => ?_) (fun zc2 => ?_)
  · have p3 := gn_lt (-2147483648) (-1) (gc_lt zc2) (jv_t a0) (jv_k (x := 0) 0 (by decide)) (by decide)
    have hk4 := hk0.trans (if_pos zc2)
    refine g_lsub [] [] rfl ?_
    exact J27  hk4
  · have p5 := gn_ge 0 2147483647 (gc_nlt zc2) (jv_t a0) (jv_k (x := 0) 0 (by decide)) (by decide)
    have hk6 := hk0.trans (if_neg zc2)
    refine g_iload_n cx 1 rfl e_X5_paceAt_4 ?_
    refine g_aload_n cx 0 rfl e_X5_paceAt_5 ?_
    refine g_get cx cl_X5 fl_X5_15 11 (.int (F 177)) e_X5_paceAt_6 rfl rfl ?_
    refine g_icmp_ge cx 27 e_X5_paceAt_9 (by decide) (fun zc7 => ?_) (fun zc7 => ?_)
    · have hk8 := hk6.trans (if_pos zc7)
      refine g_lsub [] [] rfl ?_
      exact J27  hk8
    · have p9 := gn_lt 0 59 (gc_nle zc7) p5 (g_ok_g hI 2 rfl) (by decide)
      have p10 := gn_gt 1 60 (gc_nle zc7) (g_ok_g hI 2 rfl) p5 (by decide)
      have hk11 := hk6.trans (if_neg zc7)
      refine g_iload_n cx 1 rfl e_X5_paceAt_12 ?_
      refine g_bipush cx 60 (by decide) e_X5_paceAt_13 ?_
      refine g_icmp_ge cx 27 e_X5_paceAt_15 (by decide) (fun zc12 => ?_) (fun zc12 => ?_)
      · exact (gf_le (gc_le zc12) (jv_k (x := 60) 60 (by decide)) p9 (by decide)).elim
      · refine g_aload_n cx 0 rfl e_X5_paceAt_18 ?_
        refine g_get cx cl_X5 fl_X5_9 11 (.ref (ad 12)) e_X5_paceAt_19 rfl rfl ?_
        refine g_iload_n cx 1 rfl e_X5_paceAt_22 ?_
        refine g_iald cx 12 e_X5_paceAt_23 rfl (jv_ix 60 p9 (by decide)) ?_
        refine g_topi (fun x13 ex13 => ?_)
        have hk14 := k_ls hk11 ex13
        refine g_goto cx 28 e_X5_paceAt_24 (by decide) ?_
        refine g_lsub [] [] rfl ?_
        exact J28 x13 (jv_t x13) hk14
def K_X10_count_146  (y27 : Int32) : Int32 :=
  y27
def sp_X10_count (F : Nat → Int32) (R : Nat → Nat → Int32) (a0 : Int32) : Int32 :=
  k_lt (a0) (fun zy1 => if zy1.toInt = 0 then (F 16) else if zy1.toInt = 1 then (F 17) else if zy1.toInt = 2 then (F 18) else if zy1.toInt = 3 then (F 19) else if zy1.toInt = 4 then (F 177) else if zy1.toInt = 5 then (F 278) else if zy1.toInt = 6 then (F 145) else if zy1.toInt = 7 then (F 20) else k_lt (99 + (F 177)) (fun x21 => k_lt (g_in a0 100 x21) (fun r23 => if r23 = 0 then K_X10_count_146 (-1) else k_lt (a0 - 100) (fun x33 => k_lt (sp_X5_paceAt_11 F R x33) (fun r35 => K_X10_count_146 r35)))))
theorem e_X10_count_0 : g_dc cX10_count 0 (.iload_n 1) 1 1 := ⟨by decide +kernel, rfl⟩
theorem e_X10_count_1 : g_dc cX10_count 1 (.tableswitch 111 0 7 #[47, 55, 63, 71, 79, 87, 95, 103]) 47 48 := ⟨by decide +kernel, rfl⟩
theorem e_X10_count_48 : g_dc cX10_count 48 (.aload_n 0) 1 49 := ⟨by decide +kernel, rfl⟩
theorem e_X10_count_49 : g_dc cX10_count 49 (.getfield 10) 3 52 := ⟨by decide +kernel, rfl⟩
theorem e_X10_count_52 : g_dc cX10_count 52 (.getfield 86) 3 55 := ⟨by decide +kernel, rfl⟩
theorem e_X10_count_55 : g_dc cX10_count 55 (.ireturn) 1 56 := ⟨by decide +kernel, rfl⟩
theorem e_X10_count_56 : g_dc cX10_count 56 (.aload_n 0) 1 57 := ⟨by decide +kernel, rfl⟩
theorem e_X10_count_57 : g_dc cX10_count 57 (.getfield 10) 3 60 := ⟨by decide +kernel, rfl⟩
theorem e_X10_count_60 : g_dc cX10_count 60 (.getfield 89) 3 63 := ⟨by decide +kernel, rfl⟩
theorem e_X10_count_63 : g_dc cX10_count 63 (.ireturn) 1 64 := ⟨by decide +kernel, rfl⟩
theorem e_X10_count_64 : g_dc cX10_count 64 (.aload_n 0) 1 65 := ⟨by decide +kernel, rfl⟩
theorem e_X10_count_65 : g_dc cX10_count 65 (.getfield 10) 3 68 := ⟨by decide +kernel, rfl⟩
theorem e_X10_count_68 : g_dc cX10_count 68 (.getfield 92) 3 71 := ⟨by decide +kernel, rfl⟩
theorem e_X10_count_71 : g_dc cX10_count 71 (.ireturn) 1 72 := ⟨by decide +kernel, rfl⟩
theorem e_X10_count_72 : g_dc cX10_count 72 (.aload_n 0) 1 73 := ⟨by decide +kernel, rfl⟩
theorem e_X10_count_73 : g_dc cX10_count 73 (.getfield 10) 3 76 := ⟨by decide +kernel, rfl⟩
theorem e_X10_count_76 : g_dc cX10_count 76 (.getfield 95) 3 79 := ⟨by decide +kernel, rfl⟩
theorem e_X10_count_79 : g_dc cX10_count 79 (.ireturn) 1 80 := ⟨by decide +kernel, rfl⟩
theorem e_X10_count_80 : g_dc cX10_count 80 (.aload_n 0) 1 81 := ⟨by decide +kernel, rfl⟩
theorem e_X10_count_81 : g_dc cX10_count 81 (.getfield 29) 3 84 := ⟨by decide +kernel, rfl⟩
theorem e_X10_count_84 : g_dc cX10_count 84 (.getfield 124) 3 87 := ⟨by decide +kernel, rfl⟩
theorem e_X10_count_87 : g_dc cX10_count 87 (.ireturn) 1 88 := ⟨by decide +kernel, rfl⟩
theorem e_X10_count_88 : g_dc cX10_count 88 (.aload_n 0) 1 89 := ⟨by decide +kernel, rfl⟩
theorem e_X10_count_89 : g_dc cX10_count 89 (.getfield 39) 3 92 := ⟨by decide +kernel, rfl⟩
theorem e_X10_count_92 : g_dc cX10_count 92 (.getfield 130) 3 95 := ⟨by decide +kernel, rfl⟩
theorem e_X10_count_95 : g_dc cX10_count 95 (.ireturn) 1 96 := ⟨by decide +kernel, rfl⟩
theorem e_X10_count_96 : g_dc cX10_count 96 (.aload_n 0) 1 97 := ⟨by decide +kernel, rfl⟩
theorem e_X10_count_97 : g_dc cX10_count 97 (.getfield 22) 3 100 := ⟨by decide +kernel, rfl⟩
theorem e_X10_count_100 : g_dc cX10_count 100 (.getfield 110) 3 103 := ⟨by decide +kernel, rfl⟩
theorem e_X10_count_103 : g_dc cX10_count 103 (.ireturn) 1 104 := ⟨by decide +kernel, rfl⟩
theorem e_X10_count_104 : g_dc cX10_count 104 (.aload_n 0) 1 105 := ⟨by decide +kernel, rfl⟩
theorem e_X10_count_105 : g_dc cX10_count 105 (.getfield 10) 3 108 := ⟨by decide +kernel, rfl⟩
theorem e_X10_count_108 : g_dc cX10_count 108 (.getfield 168) 3 111 := ⟨by decide +kernel, rfl⟩
theorem e_X10_count_111 : g_dc cX10_count 111 (.ireturn) 1 112 := ⟨by decide +kernel, rfl⟩
theorem e_X10_count_112 : g_dc cX10_count 112 (.iload_n 1) 1 113 := ⟨by decide +kernel, rfl⟩
theorem e_X10_count_113 : g_dc cX10_count 113 (.bipush 100) 2 115 := ⟨by decide +kernel, rfl⟩
theorem e_X10_count_115 : g_dc cX10_count 115 (.bipush 99) 2 117 := ⟨by decide +kernel, rfl⟩
theorem e_X10_count_117 : g_dc cX10_count 117 (.aload_n 0) 1 118 := ⟨by decide +kernel, rfl⟩
theorem e_X10_count_118 : g_dc cX10_count 118 (.getfield 29) 3 121 := ⟨by decide +kernel, rfl⟩
theorem e_X10_count_121 : g_dc cX10_count 121 (.getfield 124) 3 124 := ⟨by decide +kernel, rfl⟩
theorem e_X10_count_124 : g_dc cX10_count 124 (.iadd) 1 125 := ⟨by decide +kernel, rfl⟩
theorem e_X10_count_125 : g_dc cX10_count 125 (.invokestatic 82) 3 128 := ⟨by decide +kernel, rfl⟩
theorem e_X10_count_128 : g_dc cX10_count 128 (.ifCond .eq 17) 3 131 := ⟨by decide +kernel, rfl⟩
theorem e_X10_count_131 : g_dc cX10_count 131 (.aload_n 0) 1 132 := ⟨by decide +kernel, rfl⟩
theorem e_X10_count_132 : g_dc cX10_count 132 (.getfield 29) 3 135 := ⟨by decide +kernel, rfl⟩
theorem e_X10_count_135 : g_dc cX10_count 135 (.iload_n 1) 1 136 := ⟨by decide +kernel, rfl⟩
theorem e_X10_count_136 : g_dc cX10_count 136 (.bipush 100) 2 138 := ⟨by decide +kernel, rfl⟩
theorem e_X10_count_138 : g_dc cX10_count 138 (.isub) 1 139 := ⟨by decide +kernel, rfl⟩
theorem e_X10_count_139 : g_dc cX10_count 139 (.invokevirtual 269) 3 142 := ⟨by decide +kernel, rfl⟩
theorem e_X10_count_142 : g_dc cX10_count 142 (.goto 4) 3 145 := ⟨by decide +kernel, rfl⟩
theorem e_X10_count_145 : g_dc cX10_count 145 (.iconst (-1)) 1 146 := ⟨by decide +kernel, rfl⟩
theorem e_X10_count_146 : g_dc cX10_count 146 (.ireturn) 1 147 := ⟨by decide +kernel, rfl⟩
set_option maxHeartbeats 4000000 in
set_option maxRecDepth 100000 in
theorem w_X10_count (l : Launch) (X : gX) (ad : Nat → Nat) (F : Nat → Int32) (R : Nat → Nat → Int32) (hI : g_ok LK_wX F) (hA : g_okR LA_wX R) (a0 : Int32) : g_Ci l X yX10_count cX10_count 2 (some .int) 2 0 0 [.ref (ad 0), .int a0] (wX X ad F R) (fun r w => w = wX X ad F R ∧ jv (-2147483648) 2147483647 r ∧ r = sp_X10_count F R a0) := by
  refine g_mi (by decide +kernel) (Nat.le_of_ble_eq_true rfl) (fun E cx hret => ?_)
  obtain ⟨SP, hSP⟩ : ∃ z, z = sp_X10_count F R a0 := ⟨_, rfl⟩
  have hk0 := hSP
  unfold sp_X10_count at hk0
  refine g_iload_n cx 1 rfl e_X10_count_0 ?_
  refine g_topi (fun zy1 ezy1 => ?_)
  have hk2 := k_ls hk0 ezy1
  rcases g_sw 0 7 zy1 with ⟨zw3n, zw3h, zw3e⟩ | zw3
  · have zw3d : zw3n = 0 ∨ zw3n = 1 ∨ zw3n = 2 ∨ zw3n = 3 ∨ zw3n = 4 ∨ zw3n = 5 ∨ zw3n = 6 ∨ zw3n = 7 := by omega
    rcases zw3d with rfl | rfl | rfl | rfl | rfl | rfl | rfl | rfl
    · refine g_tableIn cx 48 e_X10_count_1 (by rw [zw3e]; decide) (by rw [zw3e]; decide) (by rw [zw3e]; rfl) (by decide) ?_
      have p4 : jv 0 0 a0 := by rw [← ezy1]; exact jv_k 0 (by rw [zw3e]; rfl)
      have hk5 := (hk2.trans (if_pos (by rw [zw3e]; decide)))
      refine g_aload_n cx 0 rfl e_X10_count_48 ?_
      refine g_get cx cl_X10 fl_X10_10 0 (.ref (ad 1)) e_X10_count_49 rfl rfl ?_
      refine g_getN cx cl_X8 fn_X10_86 1 (.int (F 16)) e_X10_count_52 rfl rfl ?_
      exact hret e_X10_count_55 (Nat.le_of_ble_eq_true rfl) (Nat.le_of_ble_eq_true rfl) rfl ⟨rfl, (jv_t (F 16)), (hk5.symm.trans hSP)⟩
    · refine g_tableIn cx 56 e_X10_count_1 (by rw [zw3e]; decide) (by rw [zw3e]; decide) (by rw [zw3e]; rfl) (by decide) ?_
      have p6 : jv 1 1 a0 := by rw [← ezy1]; exact jv_k 1 (by rw [zw3e]; rfl)
      have hk7 := ((hk2.trans (if_neg (by rw [zw3e]; decide))).trans (if_pos (by rw [zw3e]; decide)))
      refine g_aload_n cx 0 rfl e_X10_count_56 ?_
      refine g_get cx cl_X10 fl_X10_10 0 (.ref (ad 1)) e_X10_count_57 rfl rfl ?_
      refine g_getN cx cl_X8 fn_X10_89 1 (.int (F 17)) e_X10_count_60 rfl rfl ?_
      exact hret e_X10_count_63 (Nat.le_of_ble_eq_true rfl) (Nat.le_of_ble_eq_true rfl) rfl ⟨rfl, (jv_t (F 17)), (hk7.symm.trans hSP)⟩
    · refine g_tableIn cx 64 e_X10_count_1 (by rw [zw3e]; decide) (by rw [zw3e]; decide) (by rw [zw3e]; rfl) (by decide) ?_
      have p8 : jv 2 2 a0 := by rw [← ezy1]; exact jv_k 2 (by rw [zw3e]; rfl)
      have hk9 := (((hk2.trans (if_neg (by rw [zw3e]; decide))).trans (if_neg (by rw [zw3e]; decide))).trans (if_pos (by rw [zw3e]; decide)))
      refine g_aload_n cx 0 rfl e_X10_count_64 ?_
      refine g_get cx cl_X10 fl_X10_10 0 (.ref (ad 1)) e_X10_count_65 rfl rfl ?_
      refine g_getN cx cl_X8 fn_X10_92 1 (.int (F 18)) e_X10_count_68 rfl rfl ?_
      exact hret e_X10_count_71 (Nat.le_of_ble_eq_true rfl) (Nat.le_of_ble_eq_true rfl) rfl ⟨rfl, (jv_t (F 18)), (hk9.symm.trans hSP)⟩
    · refine g_tableIn cx 72 e_X10_count_1 (by rw [zw3e]; decide) (by rw [zw3e]; decide) (by rw [zw3e]; rfl) (by decide) ?_
      have p10 : jv 3 3 a0 := by rw [← ezy1]; exact jv_k 3 (by rw [zw3e]; rfl)
      have hk11 := ((((hk2.trans (if_neg (by rw [zw3e]; decide))).trans (if_neg (by rw [zw3e]; decide))).trans (if_neg (by rw [zw3e]; decide))).trans (if_pos (by rw [zw3e]; decide)))
      refine g_aload_n cx 0 rfl e_X10_count_72 ?_
      refine g_get cx cl_X10 fl_X10_10 0 (.ref (ad 1)) e_X10_count_73 rfl rfl ?_
      refine g_getN cx cl_X8 fn_X10_95 1 (.int (F 19)) e_X10_count_76 rfl rfl ?_
      exact hret e_X10_count_79 (Nat.le_of_ble_eq_true rfl) (Nat.le_of_ble_eq_true rfl) rfl ⟨rfl, (jv_t (F 19)), (hk11.symm.trans hSP)⟩
    · refine g_tableIn cx 80 e_X10_count_1 (by rw [zw3e]; decide) (by rw [zw3e]; decide) (by rw [zw3e]; rfl) (by decide) ?_
      have p12 : jv 4 4 a0 := by rw [← ezy1]; exact jv_k 4 (by rw [zw3e]; rfl)
      have hk13 := (((((hk2.trans (if_neg (by rw [zw3e]; decide))).trans (if_neg (by rw [zw3e]; decide))).trans (if_neg (by rw [zw3e]; decide))).trans (if_neg (by rw [zw3e]; decide))).trans (if_pos (by rw [zw3e]; decide)))
      refine g_aload_n cx 0 rfl e_X10_count_80 ?_
      refine g_get cx cl_X10 fl_X10_29 0 (.ref (ad 11)) e_X10_count_81 rfl rfl ?_
      refine g_getN cx cl_X5 fn_X10_124 11 (.int (F 177)) e_X10_count_84 rfl rfl ?_
      exact hret e_X10_count_87 (Nat.le_of_ble_eq_true rfl) (Nat.le_of_ble_eq_true rfl) rfl ⟨rfl, (jv_w (g_ok_g hI 2 rfl) (by decide)), (hk13.symm.trans hSP)⟩
    · refine g_tableIn cx 88 e_X10_count_1 (by rw [zw3e]; decide) (by rw [zw3e]; decide) (by rw [zw3e]; rfl) (by decide) ?_
      have p14 : jv 5 5 a0 := by rw [← ezy1]; exact jv_k 5 (by rw [zw3e]; rfl)
      have hk15 := ((((((hk2.trans (if_neg (by rw [zw3e]; decide))).trans (if_neg (by rw [zw3e]; decide))).trans (if_neg (by rw [zw3e]; decide))).trans (if_neg (by rw [zw3e]; decide))).trans (if_neg (by rw [zw3e]; decide))).trans (if_pos (by rw [zw3e]; decide)))
      refine g_aload_n cx 0 rfl e_X10_count_88 ?_
      refine g_get cx cl_X10 fl_X10_39 0 (.ref (ad 17)) e_X10_count_89 rfl rfl ?_
      refine g_getN cx cl_X2 fn_X10_130 17 (.int (F 278)) e_X10_count_92 rfl rfl ?_
      exact hret e_X10_count_95 (Nat.le_of_ble_eq_true rfl) (Nat.le_of_ble_eq_true rfl) rfl ⟨rfl, (jv_w (g_ok_g hI 7 rfl) (by decide)), (hk15.symm.trans hSP)⟩
    · refine g_tableIn cx 96 e_X10_count_1 (by rw [zw3e]; decide) (by rw [zw3e]; decide) (by rw [zw3e]; rfl) (by decide) ?_
      have p16 : jv 6 6 a0 := by rw [← ezy1]; exact jv_k 6 (by rw [zw3e]; rfl)
      have hk17 := (((((((hk2.trans (if_neg (by rw [zw3e]; decide))).trans (if_neg (by rw [zw3e]; decide))).trans (if_neg (by rw [zw3e]; decide))).trans (if_neg (by rw [zw3e]; decide))).trans (if_neg (by rw [zw3e]; decide))).trans (if_neg (by rw [zw3e]; decide))).trans (if_pos (by rw [zw3e]; decide)))
      refine g_aload_n cx 0 rfl e_X10_count_96 ?_
      refine g_get cx cl_X10 fl_X10_22 0 (.ref (ad 9)) e_X10_count_97 rfl rfl ?_
      refine g_getN cx cl_X9 fn_X10_110 9 (.int (F 145)) e_X10_count_100 rfl rfl ?_
      exact hret e_X10_count_103 (Nat.le_of_ble_eq_true rfl) (Nat.le_of_ble_eq_true rfl) rfl ⟨rfl, (jv_w (g_ok_g hI 1 rfl) (by decide)), (hk17.symm.trans hSP)⟩
    · refine g_tableIn cx 104 e_X10_count_1 (by rw [zw3e]; decide) (by rw [zw3e]; decide) (by rw [zw3e]; rfl) (by decide) ?_
      have p18 : jv 7 7 a0 := by rw [← ezy1]; exact jv_k 7 (by rw [zw3e]; rfl)
      have hk19 := ((((((((hk2.trans (if_neg (by rw [zw3e]; decide))).trans (if_neg (by rw [zw3e]; decide))).trans (if_neg (by rw [zw3e]; decide))).trans (if_neg (by rw [zw3e]; decide))).trans (if_neg (by rw [zw3e]; decide))).trans (if_neg (by rw [zw3e]; decide))).trans (if_neg (by rw [zw3e]; decide))).trans (if_pos (by rw [zw3e]; decide)))
      refine g_aload_n cx 0 rfl e_X10_count_104 ?_
      refine g_get cx cl_X10 fl_X10_10 0 (.ref (ad 1)) e_X10_count_105 rfl rfl ?_
      refine g_getN cx cl_X8 fn_X10_168 1 (.int (F 20)) e_X10_count_108 rfl rfl ?_
      exact hret e_X10_count_111 (Nat.le_of_ble_eq_true rfl) (Nat.le_of_ble_eq_true rfl) rfl ⟨rfl, (jv_t (F 20)), (hk19.symm.trans hSP)⟩
  · refine g_tableOut cx 112 e_X10_count_1 zw3 (by decide) ?_
    have hk20 := ((((((((hk2.trans (if_neg (by omega))).trans (if_neg (by omega))).trans (if_neg (by omega))).trans (if_neg (by omega))).trans (if_neg (by omega))).trans (if_neg (by omega))).trans (if_neg (by omega))).trans (if_neg (by omega)))
    refine g_iload_n cx 1 rfl e_X10_count_112 ?_
    refine g_bipush cx 100 (by decide) e_X10_count_113 ?_
    refine g_bipush cx 99 (by decide) e_X10_count_115 ?_
    refine g_aload_n cx 0 rfl e_X10_count_117 ?_
    refine g_get cx cl_X10 fl_X10_29 0 (.ref (ad 11)) e_X10_count_118 rfl rfl ?_
    refine g_getN cx cl_X5 fn_X10_124 11 (.int (F 177)) e_X10_count_121 rfl rfl ?_
    refine g_iadd cx e_X10_count_124 ?_
    refine g_topi (fun x21 ex21 => ?_)
    have hk22 := k_ls hk20 ex21
    have zx21 := jv_add 99 159 ex21 (jv_k (x := 99) 99 (by decide)) (g_ok_g hI 2 rfl) (by decide)
    refine g_cSiW cx [.int a0, .int 100, .int x21] [] (c_X10_within l X (wX X ad F R) a0 100 x21) ml_X10_82 yS_X10_within rfl e_X10_count_125 (by unfold g_rr; decide) (by decide) rfl (Nat.le_of_ble_eq_true rfl) (fun r23 w24 h25 => ?_)
    obtain ⟨rfl, hr23⟩ := h25
    have pr23 : jv 0 1 r23 := by rw [hr23]; exact gi_01 _ _ _
    have hk26 := k_ls hk22 hr23
    have J146 : ∀ (y27 : Int32), (jv (-2147483648) 2147483647 y27) → (SP = K_X10_count_146 y27) → G X E 2 0 0 (wX X ad F R) [] 146 [.int y27] := by
      intro y27 py27 hkJ146
      unfold K_X10_count_146 at hkJ146
      exact hret e_X10_count_146 (Nat.le_of_ble_eq_true rfl) (Nat.le_of_ble_eq_true rfl) rfl ⟨rfl, py27, (hkJ146.symm.trans hSP)⟩
    refine g_if_eq cx 145 e_X10_count_128 (by decide) (fun zc28 => ?_) (fun zc28 => ?_)
    · have p29 := gn_eq 0 0 (gc_eq zc28) pr23 (jv_k (x := 0) 0 (by decide)) (by decide)
      have hk30 := hk26.trans (if_pos zc28)
      refine g_iconst cx (-1) (by decide) e_X10_count_145 ?_
      refine g_lsub [] [] rfl ?_
      exact J146 (-1) (jv_w (jv_k (x := (-1)) (-1) (by decide)) (by decide)) hk30
    · have p31 := gn_neL 1 1 (gc_ne zc28) pr23 (jv_k (x := 0) 0 (by decide)) (by decide)
      have hk32 := hk26.trans (if_neg zc28)
      refine g_aload_n cx 0 rfl e_X10_count_131 ?_
      refine g_get cx cl_X10 fl_X10_29 0 (.ref (ad 11)) e_X10_count_132 rfl rfl ?_
      refine g_iload_n cx 1 rfl e_X10_count_135 ?_
      refine g_bipush cx 100 (by decide) e_X10_count_136 ?_
      refine g_isub cx e_X10_count_138 ?_
      refine g_topi (fun x33 ex33 => ?_)
      have hk34 := k_ls hk32 ex33
      refine g_cViW cx [.int x33] [] (w_X5_paceAt_11 l X ad F R hI hA x33) ml_X10_269 yV_X5_paceAt e_X10_count_139 (by unfold g_rr; decide) (by decide) 11 rfl rfl rfl (Nat.le_of_ble_eq_true rfl) (fun r35 w36 h37 => ?_)
      obtain ⟨rfl, pr35, hx38⟩ := h37
      have hk39 := k_ls hk34 hx38
      refine g_goto cx 146 e_X10_count_142 (by decide) ?_
      refine g_lsub [] [] rfl ?_
      exact J146 r35 pr35 hk39
