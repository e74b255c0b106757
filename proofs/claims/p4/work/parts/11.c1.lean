def LK_wX : List (Nat × Int × Int) := [(11, 0, 1), (145, 0, 220), (177, 0, 60), (209, 0, 60), (241, 0, 60), (274, 0, 256), (402, 0, 256), (278, 0, 14), (406, 0, 14), (755, 0, 5)]
def LA_wX : List (Nat × Nat × Int × Int) := []
def S_table (a b : Int32) : Int32 := if g_in a 10 200 = 0 then 0 else if g_in b 0 63 = 0 then 0 else 1
theorem e_X10_table_0 : g_dc cX10_table 0 (.iload_n 1) 1 1 := ⟨by decide +kernel, rfl⟩
theorem e_X10_table_1 : g_dc cX10_table 1 (.bipush 10) 2 3 := ⟨by decide +kernel, rfl⟩
theorem e_X10_table_3 : g_dc cX10_table 3 (.sipush 200) 3 6 := ⟨by decide +kernel, rfl⟩
theorem e_X10_table_6 : g_dc cX10_table 6 (.invokestatic 82) 3 9 := ⟨by decide +kernel, rfl⟩
theorem e_X10_table_9 : g_dc cX10_table 9 (.ifCond .eq 13) 3 12 := ⟨by decide +kernel, rfl⟩
theorem e_X10_table_12 : g_dc cX10_table 12 (.iload_n 2) 1 13 := ⟨by decide +kernel, rfl⟩
theorem e_X10_table_13 : g_dc cX10_table 13 (.iconst 0) 1 14 := ⟨by decide +kernel, rfl⟩
theorem e_X10_table_14 : g_dc cX10_table 14 (.bipush 63) 2 16 := ⟨by decide +kernel, rfl⟩
theorem e_X10_table_16 : g_dc cX10_table 16 (.invokestatic 82) 3 19 := ⟨by decide +kernel, rfl⟩
theorem e_X10_table_19 : g_dc cX10_table 19 (.ifCond .ne 5) 3 22 := ⟨by decide +kernel, rfl⟩
theorem e_X10_table_22 : g_dc cX10_table 22 (.iconst 0) 1 23 := ⟨by decide +kernel, rfl⟩
theorem e_X10_table_23 : g_dc cX10_table 23 (.ireturn) 1 24 := ⟨by decide +kernel, rfl⟩
theorem e_X10_table_24 : g_dc cX10_table 24 (.aload_n 0) 1 25 := ⟨by decide +kernel, rfl⟩
theorem e_X10_table_25 : g_dc cX10_table 25 (.getfield 10) 3 28 := ⟨by decide +kernel, rfl⟩
theorem e_X10_table_28 : g_dc cX10_table 28 (.iload_n 1) 1 29 := ⟨by decide +kernel, rfl⟩
theorem e_X10_table_29 : g_dc cX10_table 29 (.putfield 86) 3 32 := ⟨by decide +kernel, rfl⟩
theorem e_X10_table_32 : g_dc cX10_table 32 (.aload_n 0) 1 33 := ⟨by decide +kernel, rfl⟩
theorem e_X10_table_33 : g_dc cX10_table 33 (.getfield 10) 3 36 := ⟨by decide +kernel, rfl⟩
theorem e_X10_table_36 : g_dc cX10_table 36 (.iload_n 1) 1 37 := ⟨by decide +kernel, rfl⟩
theorem e_X10_table_37 : g_dc cX10_table 37 (.putfield 89) 3 40 := ⟨by decide +kernel, rfl⟩
theorem e_X10_table_40 : g_dc cX10_table 40 (.aload_n 0) 1 41 := ⟨by decide +kernel, rfl⟩
theorem e_X10_table_41 : g_dc cX10_table 41 (.getfield 10) 3 44 := ⟨by decide +kernel, rfl⟩
theorem e_X10_table_44 : g_dc cX10_table 44 (.iload_n 2) 1 45 := ⟨by decide +kernel, rfl⟩
theorem e_X10_table_45 : g_dc cX10_table 45 (.putfield 92) 3 48 := ⟨by decide +kernel, rfl⟩
theorem e_X10_table_48 : g_dc cX10_table 48 (.aload_n 0) 1 49 := ⟨by decide +kernel, rfl⟩
theorem e_X10_table_49 : g_dc cX10_table 49 (.getfield 10) 3 52 := ⟨by decide +kernel, rfl⟩
theorem e_X10_table_52 : g_dc cX10_table 52 (.iconst 0) 1 53 := ⟨by decide +kernel, rfl⟩
theorem e_X10_table_53 : g_dc cX10_table 53 (.putfield 95) 3 56 := ⟨by decide +kernel, rfl⟩
theorem e_X10_table_56 : g_dc cX10_table 56 (.iconst 1) 1 57 := ⟨by decide +kernel, rfl⟩
theorem e_X10_table_57 : g_dc cX10_table 57 (.ireturn) 1 58 := ⟨by decide +kernel, rfl⟩
def md_X10_table : List Nat := [16, 17, 18, 19]
def mr_X10_table : List Nat := []
set_option maxHeartbeats 4000000 in
set_option maxRecDepth 100000 in
theorem w_X10_table (l : Launch) (X : gX) (ad : Nat → Nat) (F : Nat → Int32) (R : Nat → Nat → Int32) (hI : g_ok LK_wX F) (hA : g_okR LA_wX R) (a0 : Int32) (a1 : Int32) : g_Ci l X yX10_table cX10_table 3 (some .boolean) 2 0 0 [.ref (ad 0), .int a0, .int a1] (wX X ad F R) (fun r w => ∃ (F' : Nat → Int32) (R' : Nat → Nat → Int32), w = wX X ad F' R' ∧ g_ok LK_wX F' ∧ g_okR LA_wX R' ∧ g_fr md_X10_table F F' ∧ g_fr mr_X10_table R R' ∧ jv 0 1 r) := by
  refine g_mi (by decide +kernel) (Nat.le_of_ble_eq_true rfl) (fun E cx hret => ?_)
  refine g_iload_n cx 1 rfl e_X10_table_0 ?_
  refine g_bipush cx 10 (by decide) e_X10_table_1 ?_
  refine g_sipush cx 200 (by decide) e_X10_table_3 ?_
  refine g_cSiW cx [.int a0, .int 10, .int 200] [] (c_X10_within l X (wX X ad F R) a0 10 200) ml_X10_82 yS_X10_within rfl e_X10_table_6 (by unfold g_rr; decide) (by decide) rfl (Nat.le_of_ble_eq_true rfl) (fun r1 w2 h3 => ?_)
  obtain ⟨rfl, hr1⟩ := h3
  have pr1 : jv 0 1 r1 := by rw [hr1]; exact gi_01 _ _ _
  have J22 : G X E 3 0 0 (wX X ad F R) [] 22 [] := by
    refine g_iconst cx 0 (by decide) e_X10_table_22 ?_
    exact hret e_X10_table_23 (Nat.le_of_ble_eq_true rfl) (Nat.le_of_ble_eq_true rfl) rfl ⟨F, R, rfl, hI, hA, (g_fr_rf F), (g_fr_rf R), (jv_w (jv_k (x := 0) 0 (by decide)) (by decide))⟩
  refine g_if_eq cx 22 e_X10_table_9 (by decide) (fun zc4 => ?_) (fun zc4 => ?_)
  · have p5 := gn_eq 0 0 (gc_eq zc4) pr1 (jv_k (x := 0) 0 (by decide)) (by decide)
    refine g_lsub [] [] rfl ?_
    exact J22  
  · have p6 := gn_neL 1 1 (gc_ne zc4) pr1 (jv_k (x := 0) 0 (by decide)) (by decide)
    have p7 := jv_i 10 200 (jv_t a0) (gi_in (A := 10) (B := 200) hr1 zc4 (by decide) (by decide)) (by decide)
    refine g_iload_n cx 2 rfl e_X10_table_12 ?_
    refine g_iconst cx 0 (by decide) e_X10_table_13 ?_
    refine g_bipush cx 63 (by decide) e_X10_table_14 ?_
    refine g_cSiW cx [.int a1, .int 0, .int 63] [] (c_X10_within l X (wX X ad F R) a1 0 63) ml_X10_82 yS_X10_within rfl e_X10_table_16 (by unfold g_rr; decide) (by decide) rfl (Nat.le_of_ble_eq_true rfl) (fun r8 w9 h10 => ?_)
    obtain ⟨rfl, hr8⟩ := h10
    have pr8 : jv 0 1 r8 := by rw [hr8]; exact gi_01 _ _ _
    refine g_if_ne cx 24 e_X10_table_19 (by decide) (fun zc11 => ?_) (fun zc11 => ?_)
    · have p12 := gn_neL 1 1 (gc_ne zc11) pr8 (jv_k (x := 0) 0 (by decide)) (by decide)
      have p13 := jv_i 0 63 (jv_t a1) (gi_in (A := 0) (B := 63) hr8 zc11 (by decide) (by decide)) (by decide)
      refine g_aload_n cx 0 rfl e_X10_table_24 ?_
      refine g_get cx cl_X10 fl_X10_10 0 (.ref (ad 1)) e_X10_table_25 rfl rfl ?_
      refine g_iload_n cx 1 rfl e_X10_table_28 ?_
      refine g_putN cx cl_X8 fn_X10_86 1 (wX X ad (upd F 16 a0) R) e_X10_table_29 rfl rfl rfl rfl (Nat.le_of_ble_eq_true rfl) rfl ?_
      obtain ⟨F14, hF14⟩ : ∃ z, z = upd F 16 a0 := ⟨_, rfl⟩
      rw [← hF14]
      have oF14 : g_ok LK_wX F14 := by rw [hF14]; exact g_ok_u hI rfl
      have fF14 : g_fr md_X10_table F F14 := by rw [hF14]; exact g_fr_u (g_fr_rf F) rfl
      refine g_aload_n cx 0 rfl e_X10_table_32 ?_
      refine g_get cx cl_X10 fl_X10_10 0 (.ref (ad 1)) e_X10_table_33 rfl rfl ?_
      refine g_iload_n cx 1 rfl e_X10_table_36 ?_
      refine g_putN cx cl_X8 fn_X10_89 1 (wX X ad (upd F14 17 a0) R) e_X10_table_37 rfl rfl rfl rfl (Nat.le_of_ble_eq_true rfl) rfl ?_
      obtain ⟨F15, hF15⟩ : ∃ z, z = upd F14 17 a0 := ⟨_, rfl⟩
      rw [← hF15]
      have oF15 : g_ok LK_wX F15 := by rw [hF15]; exact g_ok_u oF14 rfl
      have fF15 : g_fr md_X10_table F F15 := by rw [hF15]; exact g_fr_u fF14 rfl
      refine g_aload_n cx 0 rfl e_X10_table_40 ?_
      refine g_get cx cl_X10 fl_X10_10 0 (.ref (ad 1)) e_X10_table_41 rfl rfl ?_
      refine g_iload_n cx 2 rfl e_X10_table_44 ?_
      refine g_putN cx cl_X8 fn_X10_92 1 (wX X ad (upd F15 18 a1) R) e_X10_table_45 rfl rfl rfl rfl (Nat.le_of_ble_eq_true rfl) rfl ?_
      obtain ⟨F16, hF16⟩ : ∃ z, z = upd F15 18 a1 := ⟨_, rfl⟩
      rw [← hF16]
      have oF16 : g_ok LK_wX F16 := by rw [hF16]; exact g_ok_u oF15 rfl
      have fF16 : g_fr md_X10_table F F16 := by rw [hF16]; exact g_fr_u fF15 rfl
      refine g_aload_n cx 0 rfl e_X10_table_48 ?_
      refine g_get cx cl_X10 fl_X10_10 0 (.ref (ad 1)) e_X10_table_49 rfl rfl ?_
      refine g_iconst cx 0 (by decide) e_X10_table_52 ?_
      refine g_putN cx cl_X8 fn_X10_95 1 (wX X ad (upd F16 19 0) R) e_X10_table_53 rfl rfl rfl rfl (Nat.le_of_ble_eq_true rfl) rfl ?_
      obtain ⟨F17, hF17⟩ : ∃ z, z = upd F16 19 0 := ⟨_, rfl⟩
      rw [← hF17]
      have oF17 : g_ok LK_wX F17 := by rw [hF17]; exact g_ok_u oF16 rfl
      have fF17 : g_fr md_X10_table F F17 := by rw [hF17]; exact g_fr_u fF16 rfl
      refine g_iconst cx 1 (by decide) e_X10_table_56 ?_
      exact hret e_X10_table_57 (Nat.le_of_ble_eq_true rfl) (Nat.le_of_ble_eq_true rfl) rfl ⟨F17, R, rfl, oF17, hA, fF17, (g_fr_rf R), (jv_w (jv_k (x := 1) 1 (by decide)) (by decide))⟩
    · have p18 := gn_eq 0 0 (gc_eq zc11) pr8 (jv_k (x := 0) 0 (by decide)) (by decide)
      refine g_lsub [] [] rfl ?_
      exact J22  
theorem e_X10_cloth_0 : g_dc cX10_cloth 0 (.iload_n 1) 1 1 := ⟨by decide +kernel, rfl⟩
theorem e_X10_cloth_1 : g_dc cX10_cloth 1 (.iconst 0) 1 2 := ⟨by decide +kernel, rfl⟩
theorem e_X10_cloth_2 : g_dc cX10_cloth 2 (.aload_n 0) 1 3 := ⟨by decide +kernel, rfl⟩
theorem e_X10_cloth_3 : g_dc cX10_cloth 3 (.getfield 10) 3 6 := ⟨by decide +kernel, rfl⟩
theorem e_X10_cloth_6 : g_dc cX10_cloth 6 (.getfield 86) 3 9 := ⟨by decide +kernel, rfl⟩
theorem e_X10_cloth_9 : g_dc cX10_cloth 9 (.invokestatic 82) 3 12 := ⟨by decide +kernel, rfl⟩
theorem e_X10_cloth_12 : g_dc cX10_cloth 12 (.ifCond .ne 5) 3 15 := ⟨by decide +kernel, rfl⟩
theorem e_X10_cloth_15 : g_dc cX10_cloth 15 (.iconst 0) 1 16 := ⟨by decide +kernel, rfl⟩
theorem e_X10_cloth_16 : g_dc cX10_cloth 16 (.ireturn) 1 17 := ⟨by decide +kernel, rfl⟩
theorem e_X10_cloth_17 : g_dc cX10_cloth 17 (.aload_n 0) 1 18 := ⟨by decide +kernel, rfl⟩
theorem e_X10_cloth_18 : g_dc cX10_cloth 18 (.getfield 10) 3 21 := ⟨by decide +kernel, rfl⟩
theorem e_X10_cloth_21 : g_dc cX10_cloth 21 (.iload_n 1) 1 22 := ⟨by decide +kernel, rfl⟩
theorem e_X10_cloth_22 : g_dc cX10_cloth 22 (.putfield 89) 3 25 := ⟨by decide +kernel, rfl⟩
theorem e_X10_cloth_25 : g_dc cX10_cloth 25 (.iconst 1) 1 26 := ⟨by decide +kernel, rfl⟩
theorem e_X10_cloth_26 : g_dc cX10_cloth 26 (.ireturn) 1 27 := ⟨by decide +kernel, rfl⟩
def md_X10_cloth : List Nat := [17]
def mr_X10_cloth : List Nat := []
set_option maxHeartbeats 4000000 in
set_option maxRecDepth 100000 in
theorem w_X10_cloth (l : Launch) (X : gX) (ad : Nat → Nat) (F : Nat → Int32) (R : Nat → Nat → Int32) (hI : g_ok LK_wX F) (hA : g_okR LA_wX R) (a0 : Int32) : g_Ci l X yX10_cloth cX10_cloth 2 (some .boolean) 2 0 0 [.ref (ad 0), .int a0] (wX X ad F R) (fun r w => ∃ (F' : Nat → Int32) (R' : Nat → Nat → Int32), w = wX X ad F' R' ∧ g_ok LK_wX F' ∧ g_okR LA_wX R' ∧ g_fr md_X10_cloth F F' ∧ g_fr mr_X10_cloth R R' ∧ jv 0 1 r) := by
  refine g_mi (by decide +kernel) (Nat.le_of_ble_eq_true rfl) (fun E cx hret => ?_)
  refine g_iload_n cx 1 rfl e_X10_cloth_0 ?_
  refine g_iconst cx 0 (by decide) e_X10_cloth_1 ?_
  refine g_aload_n cx 0 rfl e_X10_cloth_2 ?_
  refine g_get cx cl_X10 fl_X10_10 0 (.ref (ad 1)) e_X10_cloth_3 rfl rfl ?_
  refine g_getN cx cl_X8 fn_X10_86 1 (.int (F 16)) e_X10_cloth_6 rfl rfl ?_
  refine g_cSiW cx [.int a0, .int 0, .int (F 16)] [] (c_X10_within l X (wX X ad F R) a0 0 (F 16)) ml_X10_82 yS_X10_within rfl e_X10_cloth_9 (by unfold g_rr; decide) (by decide) rfl (Nat.le_of_ble_eq_true rfl) (fun r1 w2 h3 => ?_)
  obtain ⟨rfl, hr1⟩ := h3
  have pr1 : jv 0 1 r1 := by rw [hr1]; exact gi_01 _ _ _
  refine g_if_ne cx 17 e_X10_cloth_12 (by decide) (fun zc4 => ?_) (fun zc4 => ?_)
  · have p5 := gn_neL 1 1 (gc_ne zc4) pr1 (jv_k (x := 0) 0 (by decide)) (by decide)
    refine g_aload_n cx 0 rfl e_X10_cloth_17 ?_
    refine g_get cx cl_X10 fl_X10_10 0 (.ref (ad 1)) e_X10_cloth_18 rfl rfl ?_
    refine g_iload_n cx 1 rfl e_X10_cloth_21 ?_
    refine g_putN cx cl_X8 fn_X10_89 1 (wX X ad (upd F 17 a0) R) e_X10_cloth_22 rfl rfl rfl rfl (Nat.le_of_ble_eq_true rfl) rfl ?_
    obtain ⟨F6, hF6⟩ : ∃ z, z = upd F 17 a0 := ⟨_, rfl⟩
    rw [← hF6]
    have oF6 : g_ok LK_wX F6 := by rw [hF6]; exact g_ok_u hI rfl
    have fF6 : g_fr md_X10_cloth F F6 := by rw [hF6]; exact g_fr_u (g_fr_rf F) rfl
    refine g_iconst cx 1 (by decide) e_X10_cloth_25 ?_
    exact hret e_X10_cloth_26 (Nat.le_of_ble_eq_true rfl) (Nat.le_of_ble_eq_true rfl) rfl ⟨F6, R, rfl, oF6, hA, fF6, (g_fr_rf R), (jv_w (jv_k (x := 1) 1 (by decide)) (by decide))⟩
  · have p7 := gn_eq 0 0 (gc_eq zc4) pr1 (jv_k (x := 0) 0 (by decide)) (by decide)
    refine g_iconst cx 0 (by decide) e_X10_cloth_15 ?_
    exact hret e_X10_cloth_16 (Nat.le_of_ble_eq_true rfl) (Nat.le_of_ble_eq_true rfl) rfl ⟨F, R, rfl, hI, hA, (g_fr_rf F), (g_fr_rf R), (jv_w (jv_k (x := 0) 0 (by decide)) (by decide))⟩
theorem e_X8_change_0 : g_dc cX8_change 0 (.iload_n 1) 1 1 := ⟨by decide +kernel, rfl⟩
theorem e_X8_change_1 : g_dc cX8_change 1 (.iconst 0) 1 2 := ⟨by decide +kernel, rfl⟩
theorem e_X8_change_2 : g_dc cX8_change 2 (.bipush 9) 2 4 := ⟨by decide +kernel, rfl⟩
theorem e_X8_change_4 : g_dc cX8_change 4 (.invokestatic 31) 3 7 := ⟨by decide +kernel, rfl⟩
theorem e_X8_change_7 : g_dc cX8_change 7 (.ifCond .eq 25) 3 10 := ⟨by decide +kernel, rfl⟩
theorem e_X8_change_10 : g_dc cX8_change 10 (.iload_n 2) 1 11 := ⟨by decide +kernel, rfl⟩
theorem e_X8_change_11 : g_dc cX8_change 11 (.iconst 0) 1 12 := ⟨by decide +kernel, rfl⟩
theorem e_X8_change_12 : g_dc cX8_change 12 (.bipush 7) 2 14 := ⟨by decide +kernel, rfl⟩
theorem e_X8_change_14 : g_dc cX8_change 14 (.invokestatic 31) 3 17 := ⟨by decide +kernel, rfl⟩
theorem e_X8_change_17 : g_dc cX8_change 17 (.ifCond .eq 15) 3 20 := ⟨by decide +kernel, rfl⟩
theorem e_X8_change_20 : g_dc cX8_change 20 (.aload_n 0) 1 21 := ⟨by decide +kernel, rfl⟩
theorem e_X8_change_21 : g_dc cX8_change 21 (.getfield 27) 3 24 := ⟨by decide +kernel, rfl⟩
theorem e_X8_change_24 : g_dc cX8_change 24 (.iload_n 1) 1 25 := ⟨by decide +kernel, rfl⟩
theorem e_X8_change_25 : g_dc cX8_change 25 (.bipush 8) 2 27 := ⟨by decide +kernel, rfl⟩
theorem e_X8_change_27 : g_dc cX8_change 27 (.imul) 1 28 := ⟨by decide +kernel, rfl⟩
theorem e_X8_change_28 : g_dc cX8_change 28 (.iload_n 2) 1 29 := ⟨by decide +kernel, rfl⟩
theorem e_X8_change_29 : g_dc cX8_change 29 (.iadd) 1 30 := ⟨by decide +kernel, rfl⟩
theorem e_X8_change_30 : g_dc cX8_change 30 (.iload_n 3) 1 31 := ⟨by decide +kernel, rfl⟩
theorem e_X8_change_31 : g_dc cX8_change 31 (.iastore) 1 32 := ⟨by decide +kernel, rfl⟩
theorem e_X8_change_32 : g_dc cX8_change 32 (.return_) 1 33 := ⟨by decide +kernel, rfl⟩
def md_X8_change_1 : List Nat := []
def mr_X8_change_1 : List Nat := [2]
set_option maxHeartbeats 4000000 in
set_option maxRecDepth 100000 in
theorem w_X8_change_1 (l : Launch) (X : gX) (ad : Nat → Nat) (F : Nat → Int32) (R : Nat → Nat → Int32) (hI : g_ok LK_wX F) (hA : g_okR LA_wX R) (a0 : Int32) (a1 : Int32) (a2 : Int32) : g_Cv l X yX8_change cX8_change 4 2 0 0 [.ref (ad 1), .int a0, .int a1, .int a2] (wX X ad F R) (fun w => ∃ (F' : Nat → Int32) (R' : Nat → Nat → Int32), w = wX X ad F' R' ∧ g_ok LK_wX F' ∧ g_okR LA_wX R' ∧ g_fr md_X8_change_1 F F' ∧ g_fr mr_X8_change_1 R R') := by
  refine g_mv (by decide +kernel) (Nat.le_of_ble_eq_true rfl) (fun E cx hret => ?_)
  refine g_iload_n cx 1 rfl e_X8_change_0 ?_
  refine g_iconst cx 0 (by decide) e_X8_change_1 ?_
  refine g_bipush cx 9 (by decide) e_X8_change_2 ?_
  refine g_cNiW cx [.int a0, .int 0, .int 9] [] (c_X10_within l X (wX X ad F R) a0 0 9) mn_X8_31 yS_X10_within e_X8_change_4 (by unfold g_rr; decide) (by decide) rfl (Nat.le_of_ble_eq_true rfl) (fun r1 w2 h3 => ?_)
  obtain ⟨rfl, hr1⟩ := h3
  have pr1 : jv 0 1 r1 := by rw [hr1]; exact gi_01 _ _ _
  have J32 : ∀ (R4 : Nat → Nat → Int32), (g_okR LA_wX R4) → (g_fr mr_X8_change_1 R R4) → G X E 4 0 0 (wX X ad F R4) [] 32 [] := by
    intro R4 oR4 fR4
    exact hret e_X8_change_32 (Nat.le_of_ble_eq_true rfl) (Nat.le_of_ble_eq_true rfl) ⟨F, R4, rfl, hI, oR4, (g_fr_rf F), fR4⟩
  refine g_if_eq cx 32 e_X8_change_7 (by decide) (fun zc5 => ?_) (fun zc5 => ?_)
  · have p6 := gn_eq 0 0 (gc_eq zc5) pr1 (jv_k (x := 0) 0 (by decide)) (by decide)
    refine g_lsub [] [] rfl ?_
    exact J32 R hA (g_fr_rf R)
  · have p7 := gn_neL 1 1 (gc_ne zc5) pr1 (jv_k (x := 0) 0 (by decide)) (by decide)
    have p8 := jv_i 0 9 (jv_t a0) (gi_in (A := 0) (B := 9) hr1 zc5 (by decide) (by decide)) (by decide)
    refine g_iload_n cx 2 rfl e_X8_change_10 ?_
    refine g_iconst cx 0 (by decide) e_X8_change_11 ?_
    refine g_bipush cx 7 (by decide) e_X8_change_12 ?_
    refine g_cNiW cx [.int a1, .int 0, .int 7] [] (c_X10_within l X (wX X ad F R) a1 0 7) mn_X8_31 yS_X10_within e_X8_change_14 (by unfold g_rr; decide) (by decide) rfl (Nat.le_of_ble_eq_true rfl) (fun r9 w10 h11 => ?_)
    obtain ⟨rfl, hr9⟩ := h11
    have pr9 : jv 0 1 r9 := by rw [hr9]; exact gi_01 _ _ _
    refine g_if_eq cx 32 e_X8_change_17 (by decide) (fun zc12 => ?_) (fun zc12 => ?_)
    · have p13 := gn_eq 0 0 (gc_eq zc12) pr9 (jv_k (x := 0) 0 (by decide)) (by decide)
      refine g_lsub [] [] rfl ?_
      exact J32 R hA (g_fr_rf R)
    · have p14 := gn_neL 1 1 (gc_ne zc12) pr9 (jv_k (x := 0) 0 (by decide)) (by decide)
      have p15 := jv_i 0 7 (jv_t a1) (gi_in (A := 0) (B := 7) hr9 zc12 (by decide) (by decide)) (by decide)
      refine g_aload_n cx 0 rfl e_X8_change_20 ?_
      refine g_get cx cl_X8 fl_X8_27 1 (.ref (ad 2)) e_X8_change_21 rfl rfl ?_
      refine g_iload_n cx 1 rfl e_X8_change_24 ?_
      refine g_bipush cx 8 (by decide) e_X8_change_25 ?_
      refine g_imul cx e_X8_change_27 ?_
      refine g_topi (fun x16 ex16 => ?_)
      have zx16 := jv_mul 0 72 ex16 p8 (jv_k (x := 8) 8 (by decide)) (by decide)
      refine g_iload_n cx 2 rfl e_X8_change_28 ?_
      refine g_iadd cx e_X8_change_29 ?_
      refine g_topi (fun x17 ex17 => ?_)
      have zx17 := jv_add 0 79 ex17 zx16.2 p15 (by decide)
      refine g_iload_n cx 3 rfl e_X8_change_30 ?_
      refine g_iast cx 2 (wX X ad F (g_u R 2 (upd (R 2) (Int32.toNatClampNeg x17) a2))) e_X8_change_31 rfl (jv_ix 80 zx17.2 (by decide)) rfl ?_
      obtain ⟨R18, hR18⟩ : ∃ z, z = g_u R 2 (upd (R 2) (Int32.toNatClampNeg x17) a2) := ⟨_, rfl⟩
      rw [← hR18]
      have oR18 : g_okR LA_wX R18 := by rw [hR18]; exact g_okR_u hA rfl
      have fR18 : g_fr mr_X8_change_1 R R18 := by rw [hR18]; exact g_fr_r (g_fr_rf R) rfl
      refine g_lsub [] [] rfl ?_
      exact J32 R18 oR18 fR18
theorem e_X10_thing_0 : g_dc cX10_thing 0 (.iload_n 1) 1 1 := ⟨by decide +kernel, rfl⟩
theorem e_X10_thing_1 : g_dc cX10_thing 1 (.iconst 0) 1 2 := ⟨by decide +kernel, rfl⟩
theorem e_X10_thing_2 : g_dc cX10_thing 2 (.bipush 9) 2 4 := ⟨by decide +kernel, rfl⟩
theorem e_X10_thing_4 : g_dc cX10_thing 4 (.invokestatic 82) 3 7 := ⟨by decide +kernel, rfl⟩
theorem e_X10_thing_7 : g_dc cX10_thing 7 (.ifCond .eq 66) 3 10 := ⟨by decide +kernel, rfl⟩
theorem e_X10_thing_10 : g_dc cX10_thing 10 (.iload_n 2) 1 11 := ⟨by decide +kernel, rfl⟩
theorem e_X10_thing_11 : g_dc cX10_thing 11 (.iconst 0) 1 12 := ⟨by decide +kernel, rfl⟩
theorem e_X10_thing_12 : g_dc cX10_thing 12 (.iconst 3) 1 13 := ⟨by decide +kernel, rfl⟩
theorem e_X10_thing_13 : g_dc cX10_thing 13 (.invokestatic 82) 3 16 := ⟨by decide +kernel, rfl⟩
theorem e_X10_thing_16 : g_dc cX10_thing 16 (.ifCond .eq 57) 3 19 := ⟨by decide +kernel, rfl⟩
theorem e_X10_thing_19 : g_dc cX10_thing 19 (.iload_n 3) 1 20 := ⟨by decide +kernel, rfl⟩
theorem e_X10_thing_20 : g_dc cX10_thing 20 (.iconst 0) 1 21 := ⟨by decide +kernel, rfl⟩
theorem e_X10_thing_21 : g_dc cX10_thing 21 (.aload_n 0) 1 22 := ⟨by decide +kernel, rfl⟩
theorem e_X10_thing_22 : g_dc cX10_thing 22 (.getfield 10) 3 25 := ⟨by decide +kernel, rfl⟩
theorem e_X10_thing_25 : g_dc cX10_thing 25 (.getfield 86) 3 28 := ⟨by decide +kernel, rfl⟩
theorem e_X10_thing_28 : g_dc cX10_thing 28 (.iconst 1) 1 29 := ⟨by decide +kernel, rfl⟩
theorem e_X10_thing_29 : g_dc cX10_thing 29 (.isub) 1 30 := ⟨by decide +kernel, rfl⟩
theorem e_X10_thing_30 : g_dc cX10_thing 30 (.invokestatic 82) 3 33 := ⟨by decide +kernel, rfl⟩
theorem e_X10_thing_33 : g_dc cX10_thing 33 (.ifCond .eq 40) 3 36 := ⟨by decide +kernel, rfl⟩
theorem e_X10_thing_36 : g_dc cX10_thing 36 (.iload 4) 2 38 := ⟨by decide +kernel, rfl⟩
theorem e_X10_thing_38 : g_dc cX10_thing 38 (.iconst 1) 1 39 := ⟨by decide +kernel, rfl⟩
theorem e_X10_thing_39 : g_dc cX10_thing 39 (.bipush 40) 2 41 := ⟨by decide +kernel, rfl⟩
theorem e_X10_thing_41 : g_dc cX10_thing 41 (.invokestatic 82) 3 44 := ⟨by decide +kernel, rfl⟩
theorem e_X10_thing_44 : g_dc cX10_thing 44 (.ifCond .eq 29) 3 47 := ⟨by decide +kernel, rfl⟩
theorem e_X10_thing_47 : g_dc cX10_thing 47 (.iload 5) 2 49 := ⟨by decide +kernel, rfl⟩
theorem e_X10_thing_49 : g_dc cX10_thing 49 (.iconst 1) 1 50 := ⟨by decide +kernel, rfl⟩
theorem e_X10_thing_50 : g_dc cX10_thing 50 (.bipush 60) 2 52 := ⟨by decide +kernel, rfl⟩
theorem e_X10_thing_52 : g_dc cX10_thing 52 (.invokestatic 82) 3 55 := ⟨by decide +kernel, rfl⟩
theorem e_X10_thing_55 : g_dc cX10_thing 55 (.ifCond .eq 18) 3 58 := ⟨by decide +kernel, rfl⟩
theorem e_X10_thing_58 : g_dc cX10_thing 58 (.iload 6) 2 60 := ⟨by decide +kernel, rfl⟩
theorem e_X10_thing_60 : g_dc cX10_thing 60 (.iconst 1) 1 61 := ⟨by decide +kernel, rfl⟩
theorem e_X10_thing_61 : g_dc cX10_thing 61 (.bipush 99) 2 63 := ⟨by decide +kernel, rfl⟩
theorem e_X10_thing_63 : g_dc cX10_thing 63 (.invokestatic 82) 3 66 := ⟨by decide +kernel, rfl⟩
theorem e_X10_thing_66 : g_dc cX10_thing 66 (.ifCond .eq 7) 3 69 := ⟨by decide +kernel, rfl⟩
theorem e_X10_thing_69 : g_dc cX10_thing 69 (.iconst 1) 1 70 := ⟨by decide +kernel, rfl⟩
theorem e_X10_thing_70 : g_dc cX10_thing 70 (.goto 4) 3 73 := ⟨by decide +kernel, rfl⟩
theorem e_X10_thing_73 : g_dc cX10_thing 73 (.iconst 0) 1 74 := ⟨by decide +kernel, rfl⟩
theorem e_X10_thing_74 : g_dc cX10_thing 74 (.istore 7) 2 76 := ⟨by decide +kernel, rfl⟩
theorem e_X10_thing_76 : g_dc cX10_thing 76 (.iload 7) 2 78 := ⟨by decide +kernel, rfl⟩
theorem e_X10_thing_78 : g_dc cX10_thing 78 (.ifCond .ne 5) 3 81 := ⟨by decide +kernel, rfl⟩
theorem e_X10_thing_81 : g_dc cX10_thing 81 (.iconst 0) 1 82 := ⟨by decide +kernel, rfl⟩
theorem e_X10_thing_82 : g_dc cX10_thing 82 (.ireturn) 1 83 := ⟨by decide +kernel, rfl⟩
theorem e_X10_thing_83 : g_dc cX10_thing 83 (.aload_n 0) 1 84 := ⟨by decide +kernel, rfl⟩
theorem e_X10_thing_84 : g_dc cX10_thing 84 (.getfield 10) 3 87 := ⟨by decide +kernel, rfl⟩
theorem e_X10_thing_87 : g_dc cX10_thing 87 (.dup) 1 88 := ⟨by decide +kernel, rfl⟩
theorem e_X10_thing_88 : g_dc cX10_thing 88 (.getfield 95) 3 91 := ⟨by decide +kernel, rfl⟩
theorem e_X10_thing_91 : g_dc cX10_thing 91 (.iconst 1) 1 92 := ⟨by decide +kernel, rfl⟩
theorem e_X10_thing_92 : g_dc cX10_thing 92 (.iload_n 1) 1 93 := ⟨by decide +kernel, rfl⟩
theorem e_X10_thing_93 : g_dc cX10_thing 93 (.ishl) 1 94 := ⟨by decide +kernel, rfl⟩
theorem e_X10_thing_94 : g_dc cX10_thing 94 (.ior) 1 95 := ⟨by decide +kernel, rfl⟩
theorem e_X10_thing_95 : g_dc cX10_thing 95 (.putfield 95) 3 98 := ⟨by decide +kernel, rfl⟩
theorem e_X10_thing_98 : g_dc cX10_thing 98 (.aload_n 0) 1 99 := ⟨by decide +kernel, rfl⟩
theorem e_X10_thing_99 : g_dc cX10_thing 99 (.getfield 10) 3 102 := ⟨by decide +kernel, rfl⟩
theorem e_X10_thing_102 : g_dc cX10_thing 102 (.iload_n 1) 1 103 := ⟨by decide +kernel, rfl⟩
theorem e_X10_thing_103 : g_dc cX10_thing 103 (.iconst 0) 1 104 := ⟨by decide +kernel, rfl⟩
theorem e_X10_thing_104 : g_dc cX10_thing 104 (.iload_n 2) 1 105 := ⟨by decide +kernel, rfl⟩
theorem e_X10_thing_105 : g_dc cX10_thing 105 (.invokevirtual 98) 3 108 := ⟨by decide +kernel, rfl⟩
theorem e_X10_thing_108 : g_dc cX10_thing 108 (.aload_n 0) 1 109 := ⟨by decide +kernel, rfl⟩
theorem e_X10_thing_109 : g_dc cX10_thing 109 (.getfield 10) 3 112 := ⟨by decide +kernel, rfl⟩
theorem e_X10_thing_112 : g_dc cX10_thing 112 (.iload_n 1) 1 113 := ⟨by decide +kernel, rfl⟩
theorem e_X10_thing_113 : g_dc cX10_thing 113 (.iconst 1) 1 114 := ⟨by decide +kernel, rfl⟩
theorem e_X10_thing_114 : g_dc cX10_thing 114 (.iload_n 3) 1 115 := ⟨by decide +kernel, rfl⟩
theorem e_X10_thing_115 : g_dc cX10_thing 115 (.invokevirtual 98) 3 118 := ⟨by decide +kernel, rfl⟩
theorem e_X10_thing_118 : g_dc cX10_thing 118 (.aload_n 0) 1 119 := ⟨by decide +kernel, rfl⟩
theorem e_X10_thing_119 : g_dc cX10_thing 119 (.getfield 10) 3 122 := ⟨by decide +kernel, rfl⟩
theorem e_X10_thing_122 : g_dc cX10_thing 122 (.iload_n 1) 1 123 := ⟨by decide +kernel, rfl⟩
theorem e_X10_thing_123 : g_dc cX10_thing 123 (.iconst 2) 1 124 := ⟨by decide +kernel, rfl⟩
theorem e_X10_thing_124 : g_dc cX10_thing 124 (.iload 4) 2 126 := ⟨by decide +kernel, rfl⟩
theorem e_X10_thing_126 : g_dc cX10_thing 126 (.invokevirtual 98) 3 129 := ⟨by decide +kernel, rfl⟩
theorem e_X10_thing_129 : g_dc cX10_thing 129 (.aload_n 0) 1 130 := ⟨by decide +kernel, rfl⟩
theorem e_X10_thing_130 : g_dc cX10_thing 130 (.getfield 10) 3 133 := ⟨by decide +kernel, rfl⟩
theorem e_X10_thing_133 : g_dc cX10_thing 133 (.iload_n 1) 1 134 := ⟨by decide +kernel, rfl⟩
theorem e_X10_thing_134 : g_dc cX10_thing 134 (.iconst 3) 1 135 := ⟨by decide +kernel, rfl⟩
theorem e_X10_thing_135 : g_dc cX10_thing 135 (.iload 5) 2 137 := ⟨by decide +kernel, rfl⟩
theorem e_X10_thing_137 : g_dc cX10_thing 137 (.invokevirtual 98) 3 140 := ⟨by decide +kernel, rfl⟩
theorem e_X10_thing_140 : g_dc cX10_thing 140 (.aload_n 0) 1 141 := ⟨by decide +kernel, rfl⟩
theorem e_X10_thing_141 : g_dc cX10_thing 141 (.getfield 10) 3 144 := ⟨by decide +kernel, rfl⟩
theorem e_X10_thing_144 : g_dc cX10_thing 144 (.iload_n 1) 1 145 := ⟨by decide +kernel, rfl⟩
theorem e_X10_thing_145 : g_dc cX10_thing 145 (.iconst 4) 1 146 := ⟨by decide +kernel, rfl⟩
theorem e_X10_thing_146 : g_dc cX10_thing 146 (.iload 6) 2 148 := ⟨by decide +kernel, rfl⟩
theorem e_X10_thing_148 : g_dc cX10_thing 148 (.invokevirtual 98) 3 151 := ⟨by decide +kernel, rfl⟩
theorem e_X10_thing_151 : g_dc cX10_thing 151 (.aload_n 0) 1 152 := ⟨by decide +kernel, rfl⟩
theorem e_X10_thing_152 : g_dc cX10_thing 152 (.getfield 10) 3 155 := ⟨by decide +kernel, rfl⟩
theorem e_X10_thing_155 : g_dc cX10_thing 155 (.iload_n 1) 1 156 := ⟨by decide +kernel, rfl⟩
theorem e_X10_thing_156 : g_dc cX10_thing 156 (.iconst 5) 1 157 := ⟨by decide +kernel, rfl⟩
theorem e_X10_thing_157 : g_dc cX10_thing 157 (.iconst 0) 1 158 := ⟨by decide +kernel, rfl⟩
theorem e_X10_thing_158 : g_dc cX10_thing 158 (.invokevirtual 98) 3 161 := ⟨by decide +kernel, rfl⟩
theorem e_X10_thing_161 : g_dc cX10_thing 161 (.aload_n 0) 1 162 := ⟨by decide +kernel, rfl⟩
theorem e_X10_thing_162 : g_dc cX10_thing 162 (.getfield 10) 3 165 := ⟨by decide +kernel, rfl⟩
theorem e_X10_thing_165 : g_dc cX10_thing 165 (.iload_n 1) 1 166 := ⟨by decide +kernel, rfl⟩
theorem e_X10_thing_166 : g_dc cX10_thing 166 (.bipush 6) 2 168 := ⟨by decide +kernel, rfl⟩
theorem e_X10_thing_168 : g_dc cX10_thing 168 (.iconst 0) 1 169 := ⟨by decide +kernel, rfl⟩
theorem e_X10_thing_169 : g_dc cX10_thing 169 (.invokevirtual 98) 3 172 := ⟨by decide +kernel, rfl⟩
theorem e_X10_thing_172 : g_dc cX10_thing 172 (.aload_n 0) 1 173 := ⟨by decide +kernel, rfl⟩
theorem e_X10_thing_173 : g_dc cX10_thing 173 (.getfield 10) 3 176 := ⟨by decide +kernel, rfl⟩
theorem e_X10_thing_176 : g_dc cX10_thing 176 (.iload_n 1) 1 177 := ⟨by decide +kernel, rfl⟩
theorem e_X10_thing_177 : g_dc cX10_thing 177 (.bipush 7) 2 179 := ⟨by decide +kernel, rfl⟩
theorem e_X10_thing_179 : g_dc cX10_thing 179 (.iconst 0) 1 180 := ⟨by decide +kernel, rfl⟩
theorem e_X10_thing_180 : g_dc cX10_thing 180 (.invokevirtual 98) 3 183 := ⟨by decide +kernel, rfl⟩
theorem e_X10_thing_183 : g_dc cX10_thing 183 (.iconst 1) 1 184 := ⟨by decide +kernel, rfl⟩
theorem e_X10_thing_184 : g_dc cX10_thing 184 (.ireturn) 1 185 := ⟨by decide +kernel, rfl⟩
def md_X10_thing : List Nat := [19]
def mr_X10_thing : List Nat := [2]
set_option maxHeartbeats 4000000 in
set_option maxRecDepth 100000 in
theorem w_X10_thing (l : Launch) (X : gX) (ad : Nat → Nat) (F : Nat → Int32) (R : Nat → Nat → Int32) (hI : g_ok LK_wX F) (hA : g_okR LA_wX R) (a0 : Int32) (a1 : Int32) (a2 : Int32) (a3 : Int32) (a4 : Int32) (a5 : Int32) : g_Ci l X yX10_thing cX10_thing 8 (some .boolean) 3 0 0 [.ref (ad 0), .int a0, .int a1, .int a2, .int a3, .int a4, .int a5] (wX X ad F R) (fun r w => ∃ (F' : Nat → Int32) (R' : Nat → Nat → Int32), w = wX X ad F' R' ∧ g_ok LK_wX F' ∧ g_okR LA_wX R' ∧ g_fr md_X10_thing F F' ∧ g_fr mr_X10_thing R R' ∧ jv 0 1 r) := by
  refine g_mi (by decide +kernel) (Nat.le_of_ble_eq_true rfl) (fun E cx hret => ?_)
  refine g_iload_n cx 1 rfl e_X10_thing_0 ?_
  refine g_iconst cx 0 (by decide) e_X10_thing_1 ?_
  refine g_bipush cx 9 (by decide) e_X10_thing_2 ?_
  refine g_cSiW cx [.int a0, .int 0, .int 9] [] (c_X10_within l X (wX X ad F R) a0 0 9) ml_X10_82 yS_X10_within rfl e_X10_thing_4 (by unfold g_rr; decide) (by decide) rfl (Nat.le_of_ble_eq_true rfl) (fun r1 w2 h3 => ?_)
  obtain ⟨rfl, hr1⟩ := h3
  have pr1 : jv 0 1 r1 := by rw [hr1]; exact gi_01 _ _ _
  have J74 : ∀ (y4 : Int32), (jv 0 1 y4) → G X E 8 0 0 (wX X ad F R) [(0, .ref (ad 0)), (1, .int a0), (2, .int a1), (3, .int a2), (4, .int a3), (5, .int a4), (6, .int a5)] 74 [.int y4] := by
    intro y4 py4
    refine g_istore cx [(7, .int y4), (0, .ref (ad 0)), (1, .int a0), (2, .int a1), (3, .int a2), (4, .int a3), (5, .int a4), (6, .int a5)] e_X10_thing_74 (by decide) rfl ?_
    refine g_iload cx 0 rfl e_X10_thing_76 ?_
    refine g_if_ne cx 83 e_X10_thing_78 (by decide) (fun zc5 => ?_) (fun zc5 => ?_)
    · have p6 := gn_neL 1 1 (gc_ne zc5) py4 (jv_k (x := 0) 0 (by decide)) (by decide)
      refine g_aload_n cx 1 rfl e_X10_thing_83 ?_
      refine g_get cx cl_X10 fl_X10_10 0 (.ref (ad 1)) e_X10_thing_84 rfl rfl ?_
      refine g_dup cx rfl e_X10_thing_87 ?_
      refine g_getN cx cl_X8 fn_X10_95 1 (.int (F 19)) e_X10_thing_88 rfl rfl ?_
      refine g_iconst cx 1 (by decide) e_X10_thing_91 ?_
      refine g_iload_n cx 2 rfl e_X10_thing_92 ?_
      refine g_ishl cx e_X10_thing_93 ?_
      refine g_topi (fun x7 ex7 => ?_)
      refine g_ior cx e_X10_thing_94 ?_
      refine g_topi (fun x8 ex8 => ?_)
      refine g_putN cx cl_X8 fn_X10_95 1 (wX X ad (upd F 19 x8) R) e_X10_thing_95 rfl rfl rfl rfl (Nat.le_of_ble_eq_true rfl) rfl ?_
      obtain ⟨F9, hF9⟩ : ∃ z, z = upd F 19 x8 := ⟨_, rfl⟩
      rw [← hF9]
      have oF9 : g_ok LK_wX F9 := by rw [hF9]; exact g_ok_u hI rfl
      have fF9 : g_fr md_X10_thing F F9 := by rw [hF9]; exact g_fr_u (g_fr_rf F) rfl
      refine g_aload_n cx 1 rfl e_X10_thing_98 ?_
      refine g_get cx cl_X10 fl_X10_10 0 (.ref (ad 1)) e_X10_thing_99 rfl rfl ?_
      refine g_iload_n cx 2 rfl e_X10_thing_102 ?_
      refine g_iconst cx 0 (by decide) e_X10_thing_103 ?_
      refine g_iload_n cx 3 rfl e_X10_thing_104 ?_
      refine g_cVvW cx [.int a0, .int 0, .int a1] [] (w_X8_change_1 l X ad F9 R oF9 hA a0 0 a1) ml_X10_98 yV_X8_change e_X10_thing_105 (by unfold g_rr; decide) (by decide) 1 rfl rfl rfl (Nat.le_of_ble_eq_true rfl) (fun w11 h12 => ?_)
      obtain ⟨F13, R14, rfl, oF13, oR14, cF13, cR14⟩ := h12
      have fF13 : g_fr md_X10_thing F F13 := g_fr_c fF9 cF13 rfl
      have fR14 : g_fr mr_X10_thing R R14 := g_fr_c (g_fr_rf R) cR14 rfl
      refine g_aload_n cx 1 rfl e_X10_thing_108 ?_
      refine g_get cx cl_X10 fl_X10_10 0 (.ref (ad 1)) e_X10_thing_109 rfl rfl ?_
      refine g_iload_n cx 2 rfl e_X10_thing_112 ?_
      refine g_iconst cx 1 (by decide) e_X10_thing_113 ?_
      refine g_iload_n cx 4 rfl e_X10_thing_114 ?_
      refine g_cVvW cx [.int a0, .int 1, .int a2] [] (w_X8_change_1 l X ad F13 R14 oF13 oR14 a0 1 a2) ml_X10_98 yV_X8_change e_X10_thing_115 (by unfold g_rr; decide) (by decide) 1 rfl rfl rfl (Nat.le_of_ble_eq_true rfl) (fun w16 h17 => ?_)
      obtain ⟨F18, R19, rfl, oF18, oR19, cF18, cR19⟩ := h17
      have fF18 : g_fr md_X10_thing F F18 := g_fr_c fF13 cF18 rfl
      have fR19 : g_fr mr_X10_thing R R19 := g_fr_c fR14 cR19 rfl
      refine g_aload_n cx 1 rfl e_X10_thing_118 ?_
      refine g_get cx cl_X10 fl_X10_10 0 (.ref (ad 1)) e_X10_thing_119 rfl rfl ?_
      refine g_iload_n cx 2 rfl e_X10_thing_122 ?_
      refine g_iconst cx 2 (by decide) e_X10_thing_123 ?_
      refine g_iload cx 5 rfl e_X10_thing_124 ?_
      refine g_cVvW cx [.int a0, .int 2, .int a3] [] (w_X8_change_1 l X ad F18 R19 oF18 oR19 a0 2 a3) ml_X10_98 yV_X8_change e_X10_thing_126 (by unfold g_rr; decide) (by decide) 1 rfl rfl rfl (Nat.le_of_ble_eq_true rfl) (fun w21 h22 => ?_)
      obtain ⟨F23, R24, rfl, oF23, oR24, cF23, cR24⟩ := h22
      have fF23 : g_fr md_X10_thing F F23 := g_fr_c fF18 cF23 rfl
      have fR24 : g_fr mr_X10_thing R R24 := g_fr_c fR19 cR24 rfl
      refine g_aload_n cx 1 rfl e_X10_thing_129 ?_
      refine g_get cx cl_X10 fl_X10_10 0 (.ref (ad 1)) e_X10_thing_130 rfl rfl ?_
      refine g_iload_n cx 2 rfl e_X10_thing_133 ?_
      refine g_iconst cx 3 (by decide) e_X10_thing_134 ?_
      refine g_iload cx 6 rfl e_X10_thing_135 ?_
      refine g_cVvW cx [.int a0, .int 3, .int a4] [] (w_X8_change_1 l X ad F23 R24 oF23 oR24 a0 3 a4) ml_X10_98 yV_X8_change e_X10_thing_137 (by unfold g_rr; decide) (by decide) 1 rfl rfl rfl (Nat.le_of_ble_eq_true rfl) (fun w26 h27 => ?_)
      obtain ⟨F28, R29, rfl, oF28, oR29, cF28, cR29⟩ := h27
      have fF28 : g_fr md_X10_thing F F28 := g_fr_c fF23 cF28 rfl
      have fR29 : g_fr mr_X10_thing R R29 := g_fr_c fR24 cR29 rfl
      refine g_aload_n cx 1 rfl e_X10_thing_140 ?_
      refine g_get cx cl_X10 fl_X10_10 0 (.ref (ad 1)) e_X10_thing_141 rfl rfl ?_
      refine g_iload_n cx 2 rfl e_X10_thing_144 ?_
      refine g_iconst cx 4 (by decide) e_X10_thing_145 ?_
      refine g_iload cx 7 rfl e_X10_thing_146 ?_
      refine g_cVvW cx [.int a0, .int 4, .int a5] [] (w_X8_change_1 l X ad F28 R29 oF28 oR29 a0 4 a5) ml_X10_98 yV_X8_change e_X10_thing_148 (by unfold g_rr; decide) (by decide) 1 rfl rfl rfl (Nat.le_of_ble_eq_true rfl) (fun w31 h32 => ?_)
      obtain ⟨F33, R34, rfl, oF33, oR34, cF33, cR34⟩ := h32
      have fF33 : g_fr md_X10_thing F F33 := g_fr_c fF28 cF33 rfl
      have fR34 : g_fr mr_X10_thing R R34 := g_fr_c fR29 cR34 rfl
      refine g_aload_n cx 1 rfl e_X10_thing_151 ?_
      refine g_get cx cl_X10 fl_X10_10 0 (.ref (ad 1)) e_X10_thing_152 rfl rfl ?_
      refine g_iload_n cx 2 rfl e_X10_thing_155 ?_
      refine g_iconst cx 5 (by decide) e_X10_thing_156 ?_
      refine g_iconst cx 0 (by decide) e_X10_thing_157 ?_
      refine g_cVvW cx [.int a0, .int 5, .int 0] [] (w_X8_change_1 l X ad F33 R34 oF33 oR34 a0 5 0) ml_X10_98 yV_X8_change e_X10_thing_158 (by unfold g_rr; decide) (by decide) 1 rfl rfl rfl (Nat.le_of_ble_eq_true rfl) (fun w36 h37 => ?_)
      obtain ⟨F38, R39, rfl, oF38, oR39, cF38, cR39⟩ := h37
      have fF38 : g_fr md_X10_thing F F38 := g_fr_c fF33 cF38 rfl
      have fR39 : g_fr mr_X10_thing R R39 := g_fr_c fR34 cR39 rfl
      refine g_aload_n cx 1 rfl e_X10_thing_161 ?_
      refine g_get cx cl_X10 fl_X10_10 0 (.ref (ad 1)) e_X10_thing_162 rfl rfl ?_
      refine g_iload_n cx 2 rfl e_X10_thing_165 ?_
      refine g_bipush cx 6 (by decide) e_X10_thing_166 ?_
      refine g_iconst cx 0 (by decide) e_X10_thing_168 ?_
      refine g_cVvW cx [.int a0, .int 6, .int 0] [] (w_X8_change_1 l X ad F38 R39 oF38 oR39 a0 6 0) ml_X10_98 yV_X8_change e_X10_thing_169 (by unfold g_rr; decide) (by decide) 1 rfl rfl rfl (Nat.le_of_ble_eq_true rfl) (fun w41 h42 => ?_)
      obtain ⟨F43, R44, rfl, oF43, oR44, cF43, cR44⟩ := h42
      have fF43 : g_fr md_X10_thing F F43 := g_fr_c fF38 cF43 rfl
      have fR44 : g_fr mr_X10_thing R R44 := g_fr_c fR39 cR44 rfl
      refine g_aload_n cx 1 rfl e_X10_thing_172 ?_
      refine g_get cx cl_X10 fl_X10_10 0 (.ref (ad 1)) e_X10_thing_173 rfl rfl ?_
      refine g_iload_n cx 2 rfl e_X10_thing_176 ?_
      refine g_bipush cx 7 (by decide) e_X10_thing_177 ?_
      refine g_iconst cx 0 (by decide) e_X10_thing_179 ?_
      refine g_cVvW cx [.int a0, .int 7, .int 0] [] (w_X8_change_1 l X ad F43 R44 oF43 oR44 a0 7 0) ml_X10_98 yV_X8_change e_X10_thing_180 (by unfold g_rr; decide) (by decide) 1 rfl rfl rfl (Nat.le_of_ble_eq_true rfl) (fun w46 h47 => ?_)
      obtain ⟨F48, R49, rfl, oF48, oR49, cF48, cR49⟩ := h47
      have fF48 : g_fr md_X10_thing F F48 := g_fr_c fF43 cF48 rfl
      have fR49 : g_fr mr_X10_thing R R49 := g_fr_c fR44 cR49 rfl
      refine g_iconst cx 1 (by decide) e_X10_thing_183 ?_
      exact hret e_X10_thing_184 (Nat.le_of_ble_eq_true rfl) (Nat.le_of_ble_eq_true rfl) rfl ⟨F48, R49, rfl, oF48, oR49, fF48, fR49, (jv_w (jv_k (x := 1) 1 (by decide)) (by decide))⟩
    · have p50 := gn_eq 0 0 (gc_eq zc5) py4 (jv_k (x := 0) 0 (by decide)) (by decide)
      refine g_iconst cx 0 (by decide) e_X10_thing_81 ?_
      exact hret e_X10_thing_82 (Nat.le_of_ble_eq_true rfl) (Nat.le_of_ble_eq_true rfl) rfl ⟨F, R, rfl, hI, hA, (g_fr_rf F), (g_fr_rf R), (jv_w (jv_k (x := 0) 0 (by decide)) (by decide))⟩
  have J73 : G X E 8 0 0 (wX X ad F R) [(0, .ref (ad 0)), (1, .int a0), (2, .int a1), (3, .int a2), (4, .int a3), (5, .int a4), (6, .int a5)] 73 [] := by
    refine g_iconst cx 0 (by decide) e_X10_thing_73 ?_
    exact J74 0 (jv_w (jv_k (x := 0) 0 (by decide)) (by decide))
  refine g_if_eq cx 73 e_X10_thing_7 (by decide) (fun zc51 => ?_) (fun zc51 => ?_)
  · have p52 := gn_eq 0 0 (gc_eq zc51) pr1 (jv_k (x := 0) 0 (by decide)) (by decide)
    exact J73  
  · have p53 := gn_neL 1 1 (gc_ne zc51) pr1 (jv_k (x := 0) 0 (by decide)) (by decide)
    have p54 := jv_i 0 9 (jv_t a0) (gi_in (A := 0) (B := 9) hr1 zc51 (by decide) (by decide)) (by decide)
    refine g_iload_n cx 2 rfl e_X10_thing_10 ?_
    refine g_iconst cx 0 (by decide) e_X10_thing_11 ?_
    refine g_iconst cx 3 (by decide) e_X10_thing_12 ?_
    refine g_cSiW cx [.int a1, .int 0, .int 3] [] (c_X10_within l X (wX X ad F R) a1 0 3) ml_X10_82 yS_X10_within rfl e_X10_thing_13 (by unfold g_rr; decide) (by decide) rfl (Nat.le_of_ble_eq_true rfl) (fun r55 w56 h57 => ?_)
    obtain ⟨rfl, hr55⟩ := h57
    have pr55 : jv 0 1 r55 := by rw [hr55]; exact gi_01 _ _ _
    refine g_if_eq cx 73 e_X10_thing_16 (by decide) (fun zc58 => ?_) (fun zc58 => ?_)
    · have p59 := gn_eq 0 0 (gc_eq zc58) pr55 (jv_k (x := 0) 0 (by decide)) (by decide)
      exact J73  
    · have p60 := gn_neL 1 1 (gc_ne zc58) pr55 (jv_k (x := 0) 0 (by decide)) (by decide)
      have p61 := jv_i 0 3 (jv_t a1) (gi_in (A := 0) (B := 3) hr55 zc58 (by decide) (by decide)) (by decide)
      refine g_iload_n cx 3 rfl e_X10_thing_19 ?_
      refine g_iconst cx 0 (by decide) e_X10_thing_20 ?_
      refine g_aload_n cx 0 rfl e_X10_thing_21 ?_
      refine g_get cx cl_X10 fl_X10_10 0 (.ref (ad 1)) e_X10_thing_22 rfl rfl ?_
      refine g_getN cx cl_X8 fn_X10_86 1 (.int (F 16)) e_X10_thing_25 rfl rfl ?_
      refine g_iconst cx 1 (by decide) e_X10_thing_28 ?_
      refine g_isub cx e_X10_thing_29 ?_
      refine g_topi (fun x62 ex62 => ?_)
      refine g_cSiW cx [.int a2, .int 0, .int x62] [] (c_X10_within l X (wX X ad F R) a2 0 x62) ml_X10_82 yS_X10_within rfl e_X10_thing_30 (by unfold g_rr; decide) (by decide) rfl (Nat.le_of_ble_eq_true rfl) (fun r63 w64 h65 => ?_)
      obtain ⟨rfl, hr63⟩ := h65
      have pr63 : jv 0 1 r63 := by rw [hr63]; exact gi_01 _ _ _
      refine g_if_eq cx 73 e_X10_thing_33 (by decide) (fun zc66 => ?_) (fun zc66 => ?_)
      · have p67 := gn_eq 0 0 (gc_eq zc66) pr63 (jv_k (x := 0) 0 (by decide)) (by decide)
        exact J73  
      · have p68 := gn_neL 1 1 (gc_ne zc66) pr63 (jv_k (x := 0) 0 (by decide)) (by decide)
        refine g_iload cx 4 rfl e_X10_thing_36 ?_
        refine g_iconst cx 1 (by decide) e_X10_thing_38 ?_
        refine g_bipush cx 40 (by decide) e_X10_thing_39 ?_
        refine g_cSiW cx [.int a3, .int 1, .int 40] [] (c_X10_within l X (wX X ad F R) a3 1 40) ml_X10_82 yS_X10_within rfl e_X10_thing_41 (by unfold g_rr; decide) (by decide) rfl (Nat.le_of_ble_eq_true rfl) (fun r69 w70 h71 => ?_)
        obtain ⟨rfl, hr69⟩ := h71
        have pr69 : jv 0 1 r69 := by rw [hr69]; exact gi_01 _ _ _
        refine g_if_eq cx 73 e_X10_thing_44 (by decide) (fun zc72 => ?_) (fun zc72 => ?_)
        · have p73 := gn_eq 0 0 (gc_eq zc72) pr69 (jv_k (x := 0) 0 (by decide)) (by decide)
          exact J73  
        · have p74 := gn_neL 1 1 (gc_ne zc72) pr69 (jv_k (x := 0) 0 (by decide)) (by decide)
          have p75 := jv_i 1 40 (jv_t a3) (gi_in (A := 1) (B := 40) hr69 zc72 (by decide) (by decide)) (by decide)
          refine g_iload cx 5 rfl e_X10_thing_47 ?_
          refine g_iconst cx 1 (by decide) e_X10_thing_49 ?_
          refine g_bipush cx 60 (by decide) e_X10_thing_50 ?_
          refine g_cSiW cx [.int a4, .int 1, .int 60] [] (c_X10_within l X (wX X ad F R) a4 1 60) ml_X10_82 yS_X10_within rfl e_X10_thing_52 (by unfold g_rr; decide) (by decide) rfl (Nat.le_of_ble_eq_true rfl) (fun r76 w77 h78 => ?_)
          obtain ⟨rfl, hr76⟩ := h78
          have pr76 : jv 0 1 r76 := by rw [hr76]; exact gi_01 _ _ _
          refine g_if_eq cx 73 e_X10_thing_55 (by decide) (fun zc79 => ?_) (fun zc79 => ?_)
          · have p80 := gn_eq 0 0 (gc_eq zc79) pr76 (jv_k (x := 0) 0 (by decide)) (by decide)
            exact J73  
          · have p81 := gn_neL 1 1 (gc_ne zc79) pr76 (jv_k (x := 0) 0 (by decide)) (by decide)
            have p82 := jv_i 1 60 (jv_t a4) (gi_in (A := 1) (B := 60) hr76 zc79 (by decide) (by decide)) (by decide)
            refine g_iload cx 6 rfl e_X10_thing_58 ?_
            refine g_iconst cx 1 (by decide) e_X10_thing_60 ?_
            refine g_bipush cx 99 (by decide) e_X10_thing_61 ?_
            refine g_cSiW cx [.int a5, .int 1, .int 99] [] (c_X10_within l X (wX X ad F R) a5 1 99) ml_X10_82 yS_X10_within rfl e_X10_thing_63 (by unfold g_rr; decide) (by decide) rfl (Nat.le_of_ble_eq_true rfl) (fun r83 w84 h85 => ?_)
            obtain ⟨rfl, hr83⟩ := h85
            have pr83 : jv 0 1 r83 := by rw [hr83]; exact gi_01 _ _ _
            refine g_if_eq cx 73 e_X10_thing_66 (by decide) (fun zc86 => ?_) (fun zc86 => ?_)
            · have p87 := gn_eq 0 0 (gc_eq zc86) pr83 (jv_k (x := 0) 0 (by decide)) (by decide)
              exact J73  
            · have p88 := gn_neL 1 1 (gc_ne zc86) pr83 (jv_k (x := 0) 0 (by decide)) (by decide)
              have p89 := jv_i 1 99 (jv_t a5) (gi_in (A := 1) (B := 99) hr83 zc86 (by decide) (by decide)) (by decide)
              refine g_iconst cx 1 (by decide) e_X10_thing_69 ?_
              refine g_goto cx 74 e_X10_thing_70 (by decide) ?_
              exact J74 1 (jv_w (jv_k (x := 1) 1 (by decide)) (by decide))
theorem e_X8_has_0 : g_dc cX8_has 0 (.iload_n 1) 1 1 := ⟨by decide +kernel, rfl⟩
theorem e_X8_has_1 : g_dc cX8_has 1 (.iconst 0) 1 2 := ⟨by decide +kernel, rfl⟩
theorem e_X8_has_2 : g_dc cX8_has 2 (.bipush 9) 2 4 := ⟨by decide +kernel, rfl⟩
theorem e_X8_has_4 : g_dc cX8_has 4 (.invokestatic 31) 3 7 := ⟨by decide +kernel, rfl⟩
theorem e_X8_has_7 : g_dc cX8_has 7 (.ifCond .eq 18) 3 10 := ⟨by decide +kernel, rfl⟩
theorem e_X8_has_10 : g_dc cX8_has 10 (.aload_n 0) 1 11 := ⟨by decide +kernel, rfl⟩
theorem e_X8_has_11 : g_dc cX8_has 11 (.getfield 21) 3 14 := ⟨by decide +kernel, rfl⟩
theorem e_X8_has_14 : g_dc cX8_has 14 (.iconst 1) 1 15 := ⟨by decide +kernel, rfl⟩
theorem e_X8_has_15 : g_dc cX8_has 15 (.iload_n 1) 1 16 := ⟨by decide +kernel, rfl⟩
theorem e_X8_has_16 : g_dc cX8_has 16 (.ishl) 1 17 := ⟨by decide +kernel, rfl⟩
theorem e_X8_has_17 : g_dc cX8_has 17 (.iand) 1 18 := ⟨by decide +kernel, rfl⟩
theorem e_X8_has_18 : g_dc cX8_has 18 (.ifCond .eq 7) 3 21 := ⟨by decide +kernel, rfl⟩
theorem e_X8_has_21 : g_dc cX8_has 21 (.iconst 1) 1 22 := ⟨by decide +kernel, rfl⟩
theorem e_X8_has_22 : g_dc cX8_has 22 (.goto 4) 3 25 := ⟨by decide +kernel, rfl⟩
theorem e_X8_has_25 : g_dc cX8_has 25 (.iconst 0) 1 26 := ⟨by decide +kernel, rfl⟩
theorem e_X8_has_26 : g_dc cX8_has 26 (.ireturn) 1 27 := ⟨by decide +kernel, rfl⟩
set_option maxHeartbeats 4000000 in
set_option maxRecDepth 100000 in
theorem w_X8_has_1 (l : Launch) (X : gX) (ad : Nat → Nat) (F : Nat → Int32) (R : Nat → Nat → Int32) (hI : g_ok LK_wX F) (hA : g_okR LA_wX R) (a0 : Int32) : g_Ci l X yX8_has cX8_has 2 (some .boolean) 2 0 0 [.ref (ad 1), .int a0] (wX X ad F R) (fun r w => w = wX X ad F R ∧ jv 0 1 r) := by
  refine g_mi (by decide +kernel) (Nat.le_of_ble_eq_true rfl) (fun E cx hret => ?_)
  refine g_iload_n cx 1 rfl e_X8_has_0 ?_
  refine g_iconst cx 0 (by decide) e_X8_has_1 ?_
  refine g_bipush cx 9 (by decide) e_X8_has_2 ?_
  refine g_cNiW cx [.int a0, .int 0, .int 9] [] (c_X10_within l X (wX X ad F R) a0 0 9) mn_X8_31 yS_X10_within e_X8_has_4 (by unfold g_rr; decide) (by decide) rfl (Nat.le_of_ble_eq_true rfl) (fun r1 w2 h3 => ?_)
  obtain ⟨rfl, hr1⟩ := h3
  have pr1 : jv 0 1 r1 := by rw [hr1]; exact gi_01 _ _ _
  have J26 : ∀ (y4 : Int32), (jv 0 1 y4) → G X E 2 0 0 (wX X ad F R) [] 26 [.int y4] := by
    intro y4 py4
    exact hret e_X8_has_26 (Nat.le_of_ble_eq_true rfl) (Nat.le_of_ble_eq_true rfl) (g_narb py4) ⟨rfl, py4⟩
  have J25 : G X E 2 0 0 (wX X ad F R) [] 25 [] := by
    refine g_iconst cx 0 (by decide) e_X8_has_25 ?_
    exact J26 0 (jv_w (jv_k (x := 0) 0 (by decide)) (by decide))
  refine g_if_eq cx 25 e_X8_has_7 (by decide) (fun zc5 => ?_) (fun zc5 => ?_)
  · have p6 := gn_eq 0 0 (gc_eq zc5) pr1 (jv_k (x := 0) 0 (by decide)) (by decide)
    refine g_lsub [] [] rfl ?_
    exact J25  
  · have p7 := gn_neL 1 1 (gc_ne zc5) pr1 (jv_k (x := 0) 0 (by decide)) (by decide)
    have p8 := jv_i 0 9 (jv_t a0) (gi_in (A := 0) (B := 9) hr1 zc5 (by decide) (by decide)) (by decide)
    refine g_aload_n cx 0 rfl e_X8_has_10 ?_
    refine g_get cx cl_X8 fl_X8_21 1 (.int (F 19)) e_X8_has_11 rfl rfl ?_
    refine g_iconst cx 1 (by decide) e_X8_has_14 ?_
    refine g_iload_n cx 1 rfl e_X8_has_15 ?_
    refine g_ishl cx e_X8_has_16 ?_
    refine g_topi (fun x9 ex9 => ?_)
    refine g_iand cx e_X8_has_17 ?_
    refine g_topi (fun x10 ex10 => ?_)
    refine g_if_eq cx 25 e_X8_has_18 (by decide) (fun zc11 => ?_) (fun zc11 => ?_)
    · have p12 := gn_eq 0 0 (gc_eq zc11) (jv_t x10) (jv_k (x := 0) 0 (by decide)) (by decide)
      refine g_lsub [] [] rfl ?_
      exact J25  
    · refine g_iconst cx 1 (by decide) e_X8_has_21 ?_
      refine g_goto cx 26 e_X8_has_22 (by decide) ?_
      refine g_lsub [] [] rfl ?_
      exact J26 1 (jv_w (jv_k (x := 1) 1 (by decide)) (by decide))
theorem e_X10_more_0 : g_dc cX10_more 0 (.aload_n 0) 1 1 := ⟨by decide +kernel, rfl⟩
theorem e_X10_more_1 : g_dc cX10_more 1 (.getfield 10) 3 4 := ⟨by decide +kernel, rfl⟩
theorem e_X10_more_4 : g_dc cX10_more 4 (.iload_n 1) 1 5 := ⟨by decide +kernel, rfl⟩
theorem e_X10_more_5 : g_dc cX10_more 5 (.invokevirtual 102) 3 8 := ⟨by decide +kernel, rfl⟩
theorem e_X10_more_8 : g_dc cX10_more 8 (.ifCond .eq 35) 3 11 := ⟨by decide +kernel, rfl⟩
theorem e_X10_more_11 : g_dc cX10_more 11 (.iload_n 2) 1 12 := ⟨by decide +kernel, rfl⟩
theorem e_X10_more_12 : g_dc cX10_more 12 (.iconst 0) 1 13 := ⟨by decide +kernel, rfl⟩
theorem e_X10_more_13 : g_dc cX10_more 13 (.bipush 9) 2 15 := ⟨by decide +kernel, rfl⟩
theorem e_X10_more_15 : g_dc cX10_more 15 (.invokestatic 82) 3 18 := ⟨by decide +kernel, rfl⟩
theorem e_X10_more_18 : g_dc cX10_more 18 (.ifCond .eq 25) 3 21 := ⟨by decide +kernel, rfl⟩
theorem e_X10_more_21 : g_dc cX10_more 21 (.iload_n 3) 1 22 := ⟨by decide +kernel, rfl⟩
theorem e_X10_more_22 : g_dc cX10_more 22 (.iconst 0) 1 23 := ⟨by decide +kernel, rfl⟩
theorem e_X10_more_23 : g_dc cX10_more 23 (.bipush 9) 2 25 := ⟨by decide +kernel, rfl⟩
theorem e_X10_more_25 : g_dc cX10_more 25 (.invokestatic 82) 3 28 := ⟨by decide +kernel, rfl⟩
theorem e_X10_more_28 : g_dc cX10_more 28 (.ifCond .eq 15) 3 31 := ⟨by decide +kernel, rfl⟩
theorem e_X10_more_31 : g_dc cX10_more 31 (.iload 4) 2 33 := ⟨by decide +kernel, rfl⟩
theorem e_X10_more_33 : g_dc cX10_more 33 (.iconst 0) 1 34 := ⟨by decide +kernel, rfl⟩
theorem e_X10_more_34 : g_dc cX10_more 34 (.sipush 999) 3 37 := ⟨by decide +kernel, rfl⟩
theorem e_X10_more_37 : g_dc cX10_more 37 (.invokestatic 82) 3 40 := ⟨by decide +kernel, rfl⟩
theorem e_X10_more_40 : g_dc cX10_more 40 (.ifCond .ne 5) 3 43 := ⟨by decide +kernel, rfl⟩
theorem e_X10_more_43 : g_dc cX10_more 43 (.iconst 0) 1 44 := ⟨by decide +kernel, rfl⟩
theorem e_X10_more_44 : g_dc cX10_more 44 (.ireturn) 1 45 := ⟨by decide +kernel, rfl⟩
theorem e_X10_more_45 : g_dc cX10_more 45 (.aload_n 0) 1 46 := ⟨by decide +kernel, rfl⟩
theorem e_X10_more_46 : g_dc cX10_more 46 (.getfield 10) 3 49 := ⟨by decide +kernel, rfl⟩
theorem e_X10_more_49 : g_dc cX10_more 49 (.iload_n 1) 1 50 := ⟨by decide +kernel, rfl⟩
theorem e_X10_more_50 : g_dc cX10_more 50 (.iconst 5) 1 51 := ⟨by decide +kernel, rfl⟩
theorem e_X10_more_51 : g_dc cX10_more 51 (.iload_n 2) 1 52 := ⟨by decide +kernel, rfl⟩
theorem e_X10_more_52 : g_dc cX10_more 52 (.invokevirtual 98) 3 55 := ⟨by decide +kernel, rfl⟩
theorem e_X10_more_55 : g_dc cX10_more 55 (.aload_n 0) 1 56 := ⟨by decide +kernel, rfl⟩
theorem e_X10_more_56 : g_dc cX10_more 56 (.getfield 10) 3 59 := ⟨by decide +kernel, rfl⟩
theorem e_X10_more_59 : g_dc cX10_more 59 (.iload_n 1) 1 60 := ⟨by decide +kernel, rfl⟩
theorem e_X10_more_60 : g_dc cX10_more 60 (.bipush 6) 2 62 := ⟨by decide +kernel, rfl⟩
theorem e_X10_more_62 : g_dc cX10_more 62 (.iload_n 3) 1 63 := ⟨by decide +kernel, rfl⟩
theorem e_X10_more_63 : g_dc cX10_more 63 (.invokevirtual 98) 3 66 := ⟨by decide +kernel, rfl⟩
theorem e_X10_more_66 : g_dc cX10_more 66 (.aload_n 0) 1 67 := ⟨by decide +kernel, rfl⟩
theorem e_X10_more_67 : g_dc cX10_more 67 (.getfield 10) 3 70 := ⟨by decide +kernel, rfl⟩
theorem e_X10_more_70 : g_dc cX10_more 70 (.iload_n 1) 1 71 := ⟨by decide +kernel, rfl⟩
theorem e_X10_more_71 : g_dc cX10_more 71 (.bipush 7) 2 73 := ⟨by decide +kernel, rfl⟩
theorem e_X10_more_73 : g_dc cX10_more 73 (.iload 4) 2 75 := ⟨by decide +kernel, rfl⟩
theorem e_X10_more_75 : g_dc cX10_more 75 (.invokevirtual 98) 3 78 := ⟨by decide +kernel, rfl⟩
theorem e_X10_more_78 : g_dc cX10_more 78 (.iconst 1) 1 79 := ⟨by decide +kernel, rfl⟩
theorem e_X10_more_79 : g_dc cX10_more 79 (.ireturn) 1 80 := ⟨by decide +kernel, rfl⟩
def md_X10_more : List Nat := []
def mr_X10_more : List Nat := [2]
set_option maxHeartbeats 4000000 in
set_option maxRecDepth 100000 in
theorem w_X10_more (l : Launch) (X : gX) (ad : Nat → Nat) (F : Nat → Int32) (R : Nat → Nat → Int32) (hI : g_ok LK_wX F) (hA : g_okR LA_wX R) (a0 : Int32) (a1 : Int32) (a2 : Int32) (a3 : Int32) : g_Ci l X yX10_more cX10_more 5 (some .boolean) 3 0 0 [.ref (ad 0), .int a0, .int a1, .int a2, .int a3] (wX X ad F R) (fun r w => ∃ (F' : Nat → Int32) (R' : Nat → Nat → Int32), w = wX X ad F' R' ∧ g_ok LK_wX F' ∧ g_okR LA_wX R' ∧ g_fr md_X10_more F F' ∧ g_fr mr_X10_more R R' ∧ jv 0 1 r) := by
  refine g_mi (by decide +kernel) (Nat.le_of_ble_eq_true rfl) (fun E cx hret => ?_)
  refine g_aload_n cx 0 rfl e_X10_more_0 ?_
  refine g_get cx cl_X10 fl_X10_10 0 (.ref (ad 1)) e_X10_more_1 rfl rfl ?_
  refine g_iload_n cx 1 rfl e_X10_more_4 ?_
  refine g_cViW cx [.int a0] [] (w_X8_has_1 l X ad F R hI hA a0) ml_X10_102 yV_X8_has e_X10_more_5 (by unfold g_rr; decide) (by decide) 1 rfl rfl rfl (Nat.le_of_ble_eq_true rfl) (fun r1 w2 h3 => ?_)
  obtain ⟨rfl, pr1⟩ := h3
  have J43 : G X E 5 0 0 (wX X ad F R) [] 43 [] := by
    refine g_iconst cx 0 (by decide) e_X10_more_43 ?_
    exact hret e_X10_more_44 (Nat.le_of_ble_eq_true rfl) (Nat.le_of_ble_eq_true rfl) rfl ⟨F, R, rfl, hI, hA, (g_fr_rf F), (g_fr_rf R), (jv_w (jv_k (x := 0) 0 (by decide)) (by decide))⟩
  refine g_if_eq cx 43 e_X10_more_8 (by decide) (fun zc4 => ?_) (fun zc4 => ?_)
  · have p5 := gn_eq 0 0 (gc_eq zc4) pr1 (jv_k (x := 0) 0 (by decide)) (by decide)
    refine g_lsub [] [] rfl ?_
    exact J43  
  · have p6 := gn_neL 1 1 (gc_ne zc4) pr1 (jv_k (x := 0) 0 (by decide)) (by decide)
    refine g_iload_n cx 2 rfl e_X10_more_11 ?_
    refine g_iconst cx 0 (by decide) e_X10_more_12 ?_
    refine g_bipush cx 9 (by decide) e_X10_more_13 ?_
    refine g_cSiW cx [.int a1, .int 0, .int 9] [] (c_X10_within l X (wX X ad F R) a1 0 9) ml_X10_82 yS_X10_within rfl e_X10_more_15 (by unfold g_rr; decide) (by decide) rfl (Nat.le_of_ble_eq_true rfl) (fun r7 w8 h9 => ?_)
    obtain ⟨rfl, hr7⟩ := h9
    have pr7 : jv 0 1 r7 := by rw [hr7]; exact gi_01 _ _ _
    refine g_if_eq cx 43 e_X10_more_18 (by decide) (fun zc10 => ?_) (fun zc10 => ?_)
    · have p11 := gn_eq 0 0 (gc_eq zc10) pr7 (jv_k (x := 0) 0 (by decide)) (by decide)
      refine g_lsub [] [] rfl ?_
      exact J43  
    · have p12 := gn_neL 1 1 (gc_ne zc10) pr7 (jv_k (x := 0) 0 (by decide)) (by decide)
      have p13 := jv_i 0 9 (jv_t a1) (gi_in (A := 0) (B := 9) hr7 zc10 (by decide) (by decide)) (by decide)
      refine g_iload_n cx 3 rfl e_X10_more_21 ?_
      refine g_iconst cx 0 (by decide) e_X10_more_22 ?_
      refine g_bipush cx 9 (by decide) e_X10_more_23 ?_
      refine g_cSiW cx [.int a2, .int 0, .int 9] [] (c_X10_within l X (wX X ad F R) a2 0 9) ml_X10_82 yS_X10_within rfl e_X10_more_25 (by unfold g_rr; decide) (by decide) rfl (Nat.le_of_ble_eq_true rfl) (fun r14 w15 h16 => ?_)
      obtain ⟨rfl, hr14⟩ := h16
      have pr14 : jv 0 1 r14 := by rw [hr14]; exact gi_01 _ _ _
      refine g_if_eq cx 43 e_X10_more_28 (by decide) (fun zc17 => ?_) (fun zc17 => ?_)
      · have p18 := gn_eq 0 0 (gc_eq zc17) pr14 (jv_k (x := 0) 0 (by decide)) (by decide)
        refine g_lsub [] [] rfl ?_
        exact J43  
      · have p19 := gn_neL 1 1 (gc_ne zc17) pr14 (jv_k (x := 0) 0 (by decide)) (by decide)
        have p20 := jv_i 0 9 (jv_t a2) (gi_in (A := 0) (B := 9) hr14 zc17 (by decide) (by decide)) (by decide)
        refine g_iload cx 4 rfl e_X10_more_31 ?_
        refine g_iconst cx 0 (by decide) e_X10_more_33 ?_
        refine g_sipush cx 999 (by decide) e_X10_more_34 ?_
        refine g_cSiW cx [.int a3, .int 0, .int 999] [] (c_X10_within l X (wX X ad F R) a3 0 999) ml_X10_82 yS_X10_within rfl e_X10_more_37 (by unfold g_rr; decide) (by decide) rfl (Nat.le_of_ble_eq_true rfl) (fun r21 w22 h23 => ?_)
        obtain ⟨rfl, hr21⟩ := h23
        have pr21 : jv 0 1 r21 := by rw [hr21]; exact gi_01 _ _ _
        refine g_if_ne cx 45 e_X10_more_40 (by decide) (fun zc24 => ?_) (fun zc24 => ?_)
        · have p25 := gn_neL 1 1 (gc_ne zc24) pr21 (jv_k (x := 0) 0 (by decide)) (by decide)
          have p26 := jv_i 0 999 (jv_t a3) (gi_in (A := 0) (B := 999) hr21 zc24 (by decide) (by decide)) (by decide)
          refine g_aload_n cx 0 rfl e_X10_more_45 ?_
          refine g_get cx cl_X10 fl_X10_10 0 (.ref (ad 1)) e_X10_more_46 rfl rfl ?_
          refine g_iload_n cx 1 rfl e_X10_more_49 ?_
          refine g_iconst cx 5 (by decide) e_X10_more_50 ?_
          refine g_iload_n cx 2 rfl e_X10_more_51 ?_
          refine g_cVvW cx [.int a0, .int 5, .int a1] [] (w_X8_change_1 l X ad F R hI hA a0 5 a1) ml_X10_98 yV_X8_change e_X10_more_52 (by unfold g_rr; decide) (by decide) 1 rfl rfl rfl (Nat.le_of_ble_eq_true rfl) (fun w28 h29 => ?_)
          obtain ⟨F30, R31, rfl, oF30, oR31, cF30, cR31⟩ := h29
          have fF30 : g_fr md_X10_more F F30 := g_fr_c (g_fr_rf F) cF30 rfl
          have fR31 : g_fr mr_X10_more R R31 := g_fr_c (g_fr_rf R) cR31 rfl
          refine g_aload_n cx 0 rfl e_X10_more_55 ?_
          refine g_get cx cl_X10 fl_X10_10 0 (.ref (ad 1)) e_X10_more_56 rfl rfl ?_
          refine g_iload_n cx 1 rfl e_X10_more_59 ?_
          refine g_bipush cx 6 (by decide) e_X10_more_60 ?_
          refine g_iload_n cx 3 rfl e_X10_more_62 ?_
          refine g_cVvW cx [.int a0, .int 6, .int a2] [] (w_X8_change_1 l X ad F30 R31 oF30 oR31 a0 6 a2) ml_X10_98 yV_X8_change e_X10_more_63 (by unfold g_rr; decide) (by decide) 1 rfl rfl rfl (Nat.le_of_ble_eq_true rfl) (fun w33 h34 => ?_)
          obtain ⟨F35, R36, rfl, oF35, oR36, cF35, cR36⟩ := h34
          have fF35 : g_fr md_X10_more F F35 := g_fr_c fF30 cF35 rfl
          have fR36 : g_fr mr_X10_more R R36 := g_fr_c fR31 cR36 rfl
          refine g_aload_n cx 0 rfl e_X10_more_66 ?_
          refine g_get cx cl_X10 fl_X10_10 0 (.ref (ad 1)) e_X10_more_67 rfl rfl ?_
          refine g_iload_n cx 1 rfl e_X10_more_70 ?_
          refine g_bipush cx 7 (by decide) e_X10_more_71 ?_
          refine g_iload cx 4 rfl e_X10_more_73 ?_
          refine g_cVvW cx [.int a0, .int 7, .int a3] [] (w_X8_change_1 l X ad F35 R36 oF35 oR36 a0 7 a3) ml_X10_98 yV_X8_change e_X10_more_75 (by unfold g_rr; decide) (by decide) 1 rfl rfl rfl (Nat.le_of_ble_eq_true rfl) (fun w38 h39 => ?_)
          obtain ⟨F40, R41, rfl, oF40, oR41, cF40, cR41⟩ := h39
          have fF40 : g_fr md_X10_more F F40 := g_fr_c fF35 cF40 rfl
          have fR41 : g_fr mr_X10_more R R41 := g_fr_c fR36 cR41 rfl
          refine g_iconst cx 1 (by decide) e_X10_more_78 ?_
          exact hret e_X10_more_79 (Nat.le_of_ble_eq_true rfl) (Nat.le_of_ble_eq_true rfl) rfl ⟨F40, R41, rfl, oF40, oR41, fF40, fR41, (jv_w (jv_k (x := 1) 1 (by decide)) (by decide))⟩
        · have p42 := gn_eq 0 0 (gc_eq zc24) pr21 (jv_k (x := 0) 0 (by decide)) (by decide)
          refine g_lsub [] [] rfl ?_
          exact J43  
theorem e_X8_take_0 : g_dc cX8_take 0 (.aload_n 0) 1 1 := ⟨by decide +kernel, rfl⟩
theorem e_X8_take_1 : g_dc cX8_take 1 (.dup) 1 2 := ⟨by decide +kernel, rfl⟩
theorem e_X8_take_2 : g_dc cX8_take 2 (.getfield 21) 3 5 := ⟨by decide +kernel, rfl⟩
theorem e_X8_take_5 : g_dc cX8_take 5 (.iconst 1) 1 6 := ⟨by decide +kernel, rfl⟩
theorem e_X8_take_6 : g_dc cX8_take 6 (.iload_n 1) 1 7 := ⟨by decide +kernel, rfl⟩
theorem e_X8_take_7 : g_dc cX8_take 7 (.ishl) 1 8 := ⟨by decide +kernel, rfl⟩
theorem e_X8_take_8 : g_dc cX8_take 8 (.iconst (-1)) 1 9 := ⟨by decide +kernel, rfl⟩
theorem e_X8_take_9 : g_dc cX8_take 9 (.ixor) 1 10 := ⟨by decide +kernel, rfl⟩
theorem e_X8_take_10 : g_dc cX8_take 10 (.iand) 1 11 := ⟨by decide +kernel, rfl⟩
theorem e_X8_take_11 : g_dc cX8_take 11 (.putfield 21) 3 14 := ⟨by decide +kernel, rfl⟩
theorem e_X8_take_14 : g_dc cX8_take 14 (.return_) 1 15 := ⟨by decide +kernel, rfl⟩
def md_X8_take_1 : List Nat := [19]
def mr_X8_take_1 : List Nat := []
set_option maxHeartbeats 4000000 in
set_option maxRecDepth 100000 in
theorem w_X8_take_1 (l : Launch) (X : gX) (ad : Nat → Nat) (F : Nat → Int32) (R : Nat → Nat → Int32) (hI : g_ok LK_wX F) (hA : g_okR LA_wX R) (a0 : Int32) : g_Cv l X yX8_take cX8_take 2 1 0 0 [.ref (ad 1), .int a0] (wX X ad F R) (fun w => ∃ (F' : Nat → Int32) (R' : Nat → Nat → Int32), w = wX X ad F' R' ∧ g_ok LK_wX F' ∧ g_okR LA_wX R' ∧ g_fr md_X8_take_1 F F' ∧ g_fr mr_X8_take_1 R R') := by
  refine g_mv (by decide +kernel) (Nat.le_of_ble_eq_true rfl) (fun E cx hret => ?_)
  refine g_aload_n cx 0 rfl e_X8_take_0 ?_
  refine g_dup cx rfl e_X8_take_1 ?_
  refine g_get cx cl_X8 fl_X8_21 1 (.int (F 19)) e_X8_take_2 rfl rfl ?_
  refine g_iconst cx 1 (by decide) e_X8_take_5 ?_
  refine g_iload_n cx 1 rfl e_X8_take_6 ?_
  refine g_ishl cx e_X8_take_7 ?_
  refine g_topi (fun x1 ex1 => ?_)
  refine g_iconst cx (-1) (by decide) e_X8_take_8 ?_
  refine g_ixor cx e_X8_take_9 ?_
  refine g_topi (fun x2 ex2 => ?_)
  refine g_iand cx e_X8_take_10 ?_
  refine g_topi (fun x3 ex3 => ?_)
  refine g_put cx cl_X8 fl_X8_21 1 (wX X ad (upd F 19 x3) R) e_X8_take_11 rfl rfl rfl rfl (Nat.le_of_ble_eq_true rfl) rfl ?_
  obtain ⟨F4, hF4⟩ : ∃ z, z = upd F 19 x3 := ⟨_, rfl⟩
  rw [← hF4]
  have oF4 : g_ok LK_wX F4 := by rw [hF4]; exact g_ok_u hI rfl
  have fF4 : g_fr md_X8_take_1 F F4 := by rw [hF4]; exact g_fr_u (g_fr_rf F) rfl
  exact hret e_X8_take_14 (Nat.le_of_ble_eq_true rfl) (Nat.le_of_ble_eq_true rfl) ⟨F4, R, rfl, oF4, hA, fF4, (g_fr_rf R)⟩
theorem e_X10_away_0 : g_dc cX10_away 0 (.aload_n 0) 1 1 := ⟨by decide +kernel, rfl⟩
theorem e_X10_away_1 : g_dc cX10_away 1 (.getfield 10) 3 4 := ⟨by decide +kernel, rfl⟩
theorem e_X10_away_4 : g_dc cX10_away 4 (.iload_n 1) 1 5 := ⟨by decide +kernel, rfl⟩
theorem e_X10_away_5 : g_dc cX10_away 5 (.invokevirtual 102) 3 8 := ⟨by decide +kernel, rfl⟩
theorem e_X10_away_8 : g_dc cX10_away 8 (.ifCond .ne 5) 3 11 := ⟨by decide +kernel, rfl⟩
theorem e_X10_away_11 : g_dc cX10_away 11 (.iconst 0) 1 12 := ⟨by decide +kernel, rfl⟩
theorem e_X10_away_12 : g_dc cX10_away 12 (.ireturn) 1 13 := ⟨by decide +kernel, rfl⟩
theorem e_X10_away_13 : g_dc cX10_away 13 (.aload_n 0) 1 14 := ⟨by decide +kernel, rfl⟩
theorem e_X10_away_14 : g_dc cX10_away 14 (.getfield 10) 3 17 := ⟨by decide +kernel, rfl⟩
theorem e_X10_away_17 : g_dc cX10_away 17 (.iload_n 1) 1 18 := ⟨by decide +kernel, rfl⟩
theorem e_X10_away_18 : g_dc cX10_away 18 (.invokevirtual 106) 3 21 := ⟨by decide +kernel, rfl⟩
theorem e_X10_away_21 : g_dc cX10_away 21 (.iconst 1) 1 22 := ⟨by decide +kernel, rfl⟩
theorem e_X10_away_22 : g_dc cX10_away 22 (.ireturn) 1 23 := ⟨by decide +kernel, rfl⟩
def md_X10_away : List Nat := [19]
def mr_X10_away : List Nat := []
set_option maxHeartbeats 4000000 in
set_option maxRecDepth 100000 in
theorem w_X10_away (l : Launch) (X : gX) (ad : Nat → Nat) (F : Nat → Int32) (R : Nat → Nat → Int32) (hI : g_ok LK_wX F) (hA : g_okR LA_wX R) (a0 : Int32) : g_Ci l X yX10_away cX10_away 2 (some .boolean) 3 0 0 [.ref (ad 0), .int a0] (wX X ad F R) (fun r w => ∃ (F' : Nat → Int32) (R' : Nat → Nat → Int32), w = wX X ad F' R' ∧ g_ok LK_wX F' ∧ g_okR LA_wX R' ∧ g_fr md_X10_away F F' ∧ g_fr mr_X10_away R R' ∧ jv 0 1 r) := by
  refine g_mi (by decide +kernel) (Nat.le_of_ble_eq_true rfl) (fun E cx hret => ?_)
  refine g_aload_n cx 0 rfl e_X10_away_0 ?_
  refine g_get cx cl_X10 fl_X10_10 0 (.ref (ad 1)) e_X10_away_1 rfl rfl ?_
  refine g_iload_n cx 1 rfl e_X10_away_4 ?_
  refine g_cViW cx [.int a0] [] (w_X8_has_1 l X ad F R hI hA a0) ml_X10_102 yV_X8_has e_X10_away_5 (by unfold g_rr; decide) (by decide) 1 rfl rfl rfl (Nat.le_of_ble_eq_true rfl) (fun r1 w2 h3 => ?_)
  obtain ⟨rfl, pr1⟩ := h3
  refine g_if_ne cx 13 e_X10_away_8 (by decide) (fun zc4 => ?_) (fun zc4 => ?_)
  · have p5 := gn_neL 1 1 (gc_ne zc4) pr1 (jv_k (x := 0) 0 (by decide)) (by decide)
    refine g_aload_n cx 0 rfl e_X10_away_13 ?_
    refine g_get cx cl_X10 fl_X10_10 0 (.ref (ad 1)) e_X10_away_14 rfl rfl ?_
    refine g_iload_n cx 1 rfl e_X10_away_17 ?_
    refine g_cVvW cx [.int a0] [] (w_X8_take_1 l X ad F R hI hA a0) ml_X10_106 yV_X8_take e_X10_away_18 (by unfold g_rr; decide) (by decide) 1 rfl rfl rfl (Nat.le_of_ble_eq_true rfl) (fun w7 h8 => ?_)
    obtain ⟨F9, R10, rfl, oF9, oR10, cF9, cR10⟩ := h8
    have fF9 : g_fr md_X10_away F F9 := g_fr_c (g_fr_rf F) cF9 rfl
    have fR10 : g_fr mr_X10_away R R10 := g_fr_c (g_fr_rf R) cR10 rfl
    refine g_iconst cx 1 (by decide) e_X10_away_21 ?_
    exact hret e_X10_away_22 (Nat.le_of_ble_eq_true rfl) (Nat.le_of_ble_eq_true rfl) rfl ⟨F9, R10, rfl, oF9, oR10, fF9, fR10, (jv_w (jv_k (x := 1) 1 (by decide)) (by decide))⟩
  · have p11 := gn_eq 0 0 (gc_eq zc4) pr1 (jv_k (x := 0) 0 (by decide)) (by decide)
    refine g_iconst cx 0 (by decide) e_X10_away_11 ?_
    exact hret e_X10_away_12 (Nat.le_of_ble_eq_true rfl) (Nat.le_of_ble_eq_true rfl) rfl ⟨F, R, rfl, hI, hA, (g_fr_rf F), (g_fr_rf R), (jv_w (jv_k (x := 0) 0 (by decide)) (by decide))⟩
theorem e_X8_side_0 : g_dc cX8_side 0 (.iload_n 1) 1 1 := ⟨by decide +kernel, rfl⟩
theorem e_X8_side_1 : g_dc cX8_side 1 (.iconst 0) 1 2 := ⟨by decide +kernel, rfl⟩
theorem e_X8_side_2 : g_dc cX8_side 2 (.bipush 9) 2 4 := ⟨by decide +kernel, rfl⟩
theorem e_X8_side_4 : g_dc cX8_side 4 (.invokestatic 31) 3 7 := ⟨by decide +kernel, rfl⟩
theorem e_X8_side_7 : g_dc cX8_side 7 (.ifCond .eq 27) 3 10 := ⟨by decide +kernel, rfl⟩
theorem e_X8_side_10 : g_dc cX8_side 10 (.iload_n 2) 1 11 := ⟨by decide +kernel, rfl⟩
theorem e_X8_side_11 : g_dc cX8_side 11 (.iconst 0) 1 12 := ⟨by decide +kernel, rfl⟩
theorem e_X8_side_12 : g_dc cX8_side 12 (.bipush 7) 2 14 := ⟨by decide +kernel, rfl⟩
theorem e_X8_side_14 : g_dc cX8_side 14 (.invokestatic 31) 3 17 := ⟨by decide +kernel, rfl⟩
theorem e_X8_side_17 : g_dc cX8_side 17 (.ifCond .eq 17) 3 20 := ⟨by decide +kernel, rfl⟩
theorem e_X8_side_20 : g_dc cX8_side 20 (.aload_n 0) 1 21 := ⟨by decide +kernel, rfl⟩
theorem e_X8_side_21 : g_dc cX8_side 21 (.getfield 27) 3 24 := ⟨by decide +kernel, rfl⟩
theorem e_X8_side_24 : g_dc cX8_side 24 (.iload_n 1) 1 25 := ⟨by decide +kernel, rfl⟩
theorem e_X8_side_25 : g_dc cX8_side 25 (.bipush 8) 2 27 := ⟨by decide +kernel, rfl⟩
theorem e_X8_side_27 : g_dc cX8_side 27 (.imul) 1 28 := ⟨by decide +kernel, rfl⟩
theorem e_X8_side_28 : g_dc cX8_side 28 (.iload_n 2) 1 29 := ⟨by decide +kernel, rfl⟩
theorem e_X8_side_29 : g_dc cX8_side 29 (.iadd) 1 30 := ⟨by decide +kernel, rfl⟩
theorem e_X8_side_30 : g_dc cX8_side 30 (.iaload) 1 31 := ⟨by decide +kernel, rfl⟩
theorem e_X8_side_31 : g_dc cX8_side 31 (.goto 4) 3 34 := ⟨by decide +kernel, rfl⟩
theorem e_X8_side_34 : g_dc cX8_side 34 (.iconst 0) 1 35 := ⟨by decide +kernel, rfl⟩
theorem e_X8_side_35 : g_dc cX8_side 35 (.ireturn) 1 36 := ⟨by decide +kernel, rfl⟩
set_option maxHeartbeats 4000000 in
set_option maxRecDepth 100000 in
theorem w_X8_side_1 (l : Launch) (X : gX) (ad : Nat → Nat) (F : Nat → Int32) (R : Nat → Nat → Int32) (hI : g_ok LK_wX F) (hA : g_okR LA_wX R) (a0 : Int32) (a1 : Int32) : g_Ci l X yX8_side cX8_side 3 (some .int) 2 0 0 [.ref (ad 1), .int a0, .int a1] (wX X ad F R) (fun r w => w = wX X ad F R ∧ jv (-2147483648) 2147483647 r) := by
  refine g_mi (by decide +kernel) (Nat.le_of_ble_eq_true rfl) (fun E cx hret => ?_)
  refine g_iload_n cx 1 rfl e_X8_side_0 ?_
  refine g_iconst cx 0 (by decide) e_X8_side_1 ?_
  refine g_bipush cx 9 (by decide) e_X8_side_2 ?_
  refine g_cNiW cx [.int a0, .int 0, .int 9] [] (c_X10_within l X (wX X ad F R) a0 0 9) mn_X8_31 yS_X10_within e_X8_side_4 (by unfold g_rr; decide) (by decide) rfl (Nat.le_of_ble_eq_true rfl) (fun r1 w2 h3 => ?_)
  obtain ⟨rfl, hr1⟩ := h3
  have pr1 : jv 0 1 r1 := by rw [hr1]; exact gi_01 _ _ _
  have J35 : ∀ (y4 : Int32), (jv (-2147483648) 2147483647 y4) → G X E 3 0 0 (wX X ad F R) [] 35 [.int y4] := by
    intro y4 py4
    exact hret e_X8_side_35 (Nat.le_of_ble_eq_true rfl) (Nat.le_of_ble_eq_true rfl) rfl ⟨rfl, py4⟩
  have J34 : G X E 3 0 0 (wX X ad F R) [] 34 [] := by
    refine g_iconst cx 0 (by decide) e_X8_side_34 ?_
    exact J35 0 (jv_w (jv_k (x := 0) 0 (by decide)) (by decide))
  refine g_if_eq cx 34 e_X8_side_7 (by decide) (fun zc5 => ?_) (fun zc5 => ?_)
  · have p6 := gn_eq 0 0 (gc_eq zc5) pr1 (jv_k (x := 0) 0 (by decide)) (by decide)
    refine g_lsub [] [] rfl ?_
    exact J34  
  · have p7 := gn_neL 1 1 (gc_ne zc5) pr1 (jv_k (x := 0) 0 (by decide)) (by decide)
    have p8 := jv_i 0 9 (jv_t a0) (gi_in (A := 0) (B := 9) hr1 zc5 (by decide) (by decide)) (by decide)
    refine g_iload_n cx 2 rfl e_X8_side_10 ?_
    refine g_iconst cx 0 (by decide) e_X8_side_11 ?_
    refine g_bipush cx 7 (by decide) e_X8_side_12 ?_
    refine g_cNiW cx [.int a1, .int 0, .int 7] [] (c_X10_within l X (wX X ad F R) a1 0 7) mn_X8_31 yS_X10_within e_X8_side_14 (by unfold g_rr; decide) (by decide) rfl (Nat.le_of_ble_eq_true rfl) (fun r9 w10 h11 => ?_)
    obtain ⟨rfl, hr9⟩ := h11
    have pr9 : jv 0 1 r9 := by rw [hr9]; exact gi_01 _ _ _
    refine g_if_eq cx 34 e_X8_side_17 (by decide) (fun zc12 => ?_) (fun zc12 => ?_)
    · have p13 := gn_eq 0 0 (gc_eq zc12) pr9 (jv_k (x := 0) 0 (by decide)) (by decide)
      refine g_lsub [] [] rfl ?_
      exact J34  
    · have p14 := gn_neL 1 1 (gc_ne zc12) pr9 (jv_k (x := 0) 0 (by decide)) (by decide)
      have p15 := jv_i 0 7 (jv_t a1) (gi_in (A := 0) (B := 7) hr9 zc12 (by decide) (by decide)) (by decide)
      refine g_aload_n cx 0 rfl e_X8_side_20 ?_
      refine g_get cx cl_X8 fl_X8_27 1 (.ref (ad 2)) e_X8_side_21 rfl rfl ?_
      refine g_iload_n cx 1 rfl e_X8_side_24 ?_
      refine g_bipush cx 8 (by decide) e_X8_side_25 ?_
      refine g_imul cx e_X8_side_27 ?_
      refine g_topi (fun x16 ex16 => ?_)
      have zx16 := jv_mul 0 72 ex16 p8 (jv_k (x := 8) 8 (by decide)) (by decide)
      refine g_iload_n cx 2 rfl e_X8_side_28 ?_
      refine g_iadd cx e_X8_side_29 ?_
      refine g_topi (fun x17 ex17 => ?_)
      have zx17 := jv_add 0 79 ex17 zx16.2 p15 (by decide)
      refine g_iald cx 2 e_X8_side_30 rfl (jv_ix 80 zx17.2 (by decide)) ?_
      refine g_topi (fun x18 ex18 => ?_)
      refine g_goto cx 35 e_X8_side_31 (by decide) ?_
      refine g_lsub [] [] rfl ?_
      exact J35 x18 (jv_t x18)
theorem e_X10_thingIs_0 : g_dc cX10_thingIs 0 (.aload_n 0) 1 1 := ⟨by decide +kernel, rfl⟩
theorem e_X10_thingIs_1 : g_dc cX10_thingIs 1 (.getfield 10) 3 4 := ⟨by decide +kernel, rfl⟩
theorem e_X10_thingIs_4 : g_dc cX10_thingIs 4 (.iload_n 1) 1 5 := ⟨by decide +kernel, rfl⟩
theorem e_X10_thingIs_5 : g_dc cX10_thingIs 5 (.invokevirtual 102) 3 8 := ⟨by decide +kernel, rfl⟩
theorem e_X10_thingIs_8 : g_dc cX10_thingIs 8 (.ifCond .eq 25) 3 11 := ⟨by decide +kernel, rfl⟩
theorem e_X10_thingIs_11 : g_dc cX10_thingIs 11 (.iload_n 2) 1 12 := ⟨by decide +kernel, rfl⟩
theorem e_X10_thingIs_12 : g_dc cX10_thingIs 12 (.iconst 0) 1 13 := ⟨by decide +kernel, rfl⟩
theorem e_X10_thingIs_13 : g_dc cX10_thingIs 13 (.bipush 7) 2 15 := ⟨by decide +kernel, rfl⟩
theorem e_X10_thingIs_15 : g_dc cX10_thingIs 15 (.invokestatic 82) 3 18 := ⟨by decide +kernel, rfl⟩
theorem e_X10_thingIs_18 : g_dc cX10_thingIs 18 (.ifCond .eq 15) 3 21 := ⟨by decide +kernel, rfl⟩
theorem e_X10_thingIs_21 : g_dc cX10_thingIs 21 (.aload_n 0) 1 22 := ⟨by decide +kernel, rfl⟩
theorem e_X10_thingIs_22 : g_dc cX10_thingIs 22 (.getfield 10) 3 25 := ⟨by decide +kernel, rfl⟩
theorem e_X10_thingIs_25 : g_dc cX10_thingIs 25 (.iload_n 1) 1 26 := ⟨by decide +kernel, rfl⟩
theorem e_X10_thingIs_26 : g_dc cX10_thingIs 26 (.iload_n 2) 1 27 := ⟨by decide +kernel, rfl⟩
theorem e_X10_thingIs_27 : g_dc cX10_thingIs 27 (.invokevirtual 173) 3 30 := ⟨by decide +kernel, rfl⟩
theorem e_X10_thingIs_30 : g_dc cX10_thingIs 30 (.goto 4) 3 33 := ⟨by decide +kernel, rfl⟩
theorem e_X10_thingIs_33 : g_dc cX10_thingIs 33 (.iconst (-1)) 1 34 := ⟨by decide +kernel, rfl⟩
theorem e_X10_thingIs_34 : g_dc cX10_thingIs 34 (.ireturn) 1 35 := ⟨by decide +kernel, rfl⟩
set_option maxHeartbeats 4000000 in
set_option maxRecDepth 100000 in
theorem w_X10_thingIs (l : Launch) (X : gX) (ad : Nat → Nat) (F : Nat → Int32) (R : Nat → Nat → Int32) (hI : g_ok LK_wX F) (hA : g_okR LA_wX R) (a0 : Int32) (a1 : Int32) : g_Ci l X yX10_thingIs cX10_thingIs 3 (some .int) 3 0 0 [.ref (ad 0), .int a0, .int a1] (wX X ad F R) (fun r w => w = wX X ad F R ∧ jv (-2147483648) 2147483647 r) := by
  refine g_mi (by decide +kernel) (Nat.le_of_ble_eq_true rfl) (fun E cx hret => ?_)
  refine g_aload_n cx 0 rfl e_X10_thingIs_0 ?_
  refine g_get cx cl_X10 fl_X10_10 0 (.ref (ad 1)) e_X10_thingIs_1 rfl rfl ?_
  refine g_iload_n cx 1 rfl e_X10_thingIs_4 ?_
  refine g_cViW cx [.int a0] [] (w_X8_has_1 l X ad F R hI hA a0) ml_X10_102 yV_X8_has e_X10_thingIs_5 (by unfold g_rr; decide) (by decide) 1 rfl rfl rfl (Nat.le_of_ble_eq_true rfl) (fun r1 w2 h3 => ?_)
  obtain ⟨rfl, pr1⟩ := h3
  have J34 : ∀ (y4 : Int32), (jv (-2147483648) 2147483647 y4) → G X E 3 0 0 (wX X ad F R) [] 34 [.int y4] := by
    intro y4 py4
    exact hret e_X10_thingIs_34 (Nat.le_of_ble_eq_true rfl) (Nat.le_of_ble_eq_true rfl) rfl ⟨rfl, py4⟩
  have J33 : G X E 3 0 0 (wX X ad F R) [] 33 [] := by
    refine g_iconst cx (-1) (by decide) e_X10_thingIs_33 ?_
    exact J34 (-1) (jv_w (jv_k (x := (-1)) (-1) (by decide)) (by decide))
  refine g_if_eq cx 33 e_X10_thingIs_8 (by decide) (fun zc5 => ?_) (fun zc5 => ?_)
  · have p6 := gn_eq 0 0 (gc_eq zc5) pr1 (jv_k (x := 0) 0 (by decide)) (by decide)
    refine g_lsub [] [] rfl ?_
    exact J33  
  · have p7 := gn_neL 1 1 (gc_ne zc5) pr1 (jv_k (x := 0) 0 (by decide)) (by decide)
    refine g_iload_n cx 2 rfl e_X10_thingIs_11 ?_
    refine g_iconst cx 0 (by decide) e_X10_thingIs_12 ?_
    refine g_bipush cx 7 (by decide) e_X10_thingIs_13 ?_
    refine g_cSiW cx [.int a1, .int 0, .int 7] [] (c_X10_within l X (wX X ad F R) a1 0 7) ml_X10_82 yS_X10_within rfl e_X10_thingIs_15 (by unfold g_rr; decide) (by decide) rfl (Nat.le_of_ble_eq_true rfl) (fun r8 w9 h10 => ?_)
    obtain ⟨rfl, hr8⟩ := h10
    have pr8 : jv 0 1 r8 := by rw [hr8]; exact gi_01 _ _ _
    refine g_if_eq cx 33 e_X10_thingIs_18 (by decide) (fun zc11 => ?_) (fun zc11 => ?_)
    · have p12 := gn_eq 0 0 (gc_eq zc11) pr8 (jv_k (x := 0) 0 (by decide)) (by decide)
      refine g_lsub [] [] rfl ?_
      exact J33  
    · have p13 := gn_neL 1 1 (gc_ne zc11) pr8 (jv_k (x := 0) 0 (by decide)) (by decide)
      have p14 := jv_i 0 7 (jv_t a1) (gi_in (A := 0) (B := 7) hr8 zc11 (by decide) (by decide)) (by decide)
      refine g_aload_n cx 0 rfl e_X10_thingIs_21 ?_
      refine g_get cx cl_X10 fl_X10_10 0 (.ref (ad 1)) e_X10_thingIs_22 rfl rfl ?_
      refine g_iload_n cx 1 rfl e_X10_thingIs_25 ?_
      refine g_iload_n cx 2 rfl e_X10_thingIs_26 ?_
      refine g_cViW cx [.int a0, .int a1] [] (w_X8_side_1 l X ad F R hI hA a0 a1) ml_X10_173 yV_X8_side e_X10_thingIs_27 (by unfold g_rr; decide) (by decide) 1 rfl rfl rfl (Nat.le_of_ble_eq_true rfl) (fun r15 w16 h17 => ?_)
      obtain ⟨rfl, pr15⟩ := h17
      refine g_goto cx 34 e_X10_thingIs_30 (by decide) ?_
      refine g_lsub [] [] rfl ?_
      exact J34 r15 pr15
theorem e_X9_add_0 : g_dc cX9_add 0 (.bipush 24) 2 2 := ⟨by decide +kernel, rfl⟩
theorem e_X9_add_2 : g_dc cX9_add 2 (.istore_n 2) 1 3 := ⟨by decide +kernel, rfl⟩
theorem e_X9_add_3 : g_dc cX9_add 3 (.iload_n 2) 1 4 := ⟨by decide +kernel, rfl⟩
theorem e_X9_add_4 : g_dc cX9_add 4 (.ifCond .lt 45) 3 7 := ⟨by decide +kernel, rfl⟩
theorem e_X9_add_7 : g_dc cX9_add 7 (.aload_n 0) 1 8 := ⟨by decide +kernel, rfl⟩
theorem e_X9_add_8 : g_dc cX9_add 8 (.getfield 15) 3 11 := ⟨by decide +kernel, rfl⟩
theorem e_X9_add_11 : g_dc cX9_add 11 (.sipush 220) 3 14 := ⟨by decide +kernel, rfl⟩
theorem e_X9_add_14 : g_dc cX9_add 14 (.if_icmp .ge 29) 3 17 := ⟨by decide +kernel, rfl⟩
theorem e_X9_add_17 : g_dc cX9_add 17 (.aload_n 0) 1 18 := ⟨by decide +kernel, rfl⟩
theorem e_X9_add_18 : g_dc cX9_add 18 (.getfield 9) 3 21 := ⟨by decide +kernel, rfl⟩
theorem e_X9_add_21 : g_dc cX9_add 21 (.aload_n 0) 1 22 := ⟨by decide +kernel, rfl⟩
theorem e_X9_add_22 : g_dc cX9_add 22 (.getfield 15) 3 25 := ⟨by decide +kernel, rfl⟩
theorem e_X9_add_25 : g_dc cX9_add 25 (.iload_n 1) 1 26 := ⟨by decide +kernel, rfl⟩
theorem e_X9_add_26 : g_dc cX9_add 26 (.iload_n 2) 1 27 := ⟨by decide +kernel, rfl⟩
theorem e_X9_add_27 : g_dc cX9_add 27 (.iushr) 1 28 := ⟨by decide +kernel, rfl⟩
theorem e_X9_add_28 : g_dc cX9_add 28 (.sipush 255) 3 31 := ⟨by decide +kernel, rfl⟩
theorem e_X9_add_31 : g_dc cX9_add 31 (.iand) 1 32 := ⟨by decide +kernel, rfl⟩
theorem e_X9_add_32 : g_dc cX9_add 32 (.iastore) 1 33 := ⟨by decide +kernel, rfl⟩
theorem e_X9_add_33 : g_dc cX9_add 33 (.aload_n 0) 1 34 := ⟨by decide +kernel, rfl⟩
theorem e_X9_add_34 : g_dc cX9_add 34 (.dup) 1 35 := ⟨by decide +kernel, rfl⟩
theorem e_X9_add_35 : g_dc cX9_add 35 (.getfield 15) 3 38 := ⟨by decide +kernel, rfl⟩
theorem e_X9_add_38 : g_dc cX9_add 38 (.iconst 1) 1 39 := ⟨by decide +kernel, rfl⟩
theorem e_X9_add_39 : g_dc cX9_add 39 (.iadd) 1 40 := ⟨by decide +kernel, rfl⟩
theorem e_X9_add_40 : g_dc cX9_add 40 (.putfield 15) 3 43 := ⟨by decide +kernel, rfl⟩
theorem e_X9_add_43 : g_dc cX9_add 43 (.iinc 2 (-8)) 3 46 := ⟨by decide +kernel, rfl⟩
theorem e_X9_add_46 : g_dc cX9_add 46 (.goto (-43)) 3 49 := ⟨by decide +kernel, rfl⟩
theorem e_X9_add_49 : g_dc cX9_add 49 (.return_) 1 50 := ⟨by decide +kernel, rfl⟩
def md_X9_add : List Nat := [145]
def mr_X9_add : List Nat := [10]
set_option maxHeartbeats 4000000 in
set_option maxRecDepth 100000 in
theorem w_X9_add (l : Launch) (X : gX) (ad : Nat → Nat) (F : Nat → Int32) (R : Nat → Nat → Int32) (hI : g_ok LK_wX F) (hA : g_okR LA_wX R) (a0 : Int32) : g_Cv l X yX9_add cX9_add 3 1 0 0 [.ref (ad 9), .int a0] (wX X ad F R) (fun w => ∃ (F' : Nat → Int32) (R' : Nat → Nat → Int32), w = wX X ad F' R' ∧ g_ok LK_wX F' ∧ g_okR LA_wX R' ∧ g_fr md_X9_add F F' ∧ g_fr mr_X9_add R R') := by
  refine g_mv (by decide +kernel) (Nat.le_of_ble_eq_true rfl) (fun E cx hret => ?_)
  refine g_bipush cx 24 (by decide) e_X9_add_0 ?_
  refine g_istore_n cx [(2, .int 24), (0, .ref (ad 9)), (1, .int a0)] e_X9_add_2 (by decide) rfl ?_
  have J3 : ∀ (N : Nat) (F2 : Nat → Int32) (R3 : Nat → Nat → Int32) (y1 : Int32), (g_ok LK_wX F2) → (g_fr md_X9_add F F2) → (g_okR LA_wX R3) → (g_fr mr_X9_add R R3) → (jv (-2147483648) 24 y1) → (y1.toInt + 2147483648).toNat < N → G X E 3 0 0 (wX X ad F2 R3) [(0, .ref (ad 9)), (1, .int a0), (2, .int y1)] 3 [] := by
    intro N
    induction N with
    | zero => intro F2 R3 y1 oF2 fF2 oR3 fR3 py1 hm; exact absurd hm (Nat.not_lt_zero _)
    | succ N ih3 =>
      intro F2 R3 y1 oF2 fF2 oR3 fR3 py1 hm3
      refine g_iload_n cx 2 rfl e_X9_add_3 ?_
      refine g_if_lt cx 49 e_X9_add_4 (by decide) (fun zc4 => ?_) (fun zc4 => ?_)
      · have p5 := gn_lt (-2147483648) (-1) (gc_lt zc4) py1 (jv_k (x := 0) 0 (by decide)) (by decide)
        exact hret e_X9_add_49 (Nat.le_of_ble_eq_true rfl) (Nat.le_of_ble_eq_true rfl) ⟨F2, R3, rfl, oF2, oR3, fF2, fR3⟩
      · have p6 := gn_ge 0 24 (gc_nlt zc4) py1 (jv_k (x := 0) 0 (by decide)) (by decide)
        refine g_aload_n cx 0 rfl e_X9_add_7 ?_
        refine g_get cx cl_X9 fl_X9_15 9 (.int (F2 145)) e_X9_add_8 rfl rfl ?_
        refine g_sipush cx 220 (by decide) e_X9_add_11 ?_
        have J43 : ∀ (F7 : Nat → Int32) (R8 : Nat → Nat → Int32), (g_ok LK_wX F7) → (g_fr md_X9_add F F7) → (g_okR LA_wX R8) → (g_fr mr_X9_add R R8) → G X E 3 0 0 (wX X ad F7 R8) [(0, .ref (ad 9)), (1, .int a0), (2, .int y1)] 43 [] := by
          intro F7 R8 oF7 fF7 oR8 fR8
          obtain ⟨x9, ex9⟩ : ∃ z : Int32, z = y1 + Int32.ofInt (-8) := ⟨_, rfl⟩
          refine g_iinc cx x9 [(2, .int x9), (0, .ref (ad 9)), (1, .int a0)] 2 e_X9_add_43 rfl ex9.symm (by decide) rfl ?_
          have zx9 := jv_add (-8) 16 (show x9 = y1 + (-8) from ex9) p6 (jv_k (x := (-8)) (-8) (by decide)) (by decide)
          refine g_goto cx 3 e_X9_add_46 (by decide) ?_
          refine g_lsub [1, 2, 0] [(0, .ref (ad 9)), (1, .int a0), (2, .int x9)] rfl ?_
          exact ih3 F7 R8 x9 oF7 fF7 oR8 fR8 (jv_w zx9.2 (by decide)) (Nat.lt_of_lt_of_le (show (x9.toInt + 2147483648).toNat < (y1.toInt + 2147483648).toNat from by have q0 := (jv_k (x := (-8)) (-8) (by decide)).1; have q1 := (jv_k (x := (-8)) (-8) (by decide)).2; have q2 := (jv_k (x := 0) 0 (by decide)).1; have q3 := (jv_k (x := 0) 0 (by decide)).2; have q4 := zx9.2.1; have q5 := zx9.2.2; have q6 := p6.1; have q7 := p6.2; have q8 := (gc_nlt zc4); have q9 := (g_eq0 zx9.1); omega) (Nat.le_of_lt_succ hm3))
        refine g_icmp_ge cx 43 e_X9_add_14 (by decide) (fun zc10 => ?_) (fun zc10 => ?_)
        · have p11 := gn_ge 220 220 (gc_le zc10) (g_ok_g oF2 1 rfl) (jv_k (x := 220) 220 (by decide)) (by decide)
          exact J43 F2 R3 oF2 fF2 oR3 fR3
        · have p12 := gn_lt 0 219 (gc_nle zc10) (g_ok_g oF2 1 rfl) (jv_k (x := 220) 220 (by decide)) (by decide)
          refine g_aload_n cx 0 rfl e_X9_add_17 ?_
          refine g_get cx cl_X9 fl_X9_9 9 (.ref (ad 10)) e_X9_add_18 rfl rfl ?_
          refine g_aload_n cx 0 rfl e_X9_add_21 ?_
          refine g_get cx cl_X9 fl_X9_15 9 (.int (F2 145)) e_X9_add_22 rfl rfl ?_
          refine g_iload_n cx 1 rfl e_X9_add_25 ?_
          refine g_iload_n cx 2 rfl e_X9_add_26 ?_
          refine g_iushr cx e_X9_add_27 ?_
          refine g_topi (fun x13 ex13 => ?_)
          refine g_sipush cx 255 (by decide) e_X9_add_28 ?_
          refine g_iand cx e_X9_add_31 ?_
          refine g_topi (fun x14 ex14 => ?_)
          have px14 := jv_and 0 255 ex14 (jv_k (x := 255) 255 (by decide)) (by decide)
          refine g_iast cx 10 (wX X ad F2 (g_u R3 10 (upd (R3 10) (Int32.toNatClampNeg (F2 145)) x14))) e_X9_add_32 rfl (jv_ix 220 p12 (by decide)) rfl ?_
          obtain ⟨R15, hR15⟩ : ∃ z, z = g_u R3 10 (upd (R3 10) (Int32.toNatClampNeg (F2 145)) x14) := ⟨_, rfl⟩
          rw [← hR15]
          have oR15 : g_okR LA_wX R15 := by rw [hR15]; exact g_okR_u oR3 rfl
          have fR15 : g_fr mr_X9_add R R15 := by rw [hR15]; exact g_fr_r fR3 rfl
          refine g_aload_n cx 0 rfl e_X9_add_33 ?_
          refine g_dup cx rfl e_X9_add_34 ?_
          refine g_get cx cl_X9 fl_X9_15 9 (.int (F2 145)) e_X9_add_35 rfl rfl ?_
          refine g_iconst cx 1 (by decide) e_X9_add_38 ?_
          refine g_iadd cx e_X9_add_39 ?_
          refine g_topi (fun x16 ex16 => ?_)
          have zx16 := jv_add 1 220 ex16 p12 (jv_k (x := 1) 1 (by decide)) (by decide)
          refine g_put cx cl_X9 fl_X9_15 9 (wX X ad (upd F2 145 x16) R15) e_X9_add_40 rfl rfl rfl rfl (Nat.le_of_ble_eq_true rfl) rfl ?_
          obtain ⟨F17, hF17⟩ : ∃ z, z = upd F2 145 x16 := ⟨_, rfl⟩
          rw [← hF17]
          have oF17 : g_ok LK_wX F17 := by rw [hF17]; exact g_ok_p oF2 zx16.2 rfl
          have fF17 : g_fr md_X9_add F F17 := by rw [hF17]; exact g_fr_u fF2 rfl
          exact J43 F17 R15 oF17 fF17 oR15 fR15
  refine g_lsub [1, 2, 0] [(0, .ref (ad 9)), (1, .int a0), (2, .int 24)] rfl ?_
  exact J3 _ F R 24 hI (g_fr_rf F) hA (g_fr_rf R) (jv_w (jv_k (x := 24) 24 (by decide)) (by decide)) (Nat.lt_succ_self _)
theorem e_X10_feed_0 : g_dc cX10_feed 0 (.aload_n 0) 1 1 := ⟨by decide +kernel, rfl⟩
theorem e_X10_feed_1 : g_dc cX10_feed 1 (.getfield 22) 3 4 := ⟨by decide +kernel, rfl⟩
theorem e_X10_feed_4 : g_dc cX10_feed 4 (.getfield 110) 3 7 := ⟨by decide +kernel, rfl⟩
theorem e_X10_feed_7 : g_dc cX10_feed 7 (.bipush 20) 2 9 := ⟨by decide +kernel, rfl⟩
theorem e_X10_feed_9 : g_dc cX10_feed 9 (.iadd) 1 10 := ⟨by decide +kernel, rfl⟩
theorem e_X10_feed_10 : g_dc cX10_feed 10 (.sipush 220) 3 13 := ⟨by decide +kernel, rfl⟩
theorem e_X10_feed_13 : g_dc cX10_feed 13 (.if_icmp .le 5) 3 16 := ⟨by decide +kernel, rfl⟩
theorem e_X10_feed_16 : g_dc cX10_feed 16 (.iconst (-1)) 1 17 := ⟨by decide +kernel, rfl⟩
theorem e_X10_feed_17 : g_dc cX10_feed 17 (.ireturn) 1 18 := ⟨by decide +kernel, rfl⟩
theorem e_X10_feed_18 : g_dc cX10_feed 18 (.aload_n 0) 1 19 := ⟨by decide +kernel, rfl⟩
theorem e_X10_feed_19 : g_dc cX10_feed 19 (.getfield 22) 3 22 := ⟨by decide +kernel, rfl⟩
theorem e_X10_feed_22 : g_dc cX10_feed 22 (.iload_n 1) 1 23 := ⟨by decide +kernel, rfl⟩
theorem e_X10_feed_23 : g_dc cX10_feed 23 (.invokevirtual 113) 3 26 := ⟨by decide +kernel, rfl⟩
theorem e_X10_feed_26 : g_dc cX10_feed 26 (.aload_n 0) 1 27 := ⟨by decide +kernel, rfl⟩
theorem e_X10_feed_27 : g_dc cX10_feed 27 (.getfield 22) 3 30 := ⟨by decide +kernel, rfl⟩
theorem e_X10_feed_30 : g_dc cX10_feed 30 (.iload_n 2) 1 31 := ⟨by decide +kernel, rfl⟩
theorem e_X10_feed_31 : g_dc cX10_feed 31 (.invokevirtual 113) 3 34 := ⟨by decide +kernel, rfl⟩
theorem e_X10_feed_34 : g_dc cX10_feed 34 (.aload_n 0) 1 35 := ⟨by decide +kernel, rfl⟩
theorem e_X10_feed_35 : g_dc cX10_feed 35 (.getfield 22) 3 38 := ⟨by decide +kernel, rfl⟩
theorem e_X10_feed_38 : g_dc cX10_feed 38 (.iload_n 3) 1 39 := ⟨by decide +kernel, rfl⟩
theorem e_X10_feed_39 : g_dc cX10_feed 39 (.invokevirtual 113) 3 42 := ⟨by decide +kernel, rfl⟩
theorem e_X10_feed_42 : g_dc cX10_feed 42 (.aload_n 0) 1 43 := ⟨by decide +kernel, rfl⟩
theorem e_X10_feed_43 : g_dc cX10_feed 43 (.getfield 22) 3 46 := ⟨by decide +kernel, rfl⟩
theorem e_X10_feed_46 : g_dc cX10_feed 46 (.iload 4) 2 48 := ⟨by decide +kernel, rfl⟩
theorem e_X10_feed_48 : g_dc cX10_feed 48 (.invokevirtual 113) 3 51 := ⟨by decide +kernel, rfl⟩
theorem e_X10_feed_51 : g_dc cX10_feed 51 (.aload_n 0) 1 52 := ⟨by decide +kernel, rfl⟩
theorem e_X10_feed_52 : g_dc cX10_feed 52 (.getfield 22) 3 55 := ⟨by decide +kernel, rfl⟩
theorem e_X10_feed_55 : g_dc cX10_feed 55 (.iload 5) 2 57 := ⟨by decide +kernel, rfl⟩
theorem e_X10_feed_57 : g_dc cX10_feed 57 (.invokevirtual 113) 3 60 := ⟨by decide +kernel, rfl⟩
theorem e_X10_feed_60 : g_dc cX10_feed 60 (.aload_n 0) 1 61 := ⟨by decide +kernel, rfl⟩
theorem e_X10_feed_61 : g_dc cX10_feed 61 (.getfield 22) 3 64 := ⟨by decide +kernel, rfl⟩
theorem e_X10_feed_64 : g_dc cX10_feed 64 (.getfield 110) 3 67 := ⟨by decide +kernel, rfl⟩
theorem e_X10_feed_67 : g_dc cX10_feed 67 (.ireturn) 1 68 := ⟨by decide +kernel, rfl⟩
def md_X10_feed : List Nat := [145]
def mr_X10_feed : List Nat := [10]
set_option maxHeartbeats 4000000 in
set_option maxRecDepth 100000 in
theorem w_X10_feed (l : Launch) (X : gX) (ad : Nat → Nat) (F : Nat → Int32) (R : Nat → Nat → Int32) (hI : g_ok LK_wX F) (hA : g_okR LA_wX R) (a0 : Int32) (a1 : Int32) (a2 : Int32) (a3 : Int32) (a4 : Int32) : g_Ci l X yX10_feed cX10_feed 6 (some .int) 2 0 0 [.ref (ad 0), .int a0, .int a1, .int a2, .int a3, .int a4] (wX X ad F R) (fun r w => ∃ (F' : Nat → Int32) (R' : Nat → Nat → Int32), w = wX X ad F' R' ∧ g_ok LK_wX F' ∧ g_okR LA_wX R' ∧ g_fr md_X10_feed F F' ∧ g_fr mr_X10_feed R R' ∧ jv (-1) 220 r) := by
  refine g_mi (by decide +kernel) (Nat.le_of_ble_eq_true rfl) (fun E cx hret => ?_)
  refine g_aload_n cx 0 rfl e_X10_feed_0 ?_
  refine g_get cx cl_X10 fl_X10_22 0 (.ref (ad 9)) e_X10_feed_1 rfl rfl ?_
  refine g_getN cx cl_X9 fn_X10_110 9 (.int (F 145)) e_X10_feed_4 rfl rfl ?_
  refine g_bipush cx 20 (by decide) e_X10_feed_7 ?_
  refine g_iadd cx e_X10_feed_9 ?_
  refine g_topi (fun x1 ex1 => ?_)
  have zx1 := jv_add 20 240 ex1 (g_ok_g hI 1 rfl) (jv_k (x := 20) 20 (by decide)) (by decide)
  refine g_sipush cx 220 (by decide) e_X10_feed_10 ?_
  refine g_icmp_le cx 18 e_X10_feed_13 (by decide) (fun zc2 => ?_) (fun zc2 => ?_)
  · have p3 := gn_le 20 220 (gc_le zc2) zx1.2 (jv_k (x := 220) 220 (by decide)) (by decide)
    have p4 : jv 0 200 (F 145) := ⟨by have q0 := (jv_k (x := 20) 20 (by decide)).1; have q1 := (jv_k (x := 20) 20 (by decide)).2; have q2 := (jv_k (x := 220) 220 (by decide)).1; have q3 := (jv_k (x := 220) 220 (by decide)).2; have q4 := (g_ok_g hI 1 rfl).1; have q5 := (g_ok_g hI 1 rfl).2; have q6 := p3.1; have q7 := p3.2; have q8 := (g_eq0 zx1.1); have q9 := (gc_le zc2); omega, by have q0 := (jv_k (x := 20) 20 (by decide)).1; have q1 := (jv_k (x := 20) 20 (by decide)).2; have q2 := (jv_k (x := 220) 220 (by decide)).1; have q3 := (jv_k (x := 220) 220 (by decide)).2; have q4 := (g_ok_g hI 1 rfl).1; have q5 := (g_ok_g hI 1 rfl).2; have q6 := p3.1; have q7 := p3.2; have q8 := (g_eq0 zx1.1); have q9 := (gc_le zc2); omega⟩
    refine g_aload_n cx 0 rfl e_X10_feed_18 ?_
    refine g_get cx cl_X10 fl_X10_22 0 (.ref (ad 9)) e_X10_feed_19 rfl rfl ?_
    refine g_iload_n cx 1 rfl e_X10_feed_22 ?_
    refine g_cVvW cx [.int a0] [] (w_X9_add l X ad F R hI hA a0) ml_X10_113 yV_X9_add e_X10_feed_23 (by unfold g_rr; decide) (by decide) 9 rfl rfl rfl (Nat.le_of_ble_eq_true rfl) (fun w6 h7 => ?_)
    obtain ⟨F8, R9, rfl, oF8, oR9, cF8, cR9⟩ := h7
    have fF8 : g_fr md_X10_feed F F8 := g_fr_c (g_fr_rf F) cF8 rfl
    have fR9 : g_fr mr_X10_feed R R9 := g_fr_c (g_fr_rf R) cR9 rfl
    refine g_aload_n cx 0 rfl e_X10_feed_26 ?_
    refine g_get cx cl_X10 fl_X10_22 0 (.ref (ad 9)) e_X10_feed_27 rfl rfl ?_
    refine g_iload_n cx 2 rfl e_X10_feed_30 ?_
    refine g_cVvW cx [.int a1] [] (w_X9_add l X ad F8 R9 oF8 oR9 a1) ml_X10_113 yV_X9_add e_X10_feed_31 (by unfold g_rr; decide) (by decide) 9 rfl rfl rfl (Nat.le_of_ble_eq_true rfl) (fun w11 h12 => ?_)
    obtain ⟨F13, R14, rfl, oF13, oR14, cF13, cR14⟩ := h12
    have fF13 : g_fr md_X10_feed F F13 := g_fr_c fF8 cF13 rfl
    have fR14 : g_fr mr_X10_feed R R14 := g_fr_c fR9 cR14 rfl
    refine g_aload_n cx 0 rfl e_X10_feed_34 ?_
    refine g_get cx cl_X10 fl_X10_22 0 (.ref (ad 9)) e_X10_feed_35 rfl rfl ?_
    refine g_iload_n cx 3 rfl e_X10_feed_38 ?_
    refine g_cVvW cx [.int a2] [] (w_X9_add l X ad F13 R14 oF13 oR14 a2) ml_X10_113 yV_X9_add e_X10_feed_39 (by unfold g_rr; decide) (by decide) 9 rfl rfl rfl (Nat.le_of_ble_eq_true rfl) (fun w16 h17 => ?_)
    obtain ⟨F18, R19, rfl, oF18, oR19, cF18, cR19⟩ := h17
    have fF18 : g_fr md_X10_feed F F18 := g_fr_c fF13 cF18 rfl
    have fR19 : g_fr mr_X10_feed R R19 := g_fr_c fR14 cR19 rfl
    refine g_aload_n cx 0 rfl e_X10_feed_42 ?_
    refine g_get cx cl_X10 fl_X10_22 0 (.ref (ad 9)) e_X10_feed_43 rfl rfl ?_
    refine g_iload cx 4 rfl e_X10_feed_46 ?_
    refine g_cVvW cx [.int a3] [] (w_X9_add l X ad F18 R19 oF18 oR19 a3) ml_X10_113 yV_X9_add e_X10_feed_48 (by unfold g_rr; decide) (by decide) 9 rfl rfl rfl (Nat.le_of_ble_eq_true rfl) (fun w21 h22 => ?_)
    obtain ⟨F23, R24, rfl, oF23, oR24, cF23, cR24⟩ := h22
    have fF23 : g_fr md_X10_feed F F23 := g_fr_c fF18 cF23 rfl
    have fR24 : g_fr mr_X10_feed R R24 := g_fr_c fR19 cR24 rfl
    refine g_aload_n cx 0 rfl e_X10_feed_51 ?_
    refine g_get cx cl_X10 fl_X10_22 0 (.ref (ad 9)) e_X10_feed_52 rfl rfl ?_
    refine g_iload cx 5 rfl e_X10_feed_55 ?_
    refine g_cVvW cx [.int a4] [] (w_X9_add l X ad F23 R24 oF23 oR24 a4) ml_X10_113 yV_X9_add e_X10_feed_57 (by unfold g_rr; decide) (by decide) 9 rfl rfl rfl (Nat.le_of_ble_eq_true rfl) (fun w26 h27 => ?_)
    obtain ⟨F28, R29, rfl, oF28, oR29, cF28, cR29⟩ := h27
    have fF28 : g_fr md_X10_feed F F28 := g_fr_c fF23 cF28 rfl
    have fR29 : g_fr mr_X10_feed R R29 := g_fr_c fR24 cR29 rfl
    refine g_aload_n cx 0 rfl e_X10_feed_60 ?_
    refine g_get cx cl_X10 fl_X10_22 0 (.ref (ad 9)) e_X10_feed_61 rfl rfl ?_
    refine g_getN cx cl_X9 fn_X10_110 9 (.int (F28 145)) e_X10_feed_64 rfl rfl ?_
    exact hret e_X10_feed_67 (Nat.le_of_ble_eq_true rfl) (Nat.le_of_ble_eq_true rfl) rfl ⟨F28, R29, rfl, oF28, oR29, fF28, fR29, (jv_w (g_ok_g oF28 1 rfl) (by decide))⟩
  · have p30 := gn_gt 221 240 (gc_nle zc2) zx1.2 (jv_k (x := 220) 220 (by decide)) (by decide)
    have p31 : jv 201 220 (F 145) := ⟨by have q0 := (jv_k (x := 20) 20 (by decide)).1; have q1 := (jv_k (x := 20) 20 (by decide)).2; have q2 := (jv_k (x := 220) 220 (by decide)).1; have q3 := (jv_k (x := 220) 220 (by decide)).2; have q4 := (g_ok_g hI 1 rfl).1; have q5 := (g_ok_g hI 1 rfl).2; have q6 := p30.1; have q7 := p30.2; have q8 := (g_eq0 zx1.1); have q9 := (gc_nle zc2); omega, by have q0 := (jv_k (x := 20) 20 (by decide)).1; have q1 := (jv_k (x := 20) 20 (by decide)).2; have q2 := (jv_k (x := 220) 220 (by decide)).1; have q3 := (jv_k (x := 220) 220 (by decide)).2; have q4 := (g_ok_g hI 1 rfl).1; have q5 := (g_ok_g hI 1 rfl).2; have q6 := p30.1; have q7 := p30.2; have q8 := (g_eq0 zx1.1); have q9 := (gc_nle zc2); omega⟩
    refine g_iconst cx (-1) (by decide) e_X10_feed_16 ?_
    exact hret e_X10_feed_17 (Nat.le_of_ble_eq_true rfl) (Nat.le_of_ble_eq_true rfl) rfl ⟨F, R, rfl, hI, hA, (g_fr_rf F), (g_fr_rf R), (jv_w (jv_k (x := (-1)) (-1) (by decide)) (by decide))⟩
theorem e_X10_seed_0 : g_dc cX10_seed 0 (.iload_n 1) 1 1 := ⟨by decide +kernel, rfl⟩
theorem e_X10_seed_1 : g_dc cX10_seed 1 (.iconst 0) 1 2 := ⟨by decide +kernel, rfl⟩
theorem e_X10_seed_2 : g_dc cX10_seed 2 (.ldc_w 263) 3 5 := ⟨by decide +kernel, rfl⟩
theorem e_X10_seed_5 : g_dc cX10_seed 5 (.invokestatic 82) 3 8 := ⟨by decide +kernel, rfl⟩
theorem e_X10_seed_8 : g_dc cX10_seed 8 (.ifCond .ne 5) 3 11 := ⟨by decide +kernel, rfl⟩
theorem e_X10_seed_11 : g_dc cX10_seed 11 (.iconst 0) 1 12 := ⟨by decide +kernel, rfl⟩
theorem e_X10_seed_12 : g_dc cX10_seed 12 (.ireturn) 1 13 := ⟨by decide +kernel, rfl⟩
theorem e_X10_seed_13 : g_dc cX10_seed 13 (.aload_n 0) 1 14 := ⟨by decide +kernel, rfl⟩
theorem e_X10_seed_14 : g_dc cX10_seed 14 (.getfield 10) 3 17 := ⟨by decide +kernel, rfl⟩
theorem e_X10_seed_17 : g_dc cX10_seed 17 (.iload_n 1) 1 18 := ⟨by decide +kernel, rfl⟩
theorem e_X10_seed_18 : g_dc cX10_seed 18 (.putfield 168) 3 21 := ⟨by decide +kernel, rfl⟩
theorem e_X10_seed_21 : g_dc cX10_seed 21 (.iconst 1) 1 22 := ⟨by decide +kernel, rfl⟩
theorem e_X10_seed_22 : g_dc cX10_seed 22 (.ireturn) 1 23 := ⟨by decide +kernel, rfl⟩
def md_X10_seed : List Nat := [20]
def mr_X10_seed : List Nat := []
set_option maxHeartbeats 4000000 in
set_option maxRecDepth 100000 in
theorem w_X10_seed (l : Launch) (X : gX) (ad : Nat → Nat) (F : Nat → Int32) (R : Nat → Nat → Int32) (hI : g_ok LK_wX F) (hA : g_okR LA_wX R) (a0 : Int32) : g_Ci l X yX10_seed cX10_seed 2 (some .boolean) 2 0 0 [.ref (ad 0), .int a0] (wX X ad F R) (fun r w => ∃ (F' : Nat → Int32) (R' : Nat → Nat → Int32), w = wX X ad F' R' ∧ g_ok LK_wX F' ∧ g_okR LA_wX R' ∧ g_fr md_X10_seed F F' ∧ g_fr mr_X10_seed R R' ∧ jv 0 1 r) := by
  refine g_mi (by decide +kernel) (Nat.le_of_ble_eq_true rfl) (fun E cx hret => ?_)
  refine g_iload_n cx 1 rfl e_X10_seed_0 ?_
  refine g_iconst cx 0 (by decide) e_X10_seed_1 ?_
  refine g_ldcw cx 65535 kc_X10_263 e_X10_seed_2 ?_
  refine g_cSiW cx [.int a0, .int 0, .int 65535] [] (c_X10_within l X (wX X ad F R) a0 0 65535) ml_X10_82 yS_X10_within rfl e_X10_seed_5 (by unfold g_rr; decide) (by decide) rfl (Nat.le_of_ble_eq_true rfl) (fun r1 w2 h3 => ?_)
  obtain ⟨rfl, hr1⟩ := h3
  have pr1 : jv 0 1 r1 := by rw [hr1]; exact gi_01 _ _ _
  refine g_if_ne cx 13 e_X10_seed_8 (by decide) (fun zc4 => ?_) (fun zc4 => ?_)
  · have p5 := gn_neL 1 1 (gc_ne zc4) pr1 (jv_k (x := 0) 0 (by decide)) (by decide)
    have p6 := jv_i 0 65535 (jv_t a0) (gi_in (A := 0) (B := 65535) hr1 zc4 (by decide) (by decide)) (by decide)
    refine g_aload_n cx 0 rfl e_X10_seed_13 ?_
    refine g_get cx cl_X10 fl_X10_10 0 (.ref (ad 1)) e_X10_seed_14 rfl rfl ?_
    refine g_iload_n cx 1 rfl e_X10_seed_17 ?_
    refine g_putN cx cl_X8 fn_X10_168 1 (wX X ad (upd F 20 a0) R) e_X10_seed_18 rfl rfl rfl rfl (Nat.le_of_ble_eq_true rfl) rfl ?_
    obtain ⟨F7, hF7⟩ : ∃ z, z = upd F 20 a0 := ⟨_, rfl⟩
    rw [← hF7]
    have oF7 : g_ok LK_wX F7 := by rw [hF7]; exact g_ok_u hI rfl
    have fF7 : g_fr md_X10_seed F F7 := by rw [hF7]; exact g_fr_u (g_fr_rf F) rfl
    refine g_iconst cx 1 (by decide) e_X10_seed_21 ?_
    exact hret e_X10_seed_22 (Nat.le_of_ble_eq_true rfl) (Nat.le_of_ble_eq_true rfl) rfl ⟨F7, R, rfl, oF7, hA, fF7, (g_fr_rf R), (jv_w (jv_k (x := 1) 1 (by decide)) (by decide))⟩
  · have p8 := gn_eq 0 0 (gc_eq zc4) pr1 (jv_k (x := 0) 0 (by decide)) (by decide)
    refine g_iconst cx 0 (by decide) e_X10_seed_11 ?_
    exact hret e_X10_seed_12 (Nat.le_of_ble_eq_true rfl) (Nat.le_of_ble_eq_true rfl) rfl ⟨F, R, rfl, hI, hA, (g_fr_rf F), (g_fr_rf R), (jv_w (jv_k (x := 0) 0 (by decide)) (by decide))⟩
theorem e_X5_paceAt_0 : g_dc cX5_paceAt 0 (.iload_n 1) 1 1 := ⟨by decide +kernel, rfl⟩
theorem e_X5_paceAt_1 : g_dc cX5_paceAt 1 (.ifCond .lt 26) 3 4 := ⟨by decide +kernel, rfl⟩
theorem e_X5_paceAt_4 : g_dc cX5_paceAt 4 (.iload_n 1) 1 5 := ⟨by decide +kernel, rfl⟩
theorem e_X5_paceAt_5 : g_dc cX5_paceAt 5 (.aload_n 0) 1 6 := ⟨by decide +kernel, rfl⟩
theorem e_X5_paceAt_6 : g_dc cX5_paceAt 6 (.getfield 15) 3 9 := ⟨by decide +kernel, rfl⟩
theorem e_X5_paceAt_9 : g_dc cX5_paceAt 9 (.if_icmp .ge 18) 3 12 := ⟨by decide +kernel, rfl⟩
theorem e_X5_paceAt_12 : g_dc cX5_paceAt 12 (.iload_n 1) 1 13 := ⟨by decide +kernel, rfl⟩
theorem e_X5_paceAt_13 : g_dc cX5_paceAt 13 (.bipush 60) 2 15 := ⟨by decide +kernel, rfl⟩
theorem e_X5_paceAt_15 : g_dc cX5_paceAt 15 (.if_icmp .ge 12) 3 18 := ⟨by decide +kernel, rfl⟩
theorem e_X5_paceAt_18 : g_dc cX5_paceAt 18 (.aload_n 0) 1 19 := ⟨by decide +kernel, rfl⟩
theorem e_X5_paceAt_19 : g_dc cX5_paceAt 19 (.getfield 9) 3 22 := ⟨by decide +kernel, rfl⟩
theorem e_X5_paceAt_22 : g_dc cX5_paceAt 22 (.iload_n 1) 1 23 := ⟨by decide +kernel, rfl⟩
theorem e_X5_paceAt_23 : g_dc cX5_paceAt 23 (.iaload) 1 24 := ⟨by decide +kernel, rfl⟩
theorem e_X5_paceAt_24 : g_dc cX5_paceAt 24 (.goto 4) 3 27 := ⟨by decide +kernel, rfl⟩
theorem e_X5_paceAt_27 : g_dc cX5_paceAt 27 (.iconst 0) 1 28 := ⟨by decide +kernel, rfl⟩
theorem e_X5_paceAt_28 : g_dc cX5_paceAt 28 (.ireturn) 1 29 := ⟨by decide +kernel, rfl⟩
set_option maxHeartbeats 4000000 in
set_option maxRecDepth 100000 in
theorem w_X5_paceAt_11 (l : Launch) (X : gX) (ad : Nat → Nat) (F : Nat → Int32) (R : Nat → Nat → Int32) (hI : g_ok LK_wX F) (hA : g_okR LA_wX R) (a0 : Int32) : g_Ci l X yX5_paceAt cX5_paceAt 2 (some .int) 1 0 0 [.ref (ad 11), .int a0] (wX X ad F R) (fun r w => w = wX X ad F R ∧ jv (-2147483648) 2147483647 r) := by
  refine g_mi (by decide +kernel) (Nat.le_of_ble_eq_true rfl) (fun E cx hret => ?_)
  refine g_iload_n cx 1 rfl e_X5_paceAt_0 ?_
  have J28 : ∀ (y1 : Int32), (jv (-2147483648) 2147483647 y1) → G X E 2 0 0 (wX X ad F R) [] 28 [.int y1] := by
    intro y1 py1
    exact hret e_X5_paceAt_28 (Nat.le_of_ble_eq_true rfl) (Nat.le_of_ble_eq_true rfl) rfl ⟨rfl, py1⟩
  have J27 : G X E 2 0 0 (wX X ad F R) [] 27 [] := by
    refine g_iconst cx 0 (by decide) e_X5_paceAt_27 ?_
    exact J28 0 (jv_w (jv_k (x := 0) 0 (by decide)) (by decide))
  refine g_if_lt cx 27 e_X5_paceAt_1 (by decide) (fun zc2 => ?_) (fun zc2 => ?_)
  · have p3 := gn_lt (-2147483648) (-1) (gc_lt zc2) (jv_t a0) (jv_k (x := 0) 0 (by decide)) (by decide)
    refine g_lsub [] [] rfl ?_
    exact J27  
  · have p4 := gn_ge 0 2147483647 (gc_nlt zc2) (jv_t a0) (jv_k (x := 0) 0 (by decide)) (by decide)
    refine g_iload_n cx 1 rfl e_X5_paceAt_4 ?_
    refine g_aload_n cx 0 rfl e_X5_paceAt_5 ?_
    refine g_get cx cl_X5 fl_X5_15 11 (.int (F 177)) e_X5_paceAt_6 rfl rfl ?_
    refine g_icmp_ge cx 27 e_X5_paceAt_9 (by decide) (fun zc5 => ?_) (fun zc5 => ?_)
    · refine g_lsub [] [] rfl ?_
      exact J27  
    · have p6 := gn_lt 0 59 (gc_nle zc5) p4 (g_ok_g hI 2 rfl) (by decide)
      have p7 := gn_gt 1 60 (gc_nle zc5) (g_ok_g hI 2 rfl) p4 (by decide)
      refine g_iload_n cx 1 rfl e_X5_paceAt_12 ?_
      refine g_bipush cx 60 (by decide) e_X5_paceAt_13 ?_
      refine g_icmp_ge cx 27 e_X5_paceAt_15 (by decide) (fun zc8 => ?_) (fun zc8 => ?_)
      · exact (gf_le (gc_le zc8) (jv_k (x := 60) 60 (by decide)) p6 (by decide)).elim
      · refine g_aload_n cx 0 rfl e_X5_paceAt_18 ?_
        refine g_get cx cl_X5 fl_X5_9 11 (.ref (ad 12)) e_X5_paceAt_19 rfl rfl ?_
        refine g_iload_n cx 1 rfl e_X5_paceAt_22 ?_
        refine g_iald cx 12 e_X5_paceAt_23 rfl (jv_ix 60 p6 (by decide)) ?_
        refine g_topi (fun x9 ex9 => ?_)
        refine g_goto cx 28 e_X5_paceAt_24 (by decide) ?_
        refine g_lsub [] [] rfl ?_
        exact J28 x9 (jv_t x9)
theorem e_X10_count_0 : g_dc cX10_count 0 (.iload_n 1) 1 1 := ⟨by decide +kernel, rfl⟩
theorem e_X10_count_1 : g_dc cX10_count 1 (.tableswitch 111 0 7 #[47, 55, 63, 71, 79, 87, 95, 103]) 47 48 := ⟨by decide +kernel, rfl⟩
theorem e_X10_count_48 : g_dc cX10_count 48 (.aload_n 0) 1 49 := ⟨by decide +kernel, rfl⟩
theorem e_X10_count_49 : g_dc cX10_count 49 (.getfield 10) 3 52 := ⟨by decide +kernel, rfl⟩
theorem e_X10_count_52 : g_dc cX10_count 52 (.getfield 86) 3 55 := ⟨by decide +kernel, rfl⟩
theorem e_X10_count_55 : g_dc cX10_count 55 (.ireturn) 1 56 := ⟨by decide +kernel, rfl⟩
theorem e_X10_count_56 : g_dc cX10_count 56 (.aload_n 0) 1 57 := ⟨by decide +kernel, rfl⟩
theorem e_X10_count_57 : g_dc cX10_count 57 (.getfield 10) 3 60 := ⟨by decide +kernel, rfl⟩
theorem e_X10_count_60 : g_dc cX10_count 60 (.getfield 89) 3 63 := ⟨by decide +kernel, rfl⟩
theorem e_X10_count_63 : g_dc cX10_count 63 (.ireturn) 1 64 := ⟨by decide +kernel, rfl⟩
theorem e_X10_count_64 : g_dc cX10_count 64 (.aload_n 0) 1 65 := ⟨by decide +kernel, rfl⟩
theorem e_X10_count_65 : g_dc cX10_count 65 (.getfield 10) 3 68 := ⟨by decide +kernel, rfl⟩
theorem e_X10_count_68 : g_dc cX10_count 68 (.getfield 92) 3 71 := ⟨by decide +kernel, rfl⟩
theorem e_X10_count_71 : g_dc cX10_count 71 (.ireturn) 1 72 := ⟨by decide +kernel, rfl⟩
theorem e_X10_count_72 : g_dc cX10_count 72 (.aload_n 0) 1 73 := ⟨by decide +kernel, rfl⟩
theorem e_X10_count_73 : g_dc cX10_count 73 (.getfield 10) 3 76 := ⟨by decide +kernel, rfl⟩
theorem e_X10_count_76 : g_dc cX10_count 76 (.getfield 95) 3 79 := ⟨by decide +kernel, rfl⟩
theorem e_X10_count_79 : g_dc cX10_count 79 (.ireturn) 1 80 := ⟨by decide +kernel, rfl⟩
theorem e_X10_count_80 : g_dc cX10_count 80 (.aload_n 0) 1 81 := ⟨by decide +kernel, rfl⟩
theorem e_X10_count_81 : g_dc cX10_count 81 (.getfield 29) 3 84 := ⟨by decide +kernel, rfl⟩
theorem e_X10_count_84 : g_dc cX10_count 84 (.getfield 124) 3 87 := ⟨by decide +kernel, rfl⟩
theorem e_X10_count_87 : g_dc cX10_count 87 (.ireturn) 1 88 := ⟨by decide +kernel, rfl⟩
theorem e_X10_count_88 : g_dc cX10_count 88 (.aload_n 0) 1 89 := ⟨by decide +kernel, rfl⟩
theorem e_X10_count_89 : g_dc cX10_count 89 (.getfield 39) 3 92 := ⟨by decide +kernel, rfl⟩
theorem e_X10_count_92 : g_dc cX10_count 92 (.getfield 130) 3 95 := ⟨by decide +kernel, rfl⟩
theorem e_X10_count_95 : g_dc cX10_count 95 (.ireturn) 1 96 := ⟨by decide +kernel, rfl⟩
theorem e_X10_count_96 : g_dc cX10_count 96 (.aload_n 0) 1 97 := ⟨by decide +kernel, rfl⟩
theorem e_X10_count_97 : g_dc cX10_count 97 (.getfield 22) 3 100 := ⟨by decide +kernel, rfl⟩
theorem e_X10_count_100 : g_dc cX10_count 100 (.getfield 110) 3 103 := ⟨by decide +kernel, rfl⟩
theorem e_X10_count_103 : g_dc cX10_count 103 (.ireturn) 1 104 := ⟨by decide +kernel, rfl⟩
theorem e_X10_count_104 : g_dc cX10_count 104 (.aload_n 0) 1 105 := ⟨by decide +kernel, rfl⟩
theorem e_X10_count_105 : g_dc cX10_count 105 (.getfield 10) 3 108 := ⟨by decide +kernel, rfl⟩
theorem e_X10_count_108 : g_dc cX10_count 108 (.getfield 168) 3 111 := ⟨by decide +kernel, rfl⟩
theorem e_X10_count_111 : g_dc cX10_count 111 (.ireturn) 1 112 := ⟨by decide +kernel, rfl⟩
theorem e_X10_count_112 : g_dc cX10_count 112 (.iload_n 1) 1 113 := ⟨by decide +kernel, rfl⟩
theorem e_X10_count_113 : g_dc cX10_count 113 (.bipush 100) 2 115 := ⟨by decide +kernel, rfl⟩
theorem e_X10_count_115 : g_dc cX10_count 115 (.bipush 99) 2 117 := ⟨by decide +kernel, rfl⟩
theorem e_X10_count_117 : g_dc cX10_count 117 (.aload_n 0) 1 118 := ⟨by decide +kernel, rfl⟩
theorem e_X10_count_118 : g_dc cX10_count 118 (.getfield 29) 3 121 := ⟨by decide +kernel, rfl⟩
theorem e_X10_count_121 : g_dc cX10_count 121 (.getfield 124) 3 124 := ⟨by decide +kernel, rfl⟩
theorem e_X10_count_124 : g_dc cX10_count 124 (.iadd) 1 125 := ⟨by decide +kernel, rfl⟩
theorem e_X10_count_125 : g_dc cX10_count 125 (.invokestatic 82) 3 128 := ⟨by decide +kernel, rfl⟩
theorem e_X10_count_128 : g_dc cX10_count 128 (.ifCond .eq 17) 3 131 := ⟨by decide +kernel, rfl⟩
theorem e_X10_count_131 : g_dc cX10_count 131 (.aload_n 0) 1 132 := ⟨by decide +kernel, rfl⟩
theorem e_X10_count_132 : g_dc cX10_count 132 (.getfield 29) 3 135 := ⟨by decide +kernel, rfl⟩
theorem e_X10_count_135 : g_dc cX10_count 135 (.iload_n 1) 1 136 := ⟨by decide +kernel, rfl⟩
theorem e_X10_count_136 : g_dc cX10_count 136 (.bipush 100) 2 138 := ⟨by decide +kernel, rfl⟩
theorem e_X10_count_138 : g_dc cX10_count 138 (.isub) 1 139 := ⟨by decide +kernel, rfl⟩
theorem e_X10_count_139 : g_dc cX10_count 139 (.invokevirtual 269) 3 142 := ⟨by decide +kernel, rfl⟩
theorem e_X10_count_142 : g_dc cX10_count 142 (.goto 4) 3 145 := ⟨by decide +kernel, rfl⟩
theorem e_X10_count_145 : g_dc cX10_count 145 (.iconst (-1)) 1 146 := ⟨by decide +kernel, rfl⟩
theorem e_X10_count_146 : g_dc cX10_count 146 (.ireturn) 1 147 := ⟨by decide +kernel, rfl⟩
set_option maxHeartbeats 4000000 in
set_option maxRecDepth 100000 in
theorem w_X10_count (l : Launch) (X : gX) (ad : Nat → Nat) (F : Nat → Int32) (R : Nat → Nat → Int32) (hI : g_ok LK_wX F) (hA : g_okR LA_wX R) (a0 : Int32) : g_Ci l X yX10_count cX10_count 2 (some .int) 2 0 0 [.ref (ad 0), .int a0] (wX X ad F R) (fun r w => w = wX X ad F R ∧ jv (-2147483648) 2147483647 r) := by
  refine g_mi (by decide +kernel) (Nat.le_of_ble_eq_true rfl) (fun E cx hret => ?_)
  refine g_iload_n cx 1 rfl e_X10_count_0 ?_
  refine g_topi (fun zy1 ezy1 => ?_)
  rcases g_sw 0 7 zy1 with ⟨zw2n, zw2h, zw2e⟩ | zw2
  · have zw2d : zw2n = 0 ∨ zw2n = 1 ∨ zw2n = 2 ∨ zw2n = 3 ∨ zw2n = 4 ∨ zw2n = 5 ∨ zw2n = 6 ∨ zw2n = 7 := by omega
    rcases zw2d with rfl | rfl | rfl | rfl | rfl | rfl | rfl | rfl
    · refine g_tableIn cx 48 e_X10_count_1 (by rw [zw2e]; decide) (by rw [zw2e]; decide) (by rw [zw2e]; rfl) (by decide) ?_
      have p3 : jv 0 0 a0 := by rw [← ezy1]; exact jv_k 0 (by rw [zw2e]; rfl)
      refine g_aload_n cx 0 rfl e_X10_count_48 ?_
      refine g_get cx cl_X10 fl_X10_10 0 (.ref (ad 1)) e_X10_count_49 rfl rfl ?_
      refine g_getN cx cl_X8 fn_X10_86 1 (.int (F 16)) e_X10_count_52 rfl rfl ?_
      exact hret e_X10_count_55 (Nat.le_of_ble_eq_true rfl) (Nat.le_of_ble_eq_true rfl) rfl ⟨rfl, (jv_t (F 16))⟩
    · refine g_tableIn cx 56 e_X10_count_1 (by rw [zw2e]; decide) (by rw [zw2e]; decide) (by rw [zw2e]; rfl) (by decide) ?_
      have p4 : jv 1 1 a0 := by rw [← ezy1]; exact jv_k 1 (by rw [zw2e]; rfl)
      refine g_aload_n cx 0 rfl e_X10_count_56 ?_
      refine g_get cx cl_X10 fl_X10_10 0 (.ref (ad 1)) e_X10_count_57 rfl rfl ?_
      refine g_getN cx cl_X8 fn_X10_89 1 (.int (F 17)) e_X10_count_60 rfl rfl ?_
      exact hret e_X10_count_63 (Nat.le_of_ble_eq_true rfl) (Nat.le_of_ble_eq_true rfl) rfl ⟨rfl, (jv_t (F 17))⟩
    · refine g_tableIn cx 64 e_X10_count_1 (by rw [zw2e]; decide) (by rw [zw2e]; decide) (by rw [zw2e]; rfl) (by decide) ?_
      have p5 : jv 2 2 a0 := by rw [← ezy1]; exact jv_k 2 (by rw [zw2e]; rfl)
      refine g_aload_n cx 0 rfl e_X10_count_64 ?_
      refine g_get cx cl_X10 fl_X10_10 0 (.ref (ad 1)) e_X10_count_65 rfl rfl ?_
      refine g_getN cx cl_X8 fn_X10_92 1 (.int (F 18)) e_X10_count_68 rfl rfl ?_
      exact hret e_X10_count_71 (Nat.le_of_ble_eq_true rfl) (Nat.le_of_ble_eq_true rfl) rfl ⟨rfl, (jv_t (F 18))⟩
    · refine g_tableIn cx 72 e_X10_count_1 (by rw [zw2e]; decide) (by rw [zw2e]; decide) (by rw [zw2e]; rfl) (by decide) ?_
      have p6 : jv 3 3 a0 := by rw [← ezy1]; exact jv_k 3 (by rw [zw2e]; rfl)
      refine g_aload_n cx 0 rfl e_X10_count_72 ?_
      refine g_get cx cl_X10 fl_X10_10 0 (.ref (ad 1)) e_X10_count_73 rfl rfl ?_
      refine g_getN cx cl_X8 fn_X10_95 1 (.int (F 19)) e_X10_count_76 rfl rfl ?_
      exact hret e_X10_count_79 (Nat.le_of_ble_eq_true rfl) (Nat.le_of_ble_eq_true rfl) rfl ⟨rfl, (jv_t (F 19))⟩
    · refine g_tableIn cx 80 e_X10_count_1 (by rw [zw2e]; decide) (by rw [zw2e]; decide) (by rw [zw2e]; rfl) (by decide) ?_
      have p7 : jv 4 4 a0 := by rw [← ezy1]; exact jv_k 4 (by rw [zw2e]; rfl)
      refine g_aload_n cx 0 rfl e_X10_count_80 ?_
      refine g_get cx cl_X10 fl_X10_29 0 (.ref (ad 11)) e_X10_count_81 rfl rfl ?_
      refine g_getN cx cl_X5 fn_X10_124 11 (.int (F 177)) e_X10_count_84 rfl rfl ?_
      exact hret e_X10_count_87 (Nat.le_of_ble_eq_true rfl) (Nat.le_of_ble_eq_true rfl) rfl ⟨rfl, (jv_w (g_ok_g hI 2 rfl) (by decide))⟩
    · refine g_tableIn cx 88 e_X10_count_1 (by rw [zw2e]; decide) (by rw [zw2e]; decide) (by rw [zw2e]; rfl) (by decide) ?_
      have p8 : jv 5 5 a0 := by rw [← ezy1]; exact jv_k 5 (by rw [zw2e]; rfl)
      refine g_aload_n cx 0 rfl e_X10_count_88 ?_
      refine g_get cx cl_X10 fl_X10_39 0 (.ref (ad 17)) e_X10_count_89 rfl rfl ?_
      refine g_getN cx cl_X2 fn_X10_130 17 (.int (F 278)) e_X10_count_92 rfl rfl ?_
      exact hret e_X10_count_95 (Nat.le_of_ble_eq_true rfl) (Nat.le_of_ble_eq_true rfl) rfl ⟨rfl, (jv_w (g_ok_g hI 7 rfl) (by decide))⟩
    · refine g_tableIn cx 96 e_X10_count_1 (by rw [zw2e]; decide) (by rw [zw2e]; decide) (by rw [zw2e]; rfl) (by decide) ?_
      have p9 : jv 6 6 a0 := by rw [← ezy1]; exact jv_k 6 (by rw [zw2e]; rfl)
      refine g_aload_n cx 0 rfl e_X10_count_96 ?_
      refine g_get cx cl_X10 fl_X10_22 0 (.ref (ad 9)) e_X10_count_97 rfl rfl ?_
      refine g_getN cx cl_X9 fn_X10_110 9 (.int (F 145)) e_X10_count_100 rfl rfl ?_
      exact hret e_X10_count_103 (Nat.le_of_ble_eq_true rfl) (Nat.le_of_ble_eq_true rfl) rfl ⟨rfl, (jv_w (g_ok_g hI 1 rfl) (by decide))⟩
    · refine g_tableIn cx 104 e_X10_count_1 (by rw [zw2e]; decide) (by rw [zw2e]; decide) (by rw [zw2e]; rfl) (by decide) ?_
      have p10 : jv 7 7 a0 := by rw [← ezy1]; exact jv_k 7 (by rw [zw2e]; rfl)
      refine g_aload_n cx 0 rfl e_X10_count_104 ?_
      refine g_get cx cl_X10 fl_X10_10 0 (.ref (ad 1)) e_X10_count_105 rfl rfl ?_
      refine g_getN cx cl_X8 fn_X10_168 1 (.int (F 20)) e_X10_count_108 rfl rfl ?_
      exact hret e_X10_count_111 (Nat.le_of_ble_eq_true rfl) (Nat.le_of_ble_eq_true rfl) rfl ⟨rfl, (jv_t (F 20))⟩
  · refine g_tableOut cx 112 e_X10_count_1 zw2 (by decide) ?_
    refine g_iload_n cx 1 rfl e_X10_count_112 ?_
    refine g_bipush cx 100 (by decide) e_X10_count_113 ?_
    refine g_bipush cx 99 (by decide) e_X10_count_115 ?_
    refine g_aload_n cx 0 rfl e_X10_count_117 ?_
    refine g_get cx cl_X10 fl_X10_29 0 (.ref (ad 11)) e_X10_count_118 rfl rfl ?_
    refine g_getN cx cl_X5 fn_X10_124 11 (.int (F 177)) e_X10_count_121 rfl rfl ?_
    refine g_iadd cx e_X10_count_124 ?_
    refine g_topi (fun x11 ex11 => ?_)
    have zx11 := jv_add 99 159 ex11 (jv_k (x := 99) 99 (by decide)) (g_ok_g hI 2 rfl) (by decide)
    refine g_cSiW cx [.int a0, .int 100, .int x11] [] (c_X10_within l X (wX X ad F R) a0 100 x11) ml_X10_82 yS_X10_within rfl e_X10_count_125 (by unfold g_rr; decide) (by decide) rfl (Nat.le_of_ble_eq_true rfl) (fun r12 w13 h14 => ?_)
    obtain ⟨rfl, hr12⟩ := h14
    have pr12 : jv 0 1 r12 := by rw [hr12]; exact gi_01 _ _ _
    have J146 : ∀ (y15 : Int32), (jv (-2147483648) 2147483647 y15) → G X E 2 0 0 (wX X ad F R) [] 146 [.int y15] := by
      intro y15 py15
      exact hret e_X10_count_146 (Nat.le_of_ble_eq_true rfl) (Nat.le_of_ble_eq_true rfl) rfl ⟨rfl, py15⟩
    refine g_if_eq cx 145 e_X10_count_128 (by decide) (fun zc16 => ?_) (fun zc16 => ?_)
    · have p17 := gn_eq 0 0 (gc_eq zc16) pr12 (jv_k (x := 0) 0 (by decide)) (by decide)
      refine g_iconst cx (-1) (by decide) e_X10_count_145 ?_
      refine g_lsub [] [] rfl ?_
      exact J146 (-1) (jv_w (jv_k (x := (-1)) (-1) (by decide)) (by decide))
    · have p18 := gn_neL 1 1 (gc_ne zc16) pr12 (jv_k (x := 0) 0 (by decide)) (by decide)
      refine g_aload_n cx 0 rfl e_X10_count_131 ?_
      refine g_get cx cl_X10 fl_X10_29 0 (.ref (ad 11)) e_X10_count_132 rfl rfl ?_
      refine g_iload_n cx 1 rfl e_X10_count_135 ?_
      refine g_bipush cx 100 (by decide) e_X10_count_136 ?_
      refine g_isub cx e_X10_count_138 ?_
      refine g_topi (fun x19 ex19 => ?_)
      refine g_cViW cx [.int x19] [] (w_X5_paceAt_11 l X ad F R hI hA x19) ml_X10_269 yV_X5_paceAt e_X10_count_139 (by unfold g_rr; decide) (by decide) 11 rfl rfl rfl (Nat.le_of_ble_eq_true rfl) (fun r20 w21 h22 => ?_)
      obtain ⟨rfl, pr20⟩ := h22
      refine g_goto cx 146 e_X10_count_142 (by decide) ?_
      refine g_lsub [] [] rfl ?_
      exact J146 r20 pr20
