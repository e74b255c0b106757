def sp_X8_copy_5_r1 (F : Nat → Int32) (R : Nat → Nat → Int32) : (Nat → Int32) × (Nat → Nat → Int32) :=
  k_lt (upd F 80 (F 16)) (fun F1 => k_lt (upd F1 81 (F 17)) (fun F3 => k_lt (upd F3 82 (F 18)) (fun F5 => k_lt (upd F5 83 (F 19)) (fun F7 => k_lt (upd F7 84 (F 20)) (fun F9 => k_lt (g_u R 6 (va_cpy (R 2) (R 6) 0 0 80)) (fun R11 => (F9, R11)))))))
def md_X8_copy_5_r1 : List Nat := [80, 81, 82, 83, 84]
def mr_X8_copy_5_r1 : List Nat := [6]
set_option maxHeartbeats 4000000 in
set_option maxRecDepth 100000 in
theorem w_X8_copy_5_r1 (l : Launch) (X : gX) (ad : Nat → Nat) (F : Nat → Int32) (R : Nat → Nat → Int32) (hI : g_ok LK_wX F) (hA : g_okR LA_wX R) : g_Cv l X yX8_copy cX8_copy 2 1 0 0 [.ref (ad 5), .ref (ad 1)] (wX X ad F R) (fun w => ∃ (F' : Nat → Int32) (R' : Nat → Nat → Int32), w = wX X ad F' R' ∧ g_ok LK_wX F' ∧ g_okR LA_wX R' ∧ g_fr md_X8_copy_5_r1 F F' ∧ g_fr mr_X8_copy_5_r1 R R' ∧ (F', R') = sp_X8_copy_5_r1 F R) := by
  refine g_mv (by decide +kernel) (Nat.le_of_ble_eq_true rfl) (fun E cx hret => ?_)
  obtain ⟨SP, hSP⟩ : ∃ z, z = sp_X8_copy_5_r1 F R := ⟨_, rfl⟩
  have hk0 := hSP
  unfold sp_X8_copy_5_r1 at hk0
  refine g_aload_n cx 1 rfl e_X8_copy_0 ?_
  refine g_ifnonnull cx 5 e_X8_copy_1 (by decide) ?_
  refine g_aload_n cx 0 rfl e_X8_copy_5 ?_
  refine g_aload_n cx 1 rfl e_X8_copy_6 ?_
  refine g_get cx cl_X8 fl_X8_9 1 (.int (F 16)) e_X8_copy_7 rfl rfl ?_
  refine g_put cx cl_X8 fl_X8_9 5 (wX X ad (upd F 80 (F 16)) R) e_X8_copy_10 rfl rfl rfl rfl (Nat.le_of_ble_eq_true rfl) rfl ?_
  obtain ⟨F1, hF1⟩ : ∃ z, z = upd F 80 (F 16) := ⟨_, rfl⟩
  rw [← hF1]
  have hk2 := k_ls hk0 hF1
  have oF1 : g_ok LK_wX F1 := by rw [hF1]; exact g_ok_u hI rfl
  have fF1 : g_fr md_X8_copy_5_r1 F F1 := by rw [hF1]; exact g_fr_u (g_fr_rf F) rfl
  refine g_aload_n cx 0 rfl e_X8_copy_13 ?_
  refine g_aload_n cx 1 rfl e_X8_copy_14 ?_
  refine g_get cx cl_X8 fl_X8_15 1 (.int (F1 17)) e_X8_copy_15 rfl rfl ?_
  refine g_toi (F 17) (g_pu2 hF1 rfl) ?_
  refine g_put cx cl_X8 fl_X8_15 5 (wX X ad (upd F1 81 (F 17)) R) e_X8_copy_18 rfl rfl rfl rfl (Nat.le_of_ble_eq_true rfl) rfl ?_
  obtain ⟨F3, hF3⟩ : ∃ z, z = upd F1 81 (F 17) := ⟨_, rfl⟩
  rw [← hF3]
  have hk4 := k_ls hk2 hF3
  have oF3 : g_ok LK_wX F3 := by rw [hF3]; exact g_ok_u oF1 rfl
  have fF3 : g_fr md_X8_copy_5_r1 F F3 := by rw [hF3]; exact g_fr_u fF1 rfl
  refine g_aload_n cx 0 rfl e_X8_copy_21 ?_
  refine g_aload_n cx 1 rfl e_X8_copy_22 ?_
  refine g_get cx cl_X8 fl_X8_18 1 (.int (F3 18)) e_X8_copy_23 rfl rfl ?_
  refine g_toi (F 18) ((g_pu2 hF3 rfl).trans (g_pu2 hF1 rfl)) ?_
  refine g_put cx cl_X8 fl_X8_18 5 (wX X ad (upd F3 82 (F 18)) R) e_X8_copy_26 rfl rfl rfl rfl (Nat.le_of_ble_eq_true rfl) rfl ?_
  obtain ⟨F5, hF5⟩ : ∃ z, z = upd F3 82 (F 18) := ⟨_, rfl⟩
  rw [← hF5]
  have hk6 := k_ls hk4 hF5
  have oF5 : g_ok LK_wX F5 := by rw [hF5]; exact g_ok_u oF3 rfl
  have fF5 : g_fr md_X8_copy_5_r1 F F5 := by rw [hF5]; exact g_fr_u fF3 rfl
  refine g_aload_n cx 0 rfl e_X8_copy_29 ?_
  refine g_aload_n cx 1 rfl e_X8_copy_30 ?_
  refine g_get cx cl_X8 fl_X8_21 1 (.int (F5 19)) e_X8_copy_31 rfl rfl ?_
  refine g_toi (F 19) (((g_pu2 hF5 rfl).trans (g_pu2 hF3 rfl)).trans (g_pu2 hF1 rfl)) ?_
  refine g_put cx cl_X8 fl_X8_21 5 (wX X ad (upd F5 83 (F 19)) R) e_X8_copy_34 rfl rfl rfl rfl (Nat.le_of_ble_eq_true rfl) rfl ?_
  obtain ⟨F7, hF7⟩ : ∃ z, z = upd F5 83 (F 19) := ⟨_, rfl⟩
  rw [← hF7]
  have hk8 := k_ls hk6 hF7
  have oF7 : g_ok LK_wX F7 := by rw [hF7]; exact g_ok_u oF5 rfl
  have fF7 : g_fr md_X8_copy_5_r1 F F7 := by rw [hF7]; exact g_fr_u fF5 rfl
  refine g_aload_n cx 0 rfl e_X8_copy_37 ?_
  refine g_aload_n cx 1 rfl e_X8_copy_38 ?_
  refine g_get cx cl_X8 fl_X8_24 1 (.int (F7 20)) e_X8_copy_39 rfl rfl ?_
  refine g_toi (F 20) ((((g_pu2 hF7 rfl).trans (g_pu2 hF5 rfl)).trans (g_pu2 hF3 rfl)).trans (g_pu2 hF1 rfl)) ?_
  refine g_put cx cl_X8 fl_X8_24 5 (wX X ad (upd F7 84 (F 20)) R) e_X8_copy_42 rfl rfl rfl rfl (Nat.le_of_ble_eq_true rfl) rfl ?_
  obtain ⟨F9, hF9⟩ : ∃ z, z = upd F7 84 (F 20) := ⟨_, rfl⟩
  rw [← hF9]
  have hk10 := k_ls hk8 hF9
  have oF9 : g_ok LK_wX F9 := by rw [hF9]; exact g_ok_u oF7 rfl
  have fF9 : g_fr md_X8_copy_5_r1 F F9 := by rw [hF9]; exact g_fr_u fF7 rfl
  refine g_aload_n cx 1 rfl e_X8_copy_45 ?_
  refine g_get cx cl_X8 fl_X8_27 1 (.ref (ad 2)) e_X8_copy_46 rfl rfl ?_
  refine g_iconst cx 0 (by decide) e_X8_copy_49 ?_
  refine g_aload_n cx 0 rfl e_X8_copy_50 ?_
  refine g_get cx cl_X8 fl_X8_27 5 (.ref (ad 6)) e_X8_copy_51 rfl rfl ?_
  refine g_iconst cx 0 (by decide) e_X8_copy_54 ?_
  refine g_aload_n cx 0 rfl e_X8_copy_55 ?_
  refine g_get cx cl_X8 fl_X8_27 5 (.ref (ad 6)) e_X8_copy_56 rfl rfl ?_
  refine g_alen cx 6 80 e_X8_copy_59 rfl (by decide) ?_
  refine g_copy cx 2 6 (wX X ad F9 (g_u R 6 (va_cpy (R 2) (R 6) 0 0 80))) ml_X8_39 e_X8_copy_60 rfl rfl (by decide) (by decide) (by decide) (by decide) rfl ?_
  obtain ⟨R11, hR11⟩ : ∃ z, z = g_u R 6 (va_cpy (R 2) (R 6) 0 0 80) := ⟨_, rfl⟩
  rw [← hR11]
  have hk12 := k_ls hk10 hR11
  have oR11 : g_okR LA_wX R11 := by rw [hR11]; exact g_okR_u hA rfl
  have fR11 : g_fr mr_X8_copy_5_r1 R R11 := by rw [hR11]; exact g_fr_r (g_fr_rf R) rfl
  exact hret e_X8_copy_63 (Nat.le_of_ble_eq_true rfl) (Nat.le_of_ble_eq_true rfl) ⟨F9, R11, rfl, oF9, oR11, fF9, fR11, (hk12.symm.trans hSP)⟩
def sp_X5_copy_15_r11 (F : Nat → Int32) (R : Nat → Nat → Int32) : (Nat → Int32) × (Nat → Nat → Int32) :=
  k_lt (upd F 241 (F 177)) (fun F1 => k_lt (g_u R 16 (va_cpy (R 12) (R 16) 0 0 60)) (fun R3 => (F1, R3)))
def md_X5_copy_15_r11 : List Nat := [241]
def mr_X5_copy_15_r11 : List Nat := [16]
set_option maxHeartbeats 4000000 in
set_option maxRecDepth 100000 in
theorem w_X5_copy_15_r11 (l : Launch) (X : gX) (ad : Nat → Nat) (F : Nat → Int32) (R : Nat → Nat → Int32) (hI : g_ok LK_wX F) (hA : g_okR LA_wX R) : g_Cv l X yX5_copy cX5_copy 2 1 0 0 [.ref (ad 15), .ref (ad 11)] (wX X ad F R) (fun w => ∃ (F' : Nat → Int32) (R' : Nat → Nat → Int32), w = wX X ad F' R' ∧ g_ok LK_wX F' ∧ g_okR LA_wX R' ∧ g_fr md_X5_copy_15_r11 F F' ∧ g_fr mr_X5_copy_15_r11 R R' ∧ (F', R') = sp_X5_copy_15_r11 F R) := by
  refine g_mv (by decide +kernel) (Nat.le_of_ble_eq_true rfl) (fun E cx hret => ?_)
  obtain ⟨SP, hSP⟩ : ∃ z, z = sp_X5_copy_15_r11 F R := ⟨_, rfl⟩
  have hk0 := hSP
  unfold sp_X5_copy_15_r11 at hk0
  refine g_aload_n cx 1 rfl e_X5_copy_0 ?_
  refine g_ifnonnull cx 5 e_X5_copy_1 (by decide) ?_
  refine g_aload_n cx 0 rfl e_X5_copy_5 ?_
  refine g_aload_n cx 1 rfl e_X5_copy_6 ?_
  refine g_get cx cl_X5 fl_X5_15 11 (.int (F 177)) e_X5_copy_7 rfl rfl ?_
  refine g_put cx cl_X5 fl_X5_15 15 (wX X ad (upd F 241 (F 177)) R) e_X5_copy_10 rfl rfl rfl rfl (Nat.le_of_ble_eq_true rfl) rfl ?_
  obtain ⟨F1, hF1⟩ : ∃ z, z = upd F 241 (F 177) := ⟨_, rfl⟩
  rw [← hF1]
  have hk2 := k_ls hk0 hF1
  have oF1 : g_ok LK_wX F1 := by rw [hF1]; exact g_ok_p hI (g_ok_g hI 2 rfl) rfl
  have fF1 : g_fr md_X5_copy_15_r11 F F1 := by rw [hF1]; exact g_fr_u (g_fr_rf F) rfl
  refine g_aload_n cx 1 rfl e_X5_copy_13 ?_
  refine g_get cx cl_X5 fl_X5_9 11 (.ref (ad 12)) e_X5_copy_14 rfl rfl ?_
  refine g_iconst cx 0 (by decide) e_X5_copy_17 ?_
  refine g_aload_n cx 0 rfl e_X5_copy_18 ?_
  refine g_get cx cl_X5 fl_X5_9 15 (.ref (ad 16)) e_X5_copy_19 rfl rfl ?_
  refine g_iconst cx 0 (by decide) e_X5_copy_22 ?_
  refine g_bipush cx 60 (by decide) e_X5_copy_23 ?_
  refine g_copy cx 12 16 (wX X ad F1 (g_u R 16 (va_cpy (R 12) (R 16) 0 0 60))) ml_X5_19 e_X5_copy_25 rfl rfl (by decide) (by decide) (by decide) (by decide) rfl ?_
  obtain ⟨R3, hR3⟩ : ∃ z, z = g_u R 16 (va_cpy (R 12) (R 16) 0 0 60) := ⟨_, rfl⟩
  rw [← hR3]
  have hk4 := k_ls hk2 hR3
  have oR3 : g_okR LA_wX R3 := by rw [hR3]; exact g_okR_u hA rfl
  have fR3 : g_fr mr_X5_copy_15_r11 R R3 := by rw [hR3]; exact g_fr_r (g_fr_rf R) rfl
  exact hret e_X5_copy_28 (Nat.le_of_ble_eq_true rfl) (Nat.le_of_ble_eq_true rfl) ⟨F1, R3, rfl, oF1, oR3, fF1, fR3, (hk4.symm.trans hSP)⟩
def sp_X7_lay_r1_r11 (F : Nat → Int32) (R : Nat → Nat → Int32) : (Nat → Int32) × (Nat → Nat → Int32) :=
  k_lt2 (sp_X8_copy_5_r1 F R) (fun F5 R6 => k_lt2 (sp_X5_copy_15_r11 F5 R6) (fun F12 R13 => k_lt2 (sp_X1_holdStill F12 R13) (fun F19 R20 => (F19, R20))))
theorem e_X7_lay_0 : g_dc cX7_lay 0 (.aload_n 0) 1 1 := ⟨by decide +kernel, rfl⟩
theorem e_X7_lay_1 : g_dc cX7_lay 1 (.getfield 53) 3 4 := ⟨by decide +kernel, rfl⟩
theorem e_X7_lay_4 : g_dc cX7_lay 4 (.aload_n 1) 1 5 := ⟨by decide +kernel, rfl⟩
theorem e_X7_lay_5 : g_dc cX7_lay 5 (.invokevirtual 64) 3 8 := ⟨by decide +kernel, rfl⟩
theorem e_X7_lay_8 : g_dc cX7_lay 8 (.aload_n 0) 1 9 := ⟨by decide +kernel, rfl⟩
theorem e_X7_lay_9 : g_dc cX7_lay 9 (.getfield 58) 3 12 := ⟨by decide +kernel, rfl⟩
theorem e_X7_lay_12 : g_dc cX7_lay 12 (.aload_n 2) 1 13 := ⟨by decide +kernel, rfl⟩
theorem e_X7_lay_13 : g_dc cX7_lay 13 (.invokevirtual 68) 3 16 := ⟨by decide +kernel, rfl⟩
theorem e_X7_lay_16 : g_dc cX7_lay 16 (.aload_n 0) 1 17 := ⟨by decide +kernel, rfl⟩
theorem e_X7_lay_17 : g_dc cX7_lay 17 (.getfield 46) 3 20 := ⟨by decide +kernel, rfl⟩
theorem e_X7_lay_20 : g_dc cX7_lay 20 (.getfield 73) 3 23 := ⟨by decide +kernel, rfl⟩
theorem e_X7_lay_23 : g_dc cX7_lay 23 (.invokevirtual 77) 3 26 := ⟨by decide +kernel, rfl⟩
theorem e_X7_lay_26 : g_dc cX7_lay 26 (.return_) 1 27 := ⟨by decide +kernel, rfl⟩
def md_X7_lay_r1_r11 : List Nat := [80, 81, 82, 83, 84, 241, 672, 674]
def mr_X7_lay_r1_r11 : List Nat := [6, 16]
set_option maxHeartbeats 4000000 in
set_option maxRecDepth 100000 in
theorem w_X7_lay_r1_r11 (l : Launch) (X : gX) (ad : Nat → Nat) (F : Nat → Int32) (R : Nat → Nat → Int32) (hI : g_ok LK_wX F) (hA : g_okR LA_wX R) : g_Cv l X yX7_lay cX7_lay 3 2 0 0 [.ref (ad 35), .ref (ad 1), .ref (ad 11)] (wX X ad F R) (fun w => ∃ (F' : Nat → Int32) (R' : Nat → Nat → Int32), w = wX X ad F' R' ∧ g_ok LK_wX F' ∧ g_okR LA_wX R' ∧ g_fr md_X7_lay_r1_r11 F F' ∧ g_fr mr_X7_lay_r1_r11 R R' ∧ (F', R') = sp_X7_lay_r1_r11 F R) := by
  refine g_mv (by decide +kernel) (Nat.le_of_ble_eq_true rfl) (fun E cx hret => ?_)
  obtain ⟨SP, hSP⟩ : ∃ z, z = sp_X7_lay_r1_r11 F R := ⟨_, rfl⟩
  have hk0 := hSP
  unfold sp_X7_lay_r1_r11 at hk0
  refine g_aload_n cx 0 rfl e_X7_lay_0 ?_
  refine g_get cx cl_X7 fl_X7_53 35 (.ref (ad 5)) e_X7_lay_1 rfl rfl ?_
  refine g_aload_n cx 1 rfl e_X7_lay_4 ?_
  refine g_cVvW cx [.ref (ad 1)] [] (w_X8_copy_5_r1 l X ad F R hI hA) ml_X7_64 yV_X8_copy e_X7_lay_5 (by unfold g_rr; decide) (by decide) 5 rfl rfl rfl (Nat.le_of_ble_eq_true rfl) (fun w2 h3 => ?_)
  obtain ⟨F5, R6, rfl, oF5, oR6, cF5, cR6, hx4⟩ := h3
  have hk7 := k_ls2 hk0 hx4
  have fF5 : g_fr md_X7_lay_r1_r11 F F5 := g_fr_c (g_fr_rf F) cF5 rfl
  have fR6 : g_fr mr_X7_lay_r1_r11 R R6 := g_fr_c (g_fr_rf R) cR6 rfl
  refine g_aload_n cx 0 rfl e_X7_lay_8 ?_
  refine g_get cx cl_X7 fl_X7_58 35 (.ref (ad 15)) e_X7_lay_9 rfl rfl ?_
  refine g_aload_n cx 2 rfl e_X7_lay_12 ?_
  refine g_cVvW cx [.ref (ad 11)] [] (w_X5_copy_15_r11 l X ad F5 R6 oF5 oR6) ml_X7_68 yV_X5_copy e_X7_lay_13 (by unfold g_rr; decide) (by decide) 15 rfl rfl rfl (Nat.le_of_ble_eq_true rfl) (fun w9 h10 => ?_)
  obtain ⟨F12, R13, rfl, oF12, oR13, cF12, cR13, hx11⟩ := h10
  have hk14 := k_ls2 hk7 hx11
  have fF12 : g_fr md_X7_lay_r1_r11 F F12 := g_fr_c fF5 cF12 rfl
  have fR13 : g_fr mr_X7_lay_r1_r11 R R13 := g_fr_c fR6 cR13 rfl
  refine g_aload_n cx 0 rfl e_X7_lay_16 ?_
  refine g_get cx cl_X7 fl_X7_46 35 (.ref (ad 37)) e_X7_lay_17 rfl rfl ?_
  refine g_getN cx cl_X0 fn_X7_73 37 (.ref (ad 42)) e_X7_lay_20 rfl rfl ?_
  refine g_cVvW cx [] [] (w_X1_holdStill l X ad F12 R13 oF12 oR13) ml_X7_77 yV_X1_holdStill e_X7_lay_23 (by unfold g_rr; decide) (by decide) 42 rfl rfl rfl (Nat.le_of_ble_eq_true rfl) (fun w16 h17 => ?_)
  obtain ⟨F19, R20, rfl, oF19, oR20, cF19, cR20, hx18⟩ := h17
  have hk21 := k_ls2 hk14 hx18
  have fF19 : g_fr md_X7_lay_r1_r11 F F19 := g_fr_c fF12 cF19 rfl
  have fR20 : g_fr mr_X7_lay_r1_r11 R R20 := g_fr_c fR13 cR20 rfl
  exact hret e_X7_lay_26 (Nat.le_of_ble_eq_true rfl) (Nat.le_of_ble_eq_true rfl) ⟨F19, R20, rfl, oF19, oR20, fF19, fR20, (hk21.symm.trans hSP)⟩
def sp_X10_tryDrawn (F : Nat → Int32) (R : Nat → Nat → Int32) : (Nat → Int32) × (Nat → Nat → Int32) :=
  k_lt2 (sp_X7_lay_r1_r11 F R) (fun F5 R6 => k_lt2 (sp_X1_drawFrom F5 R6 (F 20)) (fun F12 R13 => k_lt2 (sp_X0_run F12 R13) (fun F19 R20 => (F19, R20))))
theorem e_X10_tryDrawn_0 : g_dc cX10_tryDrawn 0 (.aload_n 0) 1 1 := ⟨by decide +kernel, rfl⟩
theorem e_X10_tryDrawn_1 : g_dc cX10_tryDrawn 1 (.getfield 58) 3 4 := ⟨by decide +kernel, rfl⟩
theorem e_X10_tryDrawn_4 : g_dc cX10_tryDrawn 4 (.aload_n 0) 1 5 := ⟨by decide +kernel, rfl⟩
theorem e_X10_tryDrawn_5 : g_dc cX10_tryDrawn 5 (.getfield 10) 3 8 := ⟨by decide +kernel, rfl⟩
theorem e_X10_tryDrawn_8 : g_dc cX10_tryDrawn 8 (.aload_n 0) 1 9 := ⟨by decide +kernel, rfl⟩
theorem e_X10_tryDrawn_9 : g_dc cX10_tryDrawn 9 (.getfield 29) 3 12 := ⟨by decide +kernel, rfl⟩
theorem e_X10_tryDrawn_12 : g_dc cX10_tryDrawn 12 (.invokevirtual 148) 3 15 := ⟨by decide +kernel, rfl⟩
theorem e_X10_tryDrawn_15 : g_dc cX10_tryDrawn 15 (.aload_n 0) 1 16 := ⟨by decide +kernel, rfl⟩
theorem e_X10_tryDrawn_16 : g_dc cX10_tryDrawn 16 (.getfield 66) 3 19 := ⟨by decide +kernel, rfl⟩
theorem e_X10_tryDrawn_19 : g_dc cX10_tryDrawn 19 (.getfield 159) 3 22 := ⟨by decide +kernel, rfl⟩
theorem e_X10_tryDrawn_22 : g_dc cX10_tryDrawn 22 (.aload_n 0) 1 23 := ⟨by decide +kernel, rfl⟩
theorem e_X10_tryDrawn_23 : g_dc cX10_tryDrawn 23 (.getfield 10) 3 26 := ⟨by decide +kernel, rfl⟩
theorem e_X10_tryDrawn_26 : g_dc cX10_tryDrawn 26 (.getfield 168) 3 29 := ⟨by decide +kernel, rfl⟩
theorem e_X10_tryDrawn_29 : g_dc cX10_tryDrawn 29 (.invokevirtual 272) 3 32 := ⟨by decide +kernel, rfl⟩
theorem e_X10_tryDrawn_32 : g_dc cX10_tryDrawn 32 (.aload_n 0) 1 33 := ⟨by decide +kernel, rfl⟩
theorem e_X10_tryDrawn_33 : g_dc cX10_tryDrawn 33 (.getfield 66) 3 36 := ⟨by decide +kernel, rfl⟩
theorem e_X10_tryDrawn_36 : g_dc cX10_tryDrawn 36 (.invokevirtual 152) 3 39 := ⟨by decide +kernel, rfl⟩
theorem e_X10_tryDrawn_39 : g_dc cX10_tryDrawn 39 (.return_) 1 40 := ⟨by decide +kernel, rfl⟩
def md_X10_tryDrawn : List Nat := [80, 81, 82, 83, 84, 241, 601, 602, 603, 604, 605, 606, 672, 673, 674, 675, 691, 692, 693, 694, 695, 696, 697, 698]
def mr_X10_tryDrawn : List Nat := [6, 16, 23, 24, 38, 39, 40, 41, 44, 45, 46]
set_option maxHeartbeats 4000000 in
set_option maxRecDepth 100000 in
theorem w_X10_tryDrawn (l : Launch) (X : gX) (ad : Nat → Nat) (F : Nat → Int32) (R : Nat → Nat → Int32) (hI : g_ok LK_wX F) (hA : g_okR LA_wX R) : g_Cv l X yX10_tryDrawn cX10_tryDrawn 1 7 0 0 [.ref (ad 0)] (wX X ad F R) (fun w => ∃ (F' : Nat → Int32) (R' : Nat → Nat → Int32), w = wX X ad F' R' ∧ g_ok LK_wX F' ∧ g_okR LA_wX R' ∧ g_fr md_X10_tryDrawn F F' ∧ g_fr mr_X10_tryDrawn R R' ∧ (F', R') = sp_X10_tryDrawn F R) := by
  refine g_mv (by decide +kernel) (Nat.le_of_ble_eq_true rfl) (fun E cx hret => ?_)
  obtain ⟨SP, hSP⟩ : ∃ z, z = sp_X10_tryDrawn F R := ⟨_, rfl⟩
  have hk0 := hSP
  unfold sp_X10_tryDrawn at hk0
  refine g_aload_n cx 0 rfl e_X10_tryDrawn_0 ?_
  refine g_get cx cl_X10 fl_X10_58 0 (.ref (ad 35)) e_X10_tryDrawn_1 rfl rfl ?_
  refine g_aload_n cx 0 rfl e_X10_tryDrawn_4 ?_
  refine g_get cx cl_X10 fl_X10_10 0 (.ref (ad 1)) e_X10_tryDrawn_5 rfl rfl ?_
  refine g_aload_n cx 0 rfl e_X10_tryDrawn_8 ?_
  refine g_get cx cl_X10 fl_X10_29 0 (.ref (ad 11)) e_X10_tryDrawn_9 rfl rfl ?_
  refine g_cVvW cx [.ref (ad 1), .ref (ad 11)] [] (w_X7_lay_r1_r11 l X ad F R hI hA) ml_X10_148 yV_X7_lay e_X10_tryDrawn_12 (by unfold g_rr; decide) (by decide) 35 rfl rfl rfl (Nat.le_of_ble_eq_true rfl) (fun w2 h3 => ?_)
  obtain ⟨F5, R6, rfl, oF5, oR6, cF5, cR6, hx4⟩ := h3
  have hk7 := k_ls2 hk0 hx4
  have fF5 : g_fr md_X10_tryDrawn F F5 := g_fr_c (g_fr_rf F) cF5 rfl
  have fR6 : g_fr mr_X10_tryDrawn R R6 := g_fr_c (g_fr_rf R) cR6 rfl
  refine g_aload_n cx 0 rfl e_X10_tryDrawn_15 ?_
  refine g_get cx cl_X10 fl_X10_66 0 (.ref (ad 37)) e_X10_tryDrawn_16 rfl rfl ?_
  refine g_getN cx cl_X0 fn_X10_159 37 (.ref (ad 42)) e_X10_tryDrawn_19 rfl rfl ?_
  refine g_aload_n cx 0 rfl e_X10_tryDrawn_22 ?_
  refine g_get cx cl_X10 fl_X10_10 0 (.ref (ad 1)) e_X10_tryDrawn_23 rfl rfl ?_
  refine g_getN cx cl_X8 fn_X10_168 1 (.int (F5 20)) e_X10_tryDrawn_26 rfl rfl ?_
  refine g_toi (F 20) (cF5 20 rfl) ?_
  refine g_cVvW cx [.int (F 20)] [] (w_X1_drawFrom l X ad F5 R6 oF5 oR6 (F 20)) ml_X10_272 yV_X1_drawFrom e_X10_tryDrawn_29 (by unfold g_rr; decide) (by decide) 42 rfl rfl rfl (Nat.le_of_ble_eq_true rfl) (fun w9 h10 => ?_)
  obtain ⟨F12, R13, rfl, oF12, oR13, cF12, cR13, hx11⟩ := h10
  have hk14 := k_ls2 hk7 hx11
  have fF12 : g_fr md_X10_tryDrawn F F12 := g_fr_c fF5 cF12 rfl
  have fR13 : g_fr mr_X10_tryDrawn R R13 := g_fr_c fR6 cR13 rfl
  refine g_aload_n cx 0 rfl e_X10_tryDrawn_32 ?_
  refine g_get cx cl_X10 fl_X10_66 0 (.ref (ad 37)) e_X10_tryDrawn_33 rfl rfl ?_
  refine g_cVvW cx [] [] (w_X0_run l X ad F12 R13 oF12 oR13) ml_X10_152 yV_X0_run e_X10_tryDrawn_36 (by unfold g_rr; decide) (by decide) 37 rfl rfl rfl (Nat.le_of_ble_eq_true rfl) (fun w16 h17 => ?_)
  obtain ⟨F19, R20, rfl, oF19, oR20, cF19, cR20, hx18⟩ := h17
  have hk21 := k_ls2 hk14 hx18
  have fF19 : g_fr md_X10_tryDrawn F F19 := g_fr_c fF12 cF19 rfl
  have fR20 : g_fr mr_X10_tryDrawn R R20 := g_fr_c fR13 cR20 rfl
  exact hret e_X10_tryDrawn_39 (Nat.le_of_ble_eq_true rfl) (Nat.le_of_ble_eq_true rfl) ⟨F19, R20, rfl, oF19, oR20, fF19, fR20, (hk21.symm.trans hSP)⟩
def sp_X10_tried (F : Nat → Int32) (R : Nat → Nat → Int32) (a0 : Int32) : Int32 × (Nat → Int32) × (Nat → Nat → Int32) :=
  k_lt2 (sp_X10_tryDrawn F R) (fun F5 R6 => k_lt (sp_X4_tell F5 R6 a0) (fun r8 => (r8, F5, R6)))
theorem e_X10_tried_0 : g_dc cX10_tried 0 (.aload_n 0) 1 1 := ⟨by decide +kernel, rfl⟩
theorem e_X10_tried_1 : g_dc cX10_tried 1 (.invokevirtual 133) 3 4 := ⟨by decide +kernel, rfl⟩
theorem e_X10_tried_4 : g_dc cX10_tried 4 (.aload_n 0) 1 5 := ⟨by decide +kernel, rfl⟩
theorem e_X10_tried_5 : g_dc cX10_tried 5 (.getfield 66) 3 8 := ⟨by decide +kernel, rfl⟩
theorem e_X10_tried_8 : g_dc cX10_tried 8 (.getfield 136) 3 11 := ⟨by decide +kernel, rfl⟩
theorem e_X10_tried_11 : g_dc cX10_tried 11 (.iload_n 1) 1 12 := ⟨by decide +kernel, rfl⟩
theorem e_X10_tried_12 : g_dc cX10_tried 12 (.invokevirtual 142) 3 15 := ⟨by decide +kernel, rfl⟩
theorem e_X10_tried_15 : g_dc cX10_tried 15 (.ireturn) 1 16 := ⟨by decide +kernel, rfl⟩
def md_X10_tried : List Nat := [80, 81, 82, 83, 84, 241, 601, 602, 603, 604, 605, 606, 672, 673, 674, 675, 691, 692, 693, 694, 695, 696, 697, 698]
def mr_X10_tried : List Nat := [6, 16, 23, 24, 38, 39, 40, 41, 44, 45, 46]
set_option maxHeartbeats 4000000 in
set_option maxRecDepth 100000 in
theorem w_X10_tried (l : Launch) (X : gX) (ad : Nat → Nat) (F : Nat → Int32) (R : Nat → Nat → Int32) (hI : g_ok LK_wX F) (hA : g_okR LA_wX R) (a0 : Int32) : g_Ci l X yX10_tried cX10_tried 2 (some .int) 8 0 0 [.ref (ad 0), .int a0] (wX X ad F R) (fun r w => ∃ (F' : Nat → Int32) (R' : Nat → Nat → Int32), w = wX X ad F' R' ∧ g_ok LK_wX F' ∧ g_okR LA_wX R' ∧ g_fr md_X10_tried F F' ∧ g_fr mr_X10_tried R R' ∧ jv (-2147483648) 2147483647 r ∧ (r, F', R') = sp_X10_tried F R a0) := by
  refine g_mi (by decide +kernel) (Nat.le_of_ble_eq_true rfl) (fun E cx hret => ?_)
  obtain ⟨SP, hSP⟩ : ∃ z, z = sp_X10_tried F R a0 := ⟨_, rfl⟩
  have hk0 := hSP
  unfold sp_X10_tried at hk0
  refine g_aload_n cx 0 rfl e_X10_tried_0 ?_
  refine g_cVvW cx [] [] (w_X10_tryDrawn l X ad F R hI hA) ml_X10_133 yV_X10_tryDrawn e_X10_tried_1 (by unfold g_rr; decide) (by decide) 0 rfl rfl rfl (Nat.le_of_ble_eq_true rfl) (fun w2 h3 => ?_)
  obtain ⟨F5, R6, rfl, oF5, oR6, cF5, cR6, hx4⟩ := h3
  have hk7 := k_ls2 hk0 hx4
  have fF5 : g_fr md_X10_tried F F5 := g_fr_c (g_fr_rf F) cF5 rfl
  have fR6 : g_fr mr_X10_tried R R6 := g_fr_c (g_fr_rf R) cR6 rfl
  refine g_aload_n cx 0 rfl e_X10_tried_4 ?_
  refine g_get cx cl_X10 fl_X10_66 0 (.ref (ad 37)) e_X10_tried_5 rfl rfl ?_
  refine g_getN cx cl_X0 fn_X10_136 37 (.ref (ad 43)) e_X10_tried_8 rfl rfl ?_
  refine g_iload_n cx 1 rfl e_X10_tried_11 ?_
  refine g_cViW cx [.int a0] [] (w_X4_tell l X ad F5 R6 oF5 oR6 a0) ml_X10_142 yV_X4_tell e_X10_tried_12 (by unfold g_rr; decide) (by decide) 43 rfl rfl rfl (Nat.le_of_ble_eq_true rfl) (fun r8 w9 h10 => ?_)
  obtain ⟨rfl, pr8, hx11⟩ := h10
  have hk12 := k_ls hk7 hx11
  exact hret e_X10_tried_15 (Nat.le_of_ble_eq_true rfl) (Nat.le_of_ble_eq_true rfl) rfl ⟨F5, R6, rfl, oF5, oR6, fF5, fR6, pr8, (hk12.symm.trans hSP)⟩
def sp_X10_still (F : Nat → Int32) (R : Nat → Nat → Int32) (a0 : Int32) : Int32 × (Nat → Int32) × (Nat → Nat → Int32) :=
  k_lt2 (sp_X7_lay_r1_r11 F R) (fun F5 R6 => k_lt2 (sp_X0_run F5 R6) (fun F12 R13 => k_lt (sp_X4_tell F12 R13 a0) (fun r15 => (r15, F12, R13))))
theorem e_X10_still_0 : g_dc cX10_still 0 (.aload_n 0) 1 1 := ⟨by decide +kernel, rfl⟩
theorem e_X10_still_1 : g_dc cX10_still 1 (.getfield 58) 3 4 := ⟨by decide +kernel, rfl⟩
theorem e_X10_still_4 : g_dc cX10_still 4 (.aload_n 0) 1 5 := ⟨by decide +kernel, rfl⟩
theorem e_X10_still_5 : g_dc cX10_still 5 (.getfield 10) 3 8 := ⟨by decide +kernel, rfl⟩
theorem e_X10_still_8 : g_dc cX10_still 8 (.aload_n 0) 1 9 := ⟨by decide +kernel, rfl⟩
theorem e_X10_still_9 : g_dc cX10_still 9 (.getfield 29) 3 12 := ⟨by decide +kernel, rfl⟩
theorem e_X10_still_12 : g_dc cX10_still 12 (.invokevirtual 148) 3 15 := ⟨by decide +kernel, rfl⟩
theorem e_X10_still_15 : g_dc cX10_still 15 (.aload_n 0) 1 16 := ⟨by decide +kernel, rfl⟩
theorem e_X10_still_16 : g_dc cX10_still 16 (.getfield 66) 3 19 := ⟨by decide +kernel, rfl⟩
theorem e_X10_still_19 : g_dc cX10_still 19 (.invokevirtual 152) 3 22 := ⟨by decide +kernel, rfl⟩
theorem e_X10_still_22 : g_dc cX10_still 22 (.aload_n 0) 1 23 := ⟨by decide +kernel, rfl⟩
theorem e_X10_still_23 : g_dc cX10_still 23 (.getfield 66) 3 26 := ⟨by decide +kernel, rfl⟩
theorem e_X10_still_26 : g_dc cX10_still 26 (.getfield 136) 3 29 := ⟨by decide +kernel, rfl⟩
theorem e_X10_still_29 : g_dc cX10_still 29 (.iload_n 1) 1 30 := ⟨by decide +kernel, rfl⟩
theorem e_X10_still_30 : g_dc cX10_still 30 (.invokevirtual 142) 3 33 := ⟨by decide +kernel, rfl⟩
theorem e_X10_still_33 : g_dc cX10_still 33 (.ireturn) 1 34 := ⟨by decide +kernel, rfl⟩
def md_X10_still : List Nat := [80, 81, 82, 83, 84, 241, 601, 602, 603, 604, 605, 606, 672, 673, 674, 675, 691, 692, 693, 694, 695, 696, 697, 698]
def mr_X10_still : List Nat := [6, 16, 23, 24, 38, 39, 40, 41, 44, 45, 46]
set_option maxHeartbeats 4000000 in
set_option maxRecDepth 100000 in
theorem w_X10_still (l : Launch) (X : gX) (ad : Nat → Nat) (F : Nat → Int32) (R : Nat → Nat → Int32) (hI : g_ok LK_wX F) (hA : g_okR LA_wX R) (a0 : Int32) : g_Ci l X yX10_still cX10_still 2 (some .int) 7 0 0 [.ref (ad 0), .int a0] (wX X ad F R) (fun r w => ∃ (F' : Nat → Int32) (R' : Nat → Nat → Int32), w = wX X ad F' R' ∧ g_ok LK_wX F' ∧ g_okR LA_wX R' ∧ g_fr md_X10_still F F' ∧ g_fr mr_X10_still R R' ∧ jv (-2147483648) 2147483647 r ∧ (r, F', R') = sp_X10_still F R a0) := by
  refine g_mi (by decide +kernel) (Nat.le_of_ble_eq_true rfl) (fun E cx hret => ?_)
  obtain ⟨SP, hSP⟩ : ∃ z, z = sp_X10_still F R a0 := ⟨_, rfl⟩
  have hk0 := hSP
  unfold sp_X10_still at hk0
  refine g_aload_n cx 0 rfl e_X10_still_0 ?_
  refine g_get cx cl_X10 fl_X10_58 0 (.ref (ad 35)) e_X10_still_1 rfl rfl ?_
  refine g_aload_n cx 0 rfl e_X10_still_4 ?_
  refine g_get cx cl_X10 fl_X10_10 0 (.ref (ad 1)) e_X10_still_5 rfl rfl ?_
  refine g_aload_n cx 0 rfl e_X10_still_8 ?_
  refine g_get cx cl_X10 fl_X10_29 0 (.ref (ad 11)) e_X10_still_9 rfl rfl ?_
  refine g_cVvW cx [.ref (ad 1), .ref (ad 11)] [] (w_X7_lay_r1_r11 l X ad F R hI hA) ml_X10_148 yV_X7_lay e_X10_still_12 (by unfold g_rr; decide) (by decide) 35 rfl rfl rfl (Nat.le_of_ble_eq_true rfl) (fun w2 h3 => ?_)
  obtain ⟨F5, R6, rfl, oF5, oR6, cF5, cR6, hx4⟩ := h3
  have hk7 := k_ls2 hk0 hx4
  have fF5 : g_fr md_X10_still F F5 := g_fr_c (g_fr_rf F) cF5 rfl
  have fR6 : g_fr mr_X10_still R R6 := g_fr_c (g_fr_rf R) cR6 rfl
  refine g_aload_n cx 0 rfl e_X10_still_15 ?_
  refine g_get cx cl_X10 fl_X10_66 0 (.ref (ad 37)) e_X10_still_16 rfl rfl ?_
  refine g_cVvW cx [] [] (w_X0_run l X ad F5 R6 oF5 oR6) ml_X10_152 yV_X0_run e_X10_still_19 (by unfold g_rr; decide) (by decide) 37 rfl rfl rfl (Nat.le_of_ble_eq_true rfl) (fun w9 h10 => ?_)
  obtain ⟨F12, R13, rfl, oF12, oR13, cF12, cR13, hx11⟩ := h10
  have hk14 := k_ls2 hk7 hx11
  have fF12 : g_fr md_X10_still F F12 := g_fr_c fF5 cF12 rfl
  have fR13 : g_fr mr_X10_still R R13 := g_fr_c fR6 cR13 rfl
  refine g_aload_n cx 0 rfl e_X10_still_22 ?_
  refine g_get cx cl_X10 fl_X10_66 0 (.ref (ad 37)) e_X10_still_23 rfl rfl ?_
  refine g_getN cx cl_X0 fn_X10_136 37 (.ref (ad 43)) e_X10_still_26 rfl rfl ?_
  refine g_iload_n cx 1 rfl e_X10_still_29 ?_
  refine g_cViW cx [.int a0] [] (w_X4_tell l X ad F12 R13 oF12 oR13 a0) ml_X10_142 yV_X4_tell e_X10_still_30 (by unfold g_rr; decide) (by decide) 43 rfl rfl rfl (Nat.le_of_ble_eq_true rfl) (fun r15 w16 h17 => ?_)
  obtain ⟨rfl, pr15, hx18⟩ := h17
  have hk19 := k_ls hk14 hx18
  exact hret e_X10_still_33 (Nat.le_of_ble_eq_true rfl) (Nat.le_of_ble_eq_true rfl) rfl ⟨F12, R13, rfl, oF12, oR13, fF12, fR13, pr15, (hk19.symm.trans hSP)⟩
def sp_X10_done (F : Nat → Int32) (R : Nat → Nat → Int32) : Int32 × (Nat → Int32) × (Nat → Nat → Int32) :=
  if (F 177) = 0 then ((-1), F, R) else k_lt2 (sp_X10_tryDrawn F R) (fun F8 R9 => k_lt2 (sp_X4_leave_r1 F8 R9) (fun F15 R16 => k_lt (upd F15 20 (F8 673)) (fun F18 => k_lt (sp_X4_standing F18 R16) (fun r20 => (r20, F18, R16)))))
theorem e_X10_done_0 : g_dc cX10_done 0 (.aload_n 0) 1 1 := ⟨by decide +kernel, rfl⟩
theorem e_X10_done_1 : g_dc cX10_done 1 (.getfield 29) 3 4 := ⟨by decide +kernel, rfl⟩
theorem e_X10_done_4 : g_dc cX10_done 4 (.getfield 124) 3 7 := ⟨by decide +kernel, rfl⟩
theorem e_X10_done_7 : g_dc cX10_done 7 (.ifCond .ne 5) 3 10 := ⟨by decide +kernel, rfl⟩
theorem e_X10_done_10 : g_dc cX10_done 10 (.iconst (-1)) 1 11 := ⟨by decide +kernel, rfl⟩
theorem e_X10_done_11 : g_dc cX10_done 11 (.ireturn) 1 12 := ⟨by decide +kernel, rfl⟩
theorem e_X10_done_12 : g_dc cX10_done 12 (.aload_n 0) 1 13 := ⟨by decide +kernel, rfl⟩
theorem e_X10_done_13 : g_dc cX10_done 13 (.invokevirtual 133) 3 16 := ⟨by decide +kernel, rfl⟩
theorem e_X10_done_16 : g_dc cX10_done 16 (.aload_n 0) 1 17 := ⟨by decide +kernel, rfl⟩
theorem e_X10_done_17 : g_dc cX10_done 17 (.getfield 66) 3 20 := ⟨by decide +kernel, rfl⟩
theorem e_X10_done_20 : g_dc cX10_done 20 (.getfield 136) 3 23 := ⟨by decide +kernel, rfl⟩
theorem e_X10_done_23 : g_dc cX10_done 23 (.aload_n 0) 1 24 := ⟨by decide +kernel, rfl⟩
theorem e_X10_done_24 : g_dc cX10_done 24 (.getfield 10) 3 27 := ⟨by decide +kernel, rfl⟩
theorem e_X10_done_27 : g_dc cX10_done 27 (.invokevirtual 155) 3 30 := ⟨by decide +kernel, rfl⟩
theorem e_X10_done_30 : g_dc cX10_done 30 (.aload_n 0) 1 31 := ⟨by decide +kernel, rfl⟩
theorem e_X10_done_31 : g_dc cX10_done 31 (.getfield 10) 3 34 := ⟨by decide +kernel, rfl⟩
theorem e_X10_done_34 : g_dc cX10_done 34 (.aload_n 0) 1 35 := ⟨by decide +kernel, rfl⟩
theorem e_X10_done_35 : g_dc cX10_done 35 (.getfield 66) 3 38 := ⟨by decide +kernel, rfl⟩
theorem e_X10_done_38 : g_dc cX10_done 38 (.getfield 159) 3 41 := ⟨by decide +kernel, rfl⟩
theorem e_X10_done_41 : g_dc cX10_done 41 (.getfield 163) 3 44 := ⟨by decide +kernel, rfl⟩
theorem e_X10_done_44 : g_dc cX10_done 44 (.putfield 168) 3 47 := ⟨by decide +kernel, rfl⟩
theorem e_X10_done_47 : g_dc cX10_done 47 (.aload_n 0) 1 48 := ⟨by decide +kernel, rfl⟩
theorem e_X10_done_48 : g_dc cX10_done 48 (.getfield 66) 3 51 := ⟨by decide +kernel, rfl⟩
theorem e_X10_done_51 : g_dc cX10_done 51 (.getfield 136) 3 54 := ⟨by decide +kernel, rfl⟩
theorem e_X10_done_54 : g_dc cX10_done 54 (.invokevirtual 169) 3 57 := ⟨by decide +kernel, rfl⟩
theorem e_X10_done_57 : g_dc cX10_done 57 (.ireturn) 1 58 := ⟨by decide +kernel, rfl⟩
def md_X10_done : List Nat := [17, 19, 20, 80, 81, 82, 83, 84, 241, 601, 602, 603, 604, 605, 606, 672, 673, 674, 675, 691, 692, 693, 694, 695, 696, 697, 698]
def mr_X10_done : List Nat := [2, 6, 16, 23, 24, 38, 39, 40, 41, 44, 45, 46]
set_option maxHeartbeats 4000000 in
set_option maxRecDepth 100000 in
theorem w_X10_done (l : Launch) (X : gX) (ad : Nat → Nat) (F : Nat → Int32) (R : Nat → Nat → Int32) (hI : g_ok LK_wX F) (hA : g_okR LA_wX R) : g_Ci l X yX10_done cX10_done 1 (some .int) 8 0 0 [.ref (ad 0)] (wX X ad F R) (fun r w => ∃ (F' : Nat → Int32) (R' : Nat → Nat → Int32), w = wX X ad F' R' ∧ g_ok LK_wX F' ∧ g_okR LA_wX R' ∧ g_fr md_X10_done F F' ∧ g_fr mr_X10_done R R' ∧ jv (-1) 63 r ∧ (r, F', R') = sp_X10_done F R) := by
  refine g_mi (by decide +kernel) (Nat.le_of_ble_eq_true rfl) (fun E cx hret => ?_)
  obtain ⟨SP, hSP⟩ : ∃ z, z = sp_X10_done F R := ⟨_, rfl⟩
  have hk0 := hSP
  unfold sp_X10_done at hk0
  refine g_aload_n cx 0 rfl e_X10_done_0 ?_
  refine g_get cx cl_X10 fl_X10_29 0 (.ref (ad 11)) e_X10_done_1 rfl rfl ?_
  refine g_getN cx cl_X5 fn_X10_124 11 (.int (F 177)) e_X10_done_4 rfl rfl ?_
  refine g_if_ne cx 12 e_X10_done_7 (by decide) (fun zc1 => ?_) (fun zc1 => ?_)
  · have p2 := gn_neL 1 60 (gc_ne zc1) (g_ok_g hI 2 rfl) (jv_k (x := 0) 0 (by decide)) (by decide)
    have hk3 := hk0.trans (if_neg zc1)
    refine g_aload_n cx 0 rfl e_X10_done_12 ?_
    refine g_cVvW cx [] [] (w_X10_tryDrawn l X ad F R hI hA) ml_X10_133 yV_X10_tryDrawn e_X10_done_13 (by unfold g_rr; decide) (by decide) 0 rfl rfl rfl (Nat.le_of_ble_eq_true rfl) (fun w5 h6 => ?_)
    obtain ⟨F8, R9, rfl, oF8, oR9, cF8, cR9, hx7⟩ := h6
    have hk10 := k_ls2 hk3 hx7
    have fF8 : g_fr md_X10_done F F8 := g_fr_c (g_fr_rf F) cF8 rfl
    have fR9 : g_fr mr_X10_done R R9 := g_fr_c (g_fr_rf R) cR9 rfl
    refine g_aload_n cx 0 rfl e_X10_done_16 ?_
    refine g_get cx cl_X10 fl_X10_66 0 (.ref (ad 37)) e_X10_done_17 rfl rfl ?_
    refine g_getN cx cl_X0 fn_X10_136 37 (.ref (ad 43)) e_X10_done_20 rfl rfl ?_
    refine g_aload_n cx 0 rfl e_X10_done_23 ?_
    refine g_get cx cl_X10 fl_X10_10 0 (.ref (ad 1)) e_X10_done_24 rfl rfl ?_
    refine g_cVvW cx [.ref (ad 1)] [] (w_X4_leave_r1 l X ad F8 R9 oF8 oR9) ml_X10_155 yV_X4_leave e_X10_done_27 (by unfold g_rr; decide) (by decide) 43 rfl rfl rfl (Nat.le_of_ble_eq_true rfl) (fun w12 h13 => ?_)
    obtain ⟨F15, R16, rfl, oF15, oR16, cF15, cR16, hx14⟩ := h13
    have hk17 := k_ls2 hk10 hx14
    have fF15 : g_fr md_X10_done F F15 := g_fr_c fF8 cF15 rfl
    have fR16 : g_fr mr_X10_done R R16 := g_fr_c fR9 cR16 rfl
    refine g_aload_n cx 0 rfl e_X10_done_30 ?_
    refine g_get cx cl_X10 fl_X10_10 0 (.ref (ad 1)) e_X10_done_31 rfl rfl ?_
    refine g_aload_n cx 0 rfl e_X10_done_34 ?_
    refine g_get cx cl_X10 fl_X10_66 0 (.ref (ad 37)) e_X10_done_35 rfl rfl ?_
    refine g_getN cx cl_X0 fn_X10_159 37 (.ref (ad 42)) e_X10_done_38 rfl rfl ?_
    refine g_getN cx cl_X1 fn_X10_163 42 (.int (F15 673)) e_X10_done_41 rfl rfl ?_
    refine g_toi (F8 673) (cF15 673 rfl) ?_
    refine g_putN cx cl_X8 fn_X10_168 1 (wX X ad (upd F15 20 (F8 673)) R16) e_X10_done_44 rfl rfl rfl rfl (Nat.le_of_ble_eq_true rfl) rfl ?_
    obtain ⟨F18, hF18⟩ : ∃ z, z = upd F15 20 (F8 673) := ⟨_, rfl⟩
    rw [← hF18]
    have hk19 := k_ls hk17 hF18
    have oF18 : g_ok LK_wX F18 := by rw [hF18]; exact g_ok_u oF15 rfl
    have fF18 : g_fr md_X10_done F F18 := by rw [hF18]; exact g_fr_u fF15 rfl
    refine g_aload_n cx 0 rfl e_X10_done_47 ?_
    refine g_get cx cl_X10 fl_X10_66 0 (.ref (ad 37)) e_X10_done_48 rfl rfl ?_
    refine g_getN cx cl_X0 fn_X10_136 37 (.ref (ad 43)) e_X10_done_51 rfl rfl ?_
    refine g_cViW cx [] [] (w_X4_standing l X ad F18 R16 oF18 oR16) ml_X10_169 yV_X4_standing e_X10_done_54 (by unfold g_rr; decide) (by decide) 43 rfl rfl rfl (Nat.le_of_ble_eq_true rfl) (fun r20 w21 h22 => ?_)
    obtain ⟨rfl, pr20, hx23⟩ := h22
    have hk24 := k_ls hk19 hx23
    exact hret e_X10_done_57 (Nat.le_of_ble_eq_true rfl) (Nat.le_of_ble_eq_true rfl) rfl ⟨F18, R16, rfl, oF18, oR16, fF18, fR16, (jv_w pr20 (by decide)), (hk24.symm.trans hSP)⟩
  · have p25 := gn_eq 0 0 (gc_eq zc1) (g_ok_g hI 2 rfl) (jv_k (x := 0) 0 (by decide)) (by decide)
    have hk26 := hk0.trans (if_pos zc1)
    refine g_iconst cx (-1) (by decide) e_X10_done_10 ?_
    exact hret e_X10_done_11 (Nat.le_of_ble_eq_true rfl) (Nat.le_of_ble_eq_true rfl) rfl ⟨F, R, rfl, hI, hA, (g_fr_rf F), (g_fr_rf R), (jv_w (jv_k (x := (-1)) (-1) (by decide)) (by decide)), (hk26.symm.trans hSP)⟩
def K_X5_add_15_42 (F2 : Nat → Int32) (R3 : Nat → Nat → Int32)  : (Nat → Int32) × (Nat → Nat → Int32) :=
  (F2, R3)
def KB_X5_add_15_2 (b2 : (Nat → Int32) → (Nat → Nat → Int32) → (Int32) → (Nat → Int32) × (Nat → Nat → Int32)) (a0 : Int32) (a1 : Int32) (F2 : Nat → Int32) (R3 : Nat → Nat → Int32) (y1 : Int32) : (Nat → Int32) × (Nat → Nat → Int32) :=
  if a1 ≤ y1 then K_X5_add_15_42 F2 R3 else if 60 ≤ (F2 241) then K_X5_add_15_42 F2 R3 else k_lt (g_u R3 16 (upd (R3 16) (Int32.toNatClampNeg (F2 241)) a0)) (fun R14 => k_lt ((F2 241) + 1) (fun x16 => k_lt (upd F2 241 x16) (fun F18 => k_lt (y1 + 1) (fun x20 => b2 F18 R14 x20))))
def K_X5_add_15_2 (a0 : Int32) (a1 : Int32) : Nat → (Nat → Int32) → (Nat → Nat → Int32) → (Int32) → (Nat → Int32) × (Nat → Nat → Int32)
  | 0 => fun F2 R3 _ => (F2, R3)
  | n + 1 => KB_X5_add_15_2 (K_X5_add_15_2 a0 a1 n) a0 a1
def sp_X5_add_15 (F : Nat → Int32) (R : Nat → Nat → Int32) (a0 : Int32) (a1 : Int32) : (Nat → Int32) × (Nat → Nat → Int32) :=
  K_X5_add_15_2 a0 a1 8589934592 F R 0
def md_X5_add_15 : List Nat := [241]
def mr_X5_add_15 : List Nat := [16]
set_option maxHeartbeats 4000000 in
set_option maxRecDepth 100000 in
theorem w_X5_add_15 (l : Launch) (X : gX) (ad : Nat → Nat) (F : Nat → Int32) (R : Nat → Nat → Int32) (hI : g_ok LK_wX F) (hA : g_okR LA_wX R) (a0 : Int32) (a1 : Int32) : g_Cv l X yX5_add cX5_add 4 1 0 0 [.ref (ad 15), .int a0, .int a1] (wX X ad F R) (fun w => ∃ (F' : Nat → Int32) (R' : Nat → Nat → Int32), w = wX X ad F' R' ∧ g_ok LK_wX F' ∧ g_okR LA_wX R' ∧ g_fr md_X5_add_15 F F' ∧ g_fr mr_X5_add_15 R R' ∧ (F', R') = sp_X5_add_15 F R a0 a1) := by
  refine g_mv (by decide +kernel) (Nat.le_of_ble_eq_true rfl) (fun E cx hret => ?_)
  obtain ⟨SP, hSP⟩ : ∃ z, z = sp_X5_add_15 F R a0 a1 := ⟨_, rfl⟩
  have hk0 := hSP
  unfold sp_X5_add_15 at hk0
  refine g_iconst cx 0 (by decide) e_X5_add_0 ?_
  refine g_istore_n cx [(3, .int 0), (0, .ref (ad 15)), (1, .int a0), (2, .int a1)] e_X5_add_1 (by decide) rfl ?_
  have J2 : ∀ (N : Nat) (F2 : Nat → Int32) (R3 : Nat → Nat → Int32) (y1 : Int32), (g_ok LK_wX F2) → (g_fr md_X5_add_15 F F2) → (g_okR LA_wX R3) → (g_fr mr_X5_add_15 R R3) → (jv 0 2147483647 y1) → (SP = K_X5_add_15_2 a0 a1 N F2 R3 y1) → (2147483647 - y1.toInt).toNat < N → G X E 4 0 0 (wX X ad F2 R3) [(0, .ref (ad 15)), (1, .int a0), (2, .int a1), (3, .int y1)] 2 [] := by
    intro N
    induction N with
    | zero => intro F2 R3 y1 oF2 fF2 oR3 fR3 py1 hkJ2 hm; exact absurd hm (Nat.not_lt_zero _)
    | succ N ih2 =>
      intro F2 R3 y1 oF2 fF2 oR3 fR3 py1 hkJ2 hm2
      have hkK2 : SP = KB_X5_add_15_2 (K_X5_add_15_2 a0 a1 N) a0 a1 F2 R3 y1 := hkJ2
      obtain ⟨b2, hb2⟩ : ∃ z, z = K_X5_add_15_2 a0 a1 N := ⟨_, rfl⟩
      rw [← hb2] at hkK2
      unfold KB_X5_add_15_2 at hkK2
      refine g_iload_n cx 3 rfl e_X5_add_2 ?_
      refine g_iload_n cx 2 rfl e_X5_add_3 ?_
      have J42 : (SP = K_X5_add_15_42 F2 R3) → G X E 4 0 0 (wX X ad F2 R3) [] 42 [] := by
        intro   hkJ42
        unfold K_X5_add_15_42 at hkJ42
        exact hret e_X5_add_42 (Nat.le_of_ble_eq_true rfl) (Nat.le_of_ble_eq_true rfl) ⟨F2, R3, rfl, oF2, oR3, fF2, fR3, (hkJ42.symm.trans hSP)⟩
      refine g_icmp_ge cx 42 e_X5_add_4 (by decide) (fun zc4 => ?_) (fun zc4 => ?_)
      · have hk5 := hkK2.trans (if_pos zc4)
        refine g_lsub [] [] rfl ?_
        exact J42  hk5
      · have p6 := gn_lt 0 2147483646 (gc_nle zc4) py1 (jv_t a1) (by decide)
        have p7 := gn_gt 1 2147483647 (gc_nle zc4) (jv_t a1) py1 (by decide)
        have hk8 := hkK2.trans (if_neg zc4)
        refine g_aload_n cx 0 rfl e_X5_add_7 ?_
        refine g_get cx cl_X5 fl_X5_15 15 (.int (F2 241)) e_X5_add_8 rfl rfl ?_
        refine g_bipush cx 60 (by decide) e_X5_add_11 ?_
        refine g_icmp_ge cx 42 e_X5_add_13 (by decide) (fun zc9 => ?_) (fun zc9 => ?_)
        · have p10 := gn_ge 60 60 (gc_le zc9) (g_ok_g oF2 4 rfl) (jv_k (x := 60) 60 (by decide)) (by decide)
          have hk11 := hk8.trans (if_pos zc9)
          refine g_lsub [] [] rfl ?_
          exact J42  hk11
        · have p12 := gn_lt 0 59 (gc_nle zc9) (g_ok_g oF2 4 rfl) (jv_k (x := 60) 60 (by decide)) (by decide)
          have hk13 := hk8.trans (if_neg zc9)
          refine g_aload_n cx 0 rfl e_X5_add_16 ?_
          refine g_get cx cl_X5 fl_X5_9 15 (.ref (ad 16)) e_X5_add_17 rfl rfl ?_
          refine g_aload_n cx 0 rfl e_X5_add_20 ?_
          refine g_get cx cl_X5 fl_X5_15 15 (.int (F2 241)) e_X5_add_21 rfl rfl ?_
          refine g_iload_n cx 1 rfl e_X5_add_24 ?_
          refine g_iast cx 16 (wX X ad F2 (g_u R3 16 (upd (R3 16) (Int32.toNatClampNeg (F2 241)) a0))) e_X5_add_25 rfl (jv_ix 60 p12 (by decide)) rfl ?_
          obtain ⟨R14, hR14⟩ : ∃ z, z = g_u R3 16 (upd (R3 16) (Int32.toNatClampNeg (F2 241)) a0) := ⟨_, rfl⟩
          rw [← hR14]
          have hk15 := k_ls hk13 hR14
          have oR14 : g_okR LA_wX R14 := by rw [hR14]; exact g_okR_u oR3 rfl
          have fR14 : g_fr mr_X5_add_15 R R14 := by rw [hR14]; exact g_fr_r fR3 rfl
          refine g_aload_n cx 0 rfl e_X5_add_26 ?_
          refine g_dup cx rfl e_X5_add_27 ?_
          refine g_get cx cl_X5 fl_X5_15 15 (.int (F2 241)) e_X5_add_28 rfl rfl ?_
          refine g_iconst cx 1 (by decide) e_X5_add_31 ?_
          refine g_iadd cx e_X5_add_32 ?_
          refine g_topi (fun x16 ex16 => ?_)
          have hk17 := k_ls hk15 ex16
          have zx16 := jv_add 1 60 ex16 p12 (jv_k (x := 1) 1 (by decide)) (by decide)
          refine g_put cx cl_X5 fl_X5_15 15 (wX X ad (upd F2 241 x16) R14) e_X5_add_33 rfl rfl rfl rfl (Nat.le_of_ble_eq_true rfl) rfl ?_
          obtain ⟨F18, hF18⟩ : ∃ z, z = upd F2 241 x16 := ⟨_, rfl⟩
          rw [← hF18]
          have hk19 := k_ls hk17 hF18
          have oF18 : g_ok LK_wX F18 := by rw [hF18]; exact g_ok_p oF2 zx16.2 rfl
          have fF18 : g_fr md_X5_add_15 F F18 := by rw [hF18]; exact g_fr_u fF2 rfl
          obtain ⟨x20, ex20⟩ : ∃ z : Int32, z = y1 + Int32.ofInt 1 := ⟨_, rfl⟩
          have hk21 := k_ls hk19 (show x20 = y1 + 1 from ex20)
          refine g_iinc cx x20 [(3, .int x20), (0, .ref (ad 15)), (1, .int a0), (2, .int a1)] 3 e_X5_add_36 rfl ex20.symm (by decide) rfl ?_
          have zx20 := jv_add 1 2147483647 (show x20 = y1 + 1 from ex20) p6 (jv_k (x := 1) 1 (by decide)) (by decide)
          refine g_goto cx 2 e_X5_add_39 (by decide) ?_
          refine g_lsub [1, 2, 3, 0] [(0, .ref (ad 15)), (1, .int a0), (2, .int a1), (3, .int x20)] rfl ?_
          exact ih2 F18 R14 x20 oF18 fF18 oR14 fR14 (jv_w zx20.2 (by decide)) (hk21.trans (by rw [hb2])) (Nat.lt_of_lt_of_le (show (2147483647 - x20.toInt).toNat < (2147483647 - y1.toInt).toNat from by have q0 := (jv_k (x := 1) 1 (by decide)).1; have q1 := (jv_k (x := 1) 1 (by decide)).2; have q2 := (jv_k (x := 60) 60 (by decide)).1; have q3 := (jv_k (x := 60) 60 (by decide)).2; have q4 := p12.1; have q5 := p12.2; have q6 := p7.1; have q7 := p7.2; have q8 := zx16.2.1; have q9 := zx16.2.2; have q10 := zx20.2.1; have q11 := zx20.2.2; have q12 := p6.1; have q13 := p6.2; have q14 := (gc_nle zc4); have q15 := (gc_nle zc9); have q16 := (g_eq0 zx16.1); have q17 := (g_eq0 zx20.1); omega) (Nat.le_of_lt_succ hm2))
  refine g_lsub [1, 2, 3, 0] [(0, .ref (ad 15)), (1, .int a0), (2, .int a1), (3, .int 0)] rfl ?_
  exact J2 8589934592 F R 0 hI (g_fr_rf F) hA (g_fr_rf R) (jv_w (jv_k (x := 0) 0 (by decide)) (by decide)) hk0 (show (2147483647 - (0 : Int32).toInt).toNat < 8589934592 from by have q0 := (jv_k (x := 0) 0 (by decide)).1; have q1 := (jv_k (x := 0) 0 (by decide)).2; omega)
def K_X5_addTill_15_20  (F1 : Nat → Int32) (R2 : Nat → Nat → Int32) : (Nat → Int32) × (Nat → Nat → Int32) :=
  (F1, R2)
def sp_X5_addTill_15 (F : Nat → Int32) (R : Nat → Nat → Int32) (a0 : Int32) (a1 : Int32) : (Nat → Int32) × (Nat → Nat → Int32) :=
  if a0 ≤ 0 then K_X5_addTill_15_20 F R else if a1 ≤ 0 then K_X5_addTill_15_20 F R else k_lt (a1 + a0) (fun x13 => k_lt (x13 - 1) (fun x15 => k_lt (x15 / a0) (fun x17 => k_lt2 (sp_X5_add_15 F R a0 x17) (fun F23 R24 => K_X5_addTill_15_20 F23 R24))))
theorem e_X5_addTill_0 : g_dc cX5_addTill 0 (.iload_n 1) 1 1 := ⟨by decide +kernel, rfl⟩
theorem e_X5_addTill_1 : g_dc cX5_addTill 1 (.ifCond .le 19) 3 4 := ⟨by decide +kernel, rfl⟩
theorem e_X5_addTill_4 : g_dc cX5_addTill 4 (.iload_n 2) 1 5 := ⟨by decide +kernel, rfl⟩
theorem e_X5_addTill_5 : g_dc cX5_addTill 5 (.ifCond .le 15) 3 8 := ⟨by decide +kernel, rfl⟩
theorem e_X5_addTill_8 : g_dc cX5_addTill 8 (.aload_n 0) 1 9 := ⟨by decide +kernel, rfl⟩
theorem e_X5_addTill_9 : g_dc cX5_addTill 9 (.iload_n 1) 1 10 := ⟨by decide +kernel, rfl⟩
theorem e_X5_addTill_10 : g_dc cX5_addTill 10 (.iload_n 2) 1 11 := ⟨by decide +kernel, rfl⟩
theorem e_X5_addTill_11 : g_dc cX5_addTill 11 (.iload_n 1) 1 12 := ⟨by decide +kernel, rfl⟩
theorem e_X5_addTill_12 : g_dc cX5_addTill 12 (.iadd) 1 13 := ⟨by decide +kernel, rfl⟩
theorem e_X5_addTill_13 : g_dc cX5_addTill 13 (.iconst 1) 1 14 := ⟨by decide +kernel, rfl⟩
theorem e_X5_addTill_14 : g_dc cX5_addTill 14 (.isub) 1 15 := ⟨by decide +kernel, rfl⟩
theorem e_X5_addTill_15 : g_dc cX5_addTill 15 (.iload_n 1) 1 16 := ⟨by decide +kernel, rfl⟩
theorem e_X5_addTill_16 : g_dc cX5_addTill 16 (.idiv) 1 17 := ⟨by decide +kernel, rfl⟩
theorem e_X5_addTill_17 : g_dc cX5_addTill 17 (.invokevirtual 25) 3 20 := ⟨by decide +kernel, rfl⟩
theorem e_X5_addTill_20 : g_dc cX5_addTill 20 (.return_) 1 21 := ⟨by decide +kernel, rfl⟩
def md_X5_addTill_15 : List Nat := [241]
def mr_X5_addTill_15 : List Nat := [16]
set_option maxHeartbeats 4000000 in
set_option maxRecDepth 100000 in
theorem w_X5_addTill_15 (l : Launch) (X : gX) (ad : Nat → Nat) (F : Nat → Int32) (R : Nat → Nat → Int32) (hI : g_ok LK_wX F) (hA : g_okR LA_wX R) (a0 : Int32) (a1 : Int32) : g_Cv l X yX5_addTill cX5_addTill 3 2 0 0 [.ref (ad 15), .int a0, .int a1] (wX X ad F R) (fun w => ∃ (F' : Nat → Int32) (R' : Nat → Nat → Int32), w = wX X ad F' R' ∧ g_ok LK_wX F' ∧ g_okR LA_wX R' ∧ g_fr md_X5_addTill_15 F F' ∧ g_fr mr_X5_addTill_15 R R' ∧ (F', R') = sp_X5_addTill_15 F R a0 a1) := by
  refine g_mv (by decide +kernel) (Nat.le_of_ble_eq_true rfl) (fun E cx hret => ?_)
  obtain ⟨SP, hSP⟩ : ∃ z, z = sp_X5_addTill_15 F R a0 a1 := ⟨_, rfl⟩
  have hk0 := hSP
  unfold sp_X5_addTill_15 at hk0
  refine g_iload_n cx 1 rfl e_X5_addTill_0 ?_
  have J20 : ∀ (F1 : Nat → Int32) (R2 : Nat → Nat → Int32), (g_ok LK_wX F1) → (g_fr md_X5_addTill_15 F F1) → (g_okR LA_wX R2) → (g_fr mr_X5_addTill_15 R R2) → (SP = K_X5_addTill_15_20 F1 R2) → G X E 3 0 0 (wX X ad F1 R2) [] 20 [] := by
    intro F1 R2 oF1 fF1 oR2 fR2 hkJ20
    unfold K_X5_addTill_15_20 at hkJ20
    exact hret e_X5_addTill_20 (Nat.le_of_ble_eq_true rfl) (Nat.le_of_ble_eq_true rfl) ⟨F1, R2, rfl, oF1, oR2, fF1, fR2, (hkJ20.symm.trans hSP)⟩
  refine g_if_le cx 20 e_X5_addTill_1 (by decide) (fun zc3 => ?_) (fun zc3 => ?_)
  · have p4 := gn_le (-2147483648) 0 (gc_le zc3) (jv_t a0) (jv_k (x := 0) 0 (by decide)) (by decide)
    have hk5 := hk0.trans (if_pos zc3)
    refine g_lsub [] [] rfl ?_
    exact J20 F R hI (g_fr_rf F) hA (g_fr_rf R) hk5
  · have p6 := gn_gt 1 2147483647 (gc_nle zc3) (jv_t a0) (jv_k (x := 0) 0 (by decide)) (by decide)
    have hk7 := hk0.trans (if_neg zc3)
    refine g_iload_n cx 2 rfl e_X5_addTill_4 ?_
    refine g_if_le cx 20 e_X5_addTill_5 (by decide) (fun zc8 => ?_) (fun zc8 => ?_)
    · have p9 := gn_le (-2147483648) 0 (gc_le zc8) (jv_t a1) (jv_k (x := 0) 0 (by decide)) (by decide)
      have hk10 := hk7.trans (if_pos zc8)
      refine g_lsub [] [] rfl ?_
      exact J20 F R hI (g_fr_rf F) hA (g_fr_rf R) hk10
    · have p11 := gn_gt 1 2147483647 (gc_nle zc8) (jv_t a1) (jv_k (x := 0) 0 (by decide)) (by decide)
      have hk12 := hk7.trans (if_neg zc8)
      refine g_aload_n cx 0 rfl e_X5_addTill_8 ?_
      refine g_iload_n cx 1 rfl e_X5_addTill_9 ?_
      refine g_iload_n cx 2 rfl e_X5_addTill_10 ?_
      refine g_iload_n cx 1 rfl e_X5_addTill_11 ?_
      refine g_iadd cx e_X5_addTill_12 ?_
      refine g_topi (fun x13 ex13 => ?_)
      have hk14 := k_ls hk12 ex13
      refine g_iconst cx 1 (by decide) e_X5_addTill_13 ?_
      refine g_isub cx e_X5_addTill_14 ?_
      refine g_topi (fun x15 ex15 => ?_)
      have hk16 := k_ls hk14 ex15
      refine g_iload_n cx 1 rfl e_X5_addTill_15 ?_
      refine g_idiv cx (g_nz0 p6 (by decide)) e_X5_addTill_16 ?_
      refine g_topi (fun x17 ex17 => ?_)
      have hk18 := k_ls hk16 ex17
      refine g_cVvW cx [.int a0, .int x17] [] (w_X5_add_15 l X ad F R hI hA a0 x17) ml_X5_25 yV_X5_add e_X5_addTill_17 (by unfold g_rr; decide) (by decide) 15 rfl rfl rfl (Nat.le_of_ble_eq_true rfl) (fun w20 h21 => ?_)
      obtain ⟨F23, R24, rfl, oF23, oR24, cF23, cR24, hx22⟩ := h21
      have hk25 := k_ls2 hk18 hx22
      have fF23 : g_fr md_X5_addTill_15 F F23 := g_fr_c (g_fr_rf F) cF23 rfl
      have fR24 : g_fr mr_X5_addTill_15 R R24 := g_fr_c (g_fr_rf R) cR24 rfl
      refine g_lsub [] [] rfl ?_
      exact J20 F23 R24 oF23 fF23 oR24 fR24 hk25
def sp_X5_even_15 (F : Nat → Int32) (R : Nat → Nat → Int32) (a0 : Int32) (a1 : Int32) : (Nat → Int32) × (Nat → Nat → Int32) :=
  k_lt (upd F 241 0) (fun F1 => k_lt2 (sp_X5_addTill_15 F1 R a0 a1) (fun F7 R8 => (F7, R8)))
theorem e_X5_even_0 : g_dc cX5_even 0 (.aload_n 0) 1 1 := ⟨by decide +kernel, rfl⟩
theorem e_X5_even_1 : g_dc cX5_even 1 (.iconst 0) 1 2 := ⟨by decide +kernel, rfl⟩
theorem e_X5_even_2 : g_dc cX5_even 2 (.putfield 15) 3 5 := ⟨by decide +kernel, rfl⟩
theorem e_X5_even_5 : g_dc cX5_even 5 (.aload_n 0) 1 6 := ⟨by decide +kernel, rfl⟩
theorem e_X5_even_6 : g_dc cX5_even 6 (.iload_n 1) 1 7 := ⟨by decide +kernel, rfl⟩
theorem e_X5_even_7 : g_dc cX5_even 7 (.iload_n 2) 1 8 := ⟨by decide +kernel, rfl⟩
theorem e_X5_even_8 : g_dc cX5_even 8 (.invokevirtual 29) 3 11 := ⟨by decide +kernel, rfl⟩
theorem e_X5_even_11 : g_dc cX5_even 11 (.return_) 1 12 := ⟨by decide +kernel, rfl⟩
def md_X5_even_15 : List Nat := [241]
def mr_X5_even_15 : List Nat := [16]
set_option maxHeartbeats 4000000 in
set_option maxRecDepth 100000 in
theorem w_X5_even_15 (l : Launch) (X : gX) (ad : Nat → Nat) (F : Nat → Int32) (R : Nat → Nat → Int32) (hI : g_ok LK_wX F) (hA : g_okR LA_wX R) (a0 : Int32) (a1 : Int32) : g_Cv l X yX5_even cX5_even 3 3 0 0 [.ref (ad 15), .int a0, .int a1] (wX X ad F R) (fun w => ∃ (F' : Nat → Int32) (R' : Nat → Nat → Int32), w = wX X ad F' R' ∧ g_ok LK_wX F' ∧ g_okR LA_wX R' ∧ g_fr md_X5_even_15 F F' ∧ g_fr mr_X5_even_15 R R' ∧ (F', R') = sp_X5_even_15 F R a0 a1) := by
  refine g_mv (by decide +kernel) (Nat.le_of_ble_eq_true rfl) (fun E cx hret => ?_)
  obtain ⟨SP, hSP⟩ : ∃ z, z = sp_X5_even_15 F R a0 a1 := ⟨_, rfl⟩
  have hk0 := hSP
  unfold sp_X5_even_15 at hk0
  refine g_aload_n cx 0 rfl e_X5_even_0 ?_
  refine g_iconst cx 0 (by decide) e_X5_even_1 ?_
  refine g_put cx cl_X5 fl_X5_15 15 (wX X ad (upd F 241 0) R) e_X5_even_2 rfl rfl rfl rfl (Nat.le_of_ble_eq_true rfl) rfl ?_
  obtain ⟨F1, hF1⟩ : ∃ z, z = upd F 241 0 := ⟨_, rfl⟩
  rw [← hF1]
  have hk2 := k_ls hk0 hF1
  have oF1 : g_ok LK_wX F1 := by rw [hF1]; exact g_ok_p hI (jv_k (x := 0) 0 (by decide)) rfl
  have fF1 : g_fr md_X5_even_15 F F1 := by rw [hF1]; exact g_fr_u (g_fr_rf F) rfl
  refine g_aload_n cx 0 rfl e_X5_even_5 ?_
  refine g_iload_n cx 1 rfl e_X5_even_6 ?_
  refine g_iload_n cx 2 rfl e_X5_even_7 ?_
  refine g_cVvW cx [.int a0, .int a1] [] (w_X5_addTill_15 l X ad F1 R oF1 hA a0 a1) ml_X5_29 yV_X5_addTill e_X5_even_8 (by unfold g_rr; decide) (by decide) 15 rfl rfl rfl (Nat.le_of_ble_eq_true rfl) (fun w4 h5 => ?_)
  obtain ⟨F7, R8, rfl, oF7, oR8, cF7, cR8, hx6⟩ := h5
  have hk9 := k_ls2 hk2 hx6
  have fF7 : g_fr md_X5_even_15 F F7 := g_fr_c fF1 cF7 rfl
  have fR8 : g_fr mr_X5_even_15 R R8 := g_fr_c (g_fr_rf R) cR8 rfl
  exact hret e_X5_even_11 (Nat.le_of_ble_eq_true rfl) (Nat.le_of_ble_eq_true rfl) ⟨F7, R8, rfl, oF7, oR8, fF7, fR8, (hk9.symm.trans hSP)⟩
def KB_X7_leastPace_2 (b2 : (Nat → Int32) → (Nat → Nat → Int32) → (Int32) → Int32 × (Nat → Int32) × (Nat → Nat → Int32)) (F : Nat → Int32) (F2 : Nat → Int32) (R3 : Nat → Nat → Int32) (y1 : Int32) : Int32 × (Nat → Int32) × (Nat → Nat → Int32) :=
  if 40 < y1 then ((-2), F2, R3) else k_lt2 (sp_X5_even_15 F2 R3 y1 (F 81)) (fun F13 R14 => k_lt2 (sp_X0_run F13 R14) (fun F20 R21 => k_lt (sp_X4_allStand F20 R21) (fun r23 => if r23 = 0 then k_lt (y1 + 1) (fun x31 => b2 F20 R21 x31) else (y1, F20, R21))))
def K_X7_leastPace_2 (F : Nat → Int32) : Nat → (Nat → Int32) → (Nat → Nat → Int32) → (Int32) → Int32 × (Nat → Int32) × (Nat → Nat → Int32)
  | 0 => fun F2 R3 _ => (0, F2, R3)
  | n + 1 => KB_X7_leastPace_2 (K_X7_leastPace_2 F n) F
def sp_X7_leastPace (F : Nat → Int32) (R : Nat → Nat → Int32) : Int32 × (Nat → Int32) × (Nat → Nat → Int32) :=
  K_X7_leastPace_2 F 8589934592 F R 1
theorem e_X7_leastPace_0 : g_dc cX7_leastPace 0 (.iconst 1) 1 1 := ⟨by decide +kernel, rfl⟩
theorem e_X7_leastPace_1 : g_dc cX7_leastPace 1 (.istore_n 1) 1 2 := ⟨by decide +kernel, rfl⟩
theorem e_X7_leastPace_2 : g_dc cX7_leastPace 2 (.iload_n 1) 1 3 := ⟨by decide +kernel, rfl⟩
theorem e_X7_leastPace_3 : g_dc cX7_leastPace 3 (.bipush 40) 2 5 := ⟨by decide +kernel, rfl⟩
theorem e_X7_leastPace_5 : g_dc cX7_leastPace 5 (.if_icmp .gt 43) 3 8 := ⟨by decide +kernel, rfl⟩
theorem e_X7_leastPace_8 : g_dc cX7_leastPace 8 (.aload_n 0) 1 9 := ⟨by decide +kernel, rfl⟩
theorem e_X7_leastPace_9 : g_dc cX7_leastPace 9 (.getfield 58) 3 12 := ⟨by decide +kernel, rfl⟩
theorem e_X7_leastPace_12 : g_dc cX7_leastPace 12 (.iload_n 1) 1 13 := ⟨by decide +kernel, rfl⟩
theorem e_X7_leastPace_13 : g_dc cX7_leastPace 13 (.aload_n 0) 1 14 := ⟨by decide +kernel, rfl⟩
theorem e_X7_leastPace_14 : g_dc cX7_leastPace 14 (.getfield 53) 3 17 := ⟨by decide +kernel, rfl⟩
theorem e_X7_leastPace_17 : g_dc cX7_leastPace 17 (.getfield 82) 3 20 := ⟨by decide +kernel, rfl⟩
theorem e_X7_leastPace_20 : g_dc cX7_leastPace 20 (.invokevirtual 85) 3 23 := ⟨by decide +kernel, rfl⟩
theorem e_X7_leastPace_23 : g_dc cX7_leastPace 23 (.aload_n 0) 1 24 := ⟨by decide +kernel, rfl⟩
theorem e_X7_leastPace_24 : g_dc cX7_leastPace 24 (.getfield 46) 3 27 := ⟨by decide +kernel, rfl⟩
theorem e_X7_leastPace_27 : g_dc cX7_leastPace 27 (.invokevirtual 89) 3 30 := ⟨by decide +kernel, rfl⟩
theorem e_X7_leastPace_30 : g_dc cX7_leastPace 30 (.aload_n 0) 1 31 := ⟨by decide +kernel, rfl⟩
theorem e_X7_leastPace_31 : g_dc cX7_leastPace 31 (.getfield 63) 3 34 := ⟨by decide +kernel, rfl⟩
theorem e_X7_leastPace_34 : g_dc cX7_leastPace 34 (.invokevirtual 92) 3 37 := ⟨by decide +kernel, rfl⟩
theorem e_X7_leastPace_37 : g_dc cX7_leastPace 37 (.ifCond .eq 5) 3 40 := ⟨by decide +kernel, rfl⟩
theorem e_X7_leastPace_40 : g_dc cX7_leastPace 40 (.iload_n 1) 1 41 := ⟨by decide +kernel, rfl⟩
theorem e_X7_leastPace_41 : g_dc cX7_leastPace 41 (.ireturn) 1 42 := ⟨by decide +kernel, rfl⟩
theorem e_X7_leastPace_42 : g_dc cX7_leastPace 42 (.iinc 1 1) 3 45 := ⟨by decide +kernel, rfl⟩
theorem e_X7_leastPace_45 : g_dc cX7_leastPace 45 (.goto (-43)) 3 48 := ⟨by decide +kernel, rfl⟩
theorem e_X7_leastPace_48 : g_dc cX7_leastPace 48 (.bipush (-2)) 2 50 := ⟨by decide +kernel, rfl⟩
theorem e_X7_leastPace_50 : g_dc cX7_leastPace 50 (.ireturn) 1 51 := ⟨by decide +kernel, rfl⟩
def md_X7_leastPace : List Nat := [241, 601, 602, 603, 604, 605, 606, 673, 675, 691, 692, 693, 694, 695, 696, 697, 698]
def mr_X7_leastPace : List Nat := [16, 23, 24, 38, 39, 40, 41, 44, 45, 46]
set_option maxHeartbeats 4000000 in
set_option maxRecDepth 100000 in
theorem w_X7_leastPace (l : Launch) (X : gX) (ad : Nat → Nat) (F : Nat → Int32) (R : Nat → Nat → Int32) (hI : g_ok LK_wX F) (hA : g_okR LA_wX R) : g_Ci l X yX7_leastPace cX7_leastPace 2 (some .int) 7 0 0 [.ref (ad 35)] (wX X ad F R) (fun r w => ∃ (F' : Nat → Int32) (R' : Nat → Nat → Int32), w = wX X ad F' R' ∧ g_ok LK_wX F' ∧ g_okR LA_wX R' ∧ g_fr md_X7_leastPace F F' ∧ g_fr mr_X7_leastPace R R' ∧ jv (-2) 40 r ∧ (r, F', R') = sp_X7_leastPace F R) := by
  refine g_mi (by decide +kernel) (Nat.le_of_ble_eq_true rfl) (fun E cx hret => ?_)
  obtain ⟨SP, hSP⟩ : ∃ z, z = sp_X7_leastPace F R := ⟨_, rfl⟩
  have hk0 := hSP
  unfold sp_X7_leastPace at hk0
  refine g_iconst cx 1 (by decide) e_X7_leastPace_0 ?_
  refine g_istore_n cx [(1, .int 1), (0, .ref (ad 35))] e_X7_leastPace_1 (by decide) rfl ?_
  have J2 : ∀ (N : Nat) (F2 : Nat → Int32) (R3 : Nat → Nat → Int32) (y1 : Int32), (g_ok LK_wX F2) → (g_fr md_X7_leastPace F F2) → (g_okR LA_wX R3) → (g_fr mr_X7_leastPace R R3) → (jv 1 41 y1) → (SP = K_X7_leastPace_2 F N F2 R3 y1) → (2147483647 - y1.toInt).toNat < N → G X E 2 0 0 (wX X ad F2 R3) [(0, .ref (ad 35)), (1, .int y1)] 2 [] := by
    intro N
    induction N with
    | zero => intro F2 R3 y1 oF2 fF2 oR3 fR3 py1 hkJ2 hm; exact absurd hm (Nat.not_lt_zero _)
    | succ N ih2 =>
      intro F2 R3 y1 oF2 fF2 oR3 fR3 py1 hkJ2 hm2
      have hkK2 : SP = KB_X7_leastPace_2 (K_X7_leastPace_2 F N) F F2 R3 y1 := hkJ2
      obtain ⟨b2, hb2⟩ : ∃ z, z = K_X7_leastPace_2 F N := ⟨_, rfl⟩
      rw [← hb2] at hkK2
      unfold KB_X7_leastPace_2 at hkK2
      refine g_iload_n cx 1 rfl e_X7_leastPace_2 ?_
      refine g_bipush cx 40 (by decide) e_X7_leastPace_3 ?_
      refine g_icmp_gt cx 48 e_X7_leastPace_5 (by decide) (fun zc4 => ?_) (fun zc4 => ?_)
      · have p5 := gn_gt 41 41 (gc_lt zc4) py1 (jv_k (x := 40) 40 (by decide)) (by decide)
        have hk6 := hkK2.trans (if_pos zc4)
        refine g_bipush cx (-2) (by decide) e_X7_leastPace_48 ?_
        exact hret e_X7_leastPace_50 (Nat.le_of_ble_eq_true rfl) (Nat.le_of_ble_eq_true rfl) rfl ⟨F2, R3, rfl, oF2, oR3, fF2, fR3, (jv_w (jv_k (x := (-2)) (-2) (by decide)) (by decide)), (hk6.symm.trans hSP)⟩
      · have p7 := gn_le 1 40 (gc_nlt zc4) py1 (jv_k (x := 40) 40 (by decide)) (by decide)
        have hk8 := hkK2.trans (if_neg zc4)
        refine g_aload_n cx 0 rfl e_X7_leastPace_8 ?_
        refine g_get cx cl_X7 fl_X7_58 35 (.ref (ad 15)) e_X7_leastPace_9 rfl rfl ?_
        refine g_iload_n cx 1 rfl e_X7_leastPace_12 ?_
        refine g_aload_n cx 0 rfl e_X7_leastPace_13 ?_
        refine g_get cx cl_X7 fl_X7_53 35 (.ref (ad 5)) e_X7_leastPace_14 rfl rfl ?_
        refine g_getN cx cl_X8 fn_X7_82 5 (.int (F2 81)) e_X7_leastPace_17 rfl rfl ?_
        refine g_toi (F 81) (fF2 81 rfl) ?_
        refine g_cVvW cx [.int y1, .int (F 81)] [] (w_X5_even_15 l X ad F2 R3 oF2 oR3 y1 (F 81)) ml_X7_85 yV_X5_even e_X7_leastPace_20 (by unfold g_rr; decide) (by decide) 15 rfl rfl rfl (Nat.le_of_ble_eq_true rfl) (fun w10 h11 => ?_)
        obtain ⟨F13, R14, rfl, oF13, oR14, cF13, cR14, hx12⟩ := h11
        have hk15 := k_ls2 hk8 hx12
        have fF13 : g_fr md_X7_leastPace F F13 := g_fr_c fF2 cF13 rfl
        have fR14 : g_fr mr_X7_leastPace R R14 := g_fr_c fR3 cR14 rfl
        refine g_aload_n cx 0 rfl e_X7_leastPace_23 ?_
        refine g_get cx cl_X7 fl_X7_46 35 (.ref (ad 37)) e_X7_leastPace_24 rfl rfl ?_
        refine g_cVvW cx [] [] (w_X0_run l X ad F13 R14 oF13 oR14) ml_X7_89 yV_X0_run e_X7_leastPace_27 (by unfold g_rr; decide) (by decide) 37 rfl rfl rfl (Nat.le_of_ble_eq_true rfl) (fun w17 h18 => ?_)
        obtain ⟨F20, R21, rfl, oF20, oR21, cF20, cR21, hx19⟩ := h18
        have hk22 := k_ls2 hk15 hx19
        have fF20 : g_fr md_X7_leastPace F F20 := g_fr_c fF13 cF20 rfl
        have fR21 : g_fr mr_X7_leastPace R R21 := g_fr_c fR14 cR21 rfl
        refine g_aload_n cx 0 rfl e_X7_leastPace_30 ?_
        refine g_get cx cl_X7 fl_X7_63 35 (.ref (ad 43)) e_X7_leastPace_31 rfl rfl ?_
        refine g_cViW cx [] [] (w_X4_allStand l X ad F20 R21 oF20 oR21) ml_X7_92 yV_X4_allStand e_X7_leastPace_34 (by unfold g_rr; decide) (by decide) 43 rfl rfl rfl (Nat.le_of_ble_eq_true rfl) (fun r23 w24 h25 => ?_)
        obtain ⟨rfl, pr23, hx26⟩ := h25
        have hk27 := k_ls hk22 hx26
        refine g_if_eq cx 42 e_X7_leastPace_37 (by decide) (fun zc28 => ?_) (fun zc28 => ?_)
        · have p29 := gn_eq 0 0 (gc_eq zc28) pr23 (jv_k (x := 0) 0 (by decide)) (by decide)
          have hk30 := hk27.trans (if_pos zc28)
          obtain ⟨x31, ex31⟩ : ∃ z : Int32, z = y1 + Int32.ofInt 1 := ⟨_, rfl⟩
          have hk32 := k_ls hk30 (show x31 = y1 + 1 from ex31)
          refine g_iinc cx x31 [(1, .int x31), (0, .ref (ad 35))] 1 e_X7_leastPace_42 rfl ex31.symm (by decide) rfl ?_
          have zx31 := jv_add 2 41 (show x31 = y1 + 1 from ex31) p7 (jv_k (x := 1) 1 (by decide)) (by decide)
          refine g_goto cx 2 e_X7_leastPace_45 (by decide) ?_
          refine g_lsub [1, 0] [(0, .ref (ad 35)), (1, .int x31)] rfl ?_
          exact ih2 F20 R21 x31 oF20 fF20 oR21 fR21 (jv_w zx31.2 (by decide)) (hk32.trans (by rw [hb2])) (Nat.lt_of_lt_of_le (show (2147483647 - x31.toInt).toNat < (2147483647 - y1.toInt).toNat from by have q0 := (jv_k (x := 1) 1 (by decide)).1; have q1 := (jv_k (x := 1) 1 (by decide)).2; have q2 := (jv_k (x := 40) 40 (by decide)).1; have q3 := (jv_k (x := 40) 40 (by decide)).2; have q4 := zx31.2.1; have q5 := zx31.2.2; have q6 := p7.1; have q7 := p7.2; have q8 := (gc_nlt zc4); have q9 := (g_eq0 zx31.1); omega) (Nat.le_of_lt_succ hm2))
        · have p33 := gn_neL 1 1 (gc_ne zc28) pr23 (jv_k (x := 0) 0 (by decide)) (by decide)
          have hk34 := hk27.trans (if_neg zc28)
          refine g_iload_n cx 1 rfl e_X7_leastPace_40 ?_
          exact hret e_X7_leastPace_41 (Nat.le_of_ble_eq_true rfl) (Nat.le_of_ble_eq_true rfl) rfl ⟨F20, R21, rfl, oF20, oR21, fF20, fR21, (jv_w p7 (by decide)), (hk34.symm.trans hSP)⟩
  refine g_lsub [1, 0] [(0, .ref (ad 35)), (1, .int 1)] rfl ?_
  exact J2 8589934592 F R 1 hI (g_fr_rf F) hA (g_fr_rf R) (jv_w (jv_k (x := 1) 1 (by decide)) (by decide)) hk0 (show (2147483647 - (1 : Int32).toInt).toNat < 8589934592 from by have q0 := (jv_k (x := 1) 1 (by decide)).1; have q1 := (jv_k (x := 1) 1 (by decide)).2; omega)
def sp_X10_pace (F : Nat → Int32) (R : Nat → Nat → Int32) : Int32 × (Nat → Int32) × (Nat → Nat → Int32) :=
  k_lt2 (sp_X7_lay_r1_r11 F R) (fun F5 R6 => k_lt3 (sp_X7_leastPace F5 R6) (fun r8 F12 R13 => (r8, F12, R13)))
theorem e_X10_pace_0 : g_dc cX10_pace 0 (.aload_n 0) 1 1 := ⟨by decide +kernel, rfl⟩
theorem e_X10_pace_1 : g_dc cX10_pace 1 (.getfield 58) 3 4 := ⟨by decide +kernel, rfl⟩
theorem e_X10_pace_4 : g_dc cX10_pace 4 (.aload_n 0) 1 5 := ⟨by decide +kernel, rfl⟩
theorem e_X10_pace_5 : g_dc cX10_pace 5 (.getfield 10) 3 8 := ⟨by decide +kernel, rfl⟩
theorem e_X10_pace_8 : g_dc cX10_pace 8 (.aload_n 0) 1 9 := ⟨by decide +kernel, rfl⟩
theorem e_X10_pace_9 : g_dc cX10_pace 9 (.getfield 29) 3 12 := ⟨by decide +kernel, rfl⟩
theorem e_X10_pace_12 : g_dc cX10_pace 12 (.invokevirtual 148) 3 15 := ⟨by decide +kernel, rfl⟩
theorem e_X10_pace_15 : g_dc cX10_pace 15 (.aload_n 0) 1 16 := ⟨by decide +kernel, rfl⟩
theorem e_X10_pace_16 : g_dc cX10_pace 16 (.getfield 58) 3 19 := ⟨by decide +kernel, rfl⟩
theorem e_X10_pace_19 : g_dc cX10_pace 19 (.invokevirtual 177) 3 22 := ⟨by decide +kernel, rfl⟩
theorem e_X10_pace_22 : g_dc cX10_pace 22 (.ireturn) 1 23 := ⟨by decide +kernel, rfl⟩
def md_X10_pace : List Nat := [80, 81, 82, 83, 84, 241, 601, 602, 603, 604, 605, 606, 672, 673, 674, 675, 691, 692, 693, 694, 695, 696, 697, 698]
def mr_X10_pace : List Nat := [6, 16, 23, 24, 38, 39, 40, 41, 44, 45, 46]
set_option maxHeartbeats 4000000 in
set_option maxRecDepth 100000 in
theorem w_X10_pace (l : Launch) (X : gX) (ad : Nat → Nat) (F : Nat → Int32) (R : Nat → Nat → Int32) (hI : g_ok LK_wX F) (hA : g_okR LA_wX R) : g_Ci l X yX10_pace cX10_pace 1 (some .int) 8 0 0 [.ref (ad 0)] (wX X ad F R) (fun r w => ∃ (F' : Nat → Int32) (R' : Nat → Nat → Int32), w = wX X ad F' R' ∧ g_ok LK_wX F' ∧ g_okR LA_wX R' ∧ g_fr md_X10_pace F F' ∧ g_fr mr_X10_pace R R' ∧ jv (-2) 40 r ∧ (r, F', R') = sp_X10_pace F R) := by
  refine g_mi (by decide +kernel) (Nat.le_of_ble_eq_true rfl) (fun E cx hret => ?_)
  obtain ⟨SP, hSP⟩ : ∃ z, z = sp_X10_pace F R := ⟨_, rfl⟩
  have hk0 := hSP
  unfold sp_X10_pace at hk0
  refine g_aload_n cx 0 rfl e_X10_pace_0 ?_
  refine g_get cx cl_X10 fl_X10_58 0 (.ref (ad 35)) e_X10_pace_1 rfl rfl ?_
  refine g_aload_n cx 0 rfl e_X10_pace_4 ?_
  refine g_get cx cl_X10 fl_X10_10 0 (.ref (ad 1)) e_X10_pace_5 rfl rfl ?_
  refine g_aload_n cx 0 rfl e_X10_pace_8 ?_
  refine g_get cx cl_X10 fl_X10_29 0 (.ref (ad 11)) e_X10_pace_9 rfl rfl ?_
  refine g_cVvW cx [.ref (ad 1), .ref (ad 11)] [] (w_X7_lay_r1_r11 l X ad F R hI hA) ml_X10_148 yV_X7_lay e_X10_pace_12 (by unfold g_rr; decide) (by decide) 35 rfl rfl rfl (Nat.le_of_ble_eq_true rfl) (fun w2 h3 => ?_)
  obtain ⟨F5, R6, rfl, oF5, oR6, cF5, cR6, hx4⟩ := h3
  have hk7 := k_ls2 hk0 hx4
  have fF5 : g_fr md_X10_pace F F5 := g_fr_c (g_fr_rf F) cF5 rfl
  have fR6 : g_fr mr_X10_pace R R6 := g_fr_c (g_fr_rf R) cR6 rfl
  refine g_aload_n cx 0 rfl e_X10_pace_15 ?_
  refine g_get cx cl_X10 fl_X10_58 0 (.ref (ad 35)) e_X10_pace_16 rfl rfl ?_
  refine g_cViW cx [] [] (w_X7_leastPace l X ad F5 R6 oF5 oR6) ml_X10_177 yV_X7_leastPace e_X10_pace_19 (by unfold g_rr; decide) (by decide) 35 rfl rfl rfl (Nat.le_of_ble_eq_true rfl) (fun r8 w9 h10 => ?_)
  obtain ⟨F12, R13, rfl, oF12, oR13, cF12, cR13, pr8, hx11⟩ := h10
  have hk14 := k_ls3 hk7 hx11
  have fF12 : g_fr md_X10_pace F F12 := g_fr_c fF5 cF12 rfl
  have fR13 : g_fr mr_X10_pace R R13 := g_fr_c fR6 cR13 rfl
  exact hret e_X10_pace_22 (Nat.le_of_ble_eq_true rfl) (Nat.le_of_ble_eq_true rfl) rfl ⟨F12, R13, rfl, oF12, oR13, fF12, fR13, pr8, (hk14.symm.trans hSP)⟩
def sp_X8_copy_7_r5 (F : Nat → Int32) (R : Nat → Nat → Int32) : (Nat → Int32) × (Nat → Nat → Int32) :=
  k_lt (upd F 112 (F 80)) (fun F1 => k_lt (upd F1 113 (F 81)) (fun F3 => k_lt (upd F3 114 (F 82)) (fun F5 => k_lt (upd F5 115 (F 83)) (fun F7 => k_lt (upd F7 116 (F 84)) (fun F9 => k_lt (g_u R 8 (va_cpy (R 6) (R 8) 0 0 80)) (fun R11 => (F9, R11)))))))
def md_X8_copy_7_r5 : List Nat := [112, 113, 114, 115, 116]
def mr_X8_copy_7_r5 : List Nat := [8]
set_option maxHeartbeats 4000000 in
set_option maxRecDepth 100000 in
theorem w_X8_copy_7_r5 (l : Launch) (X : gX) (ad : Nat → Nat) (F : Nat → Int32) (R : Nat → Nat → Int32) (hI : g_ok LK_wX F) (hA : g_okR LA_wX R) : g_Cv l X yX8_copy cX8_copy 2 1 0 0 [.ref (ad 7), .ref (ad 5)] (wX X ad F R) (fun w => ∃ (F' : Nat → Int32) (R' : Nat → Nat → Int32), w = wX X ad F' R' ∧ g_ok LK_wX F' ∧ g_okR LA_wX R' ∧ g_fr md_X8_copy_7_r5 F F' ∧ g_fr mr_X8_copy_7_r5 R R' ∧ (F', R') = sp_X8_copy_7_r5 F R) := by
  refine g_mv (by decide +kernel) (Nat.le_of_ble_eq_true rfl) (fun E cx hret => ?_)
  obtain ⟨SP, hSP⟩ : ∃ z, z = sp_X8_copy_7_r5 F R := ⟨_, rfl⟩
  have hk0 := hSP
  unfold sp_X8_copy_7_r5 at hk0
  refine g_aload_n cx 1 rfl e_X8_copy_0 ?_
  refine g_ifnonnull cx 5 e_X8_copy_1 (by decide) ?_
  refine g_aload_n cx 0 rfl e_X8_copy_5 ?_
  refine g_aload_n cx 1 rfl e_X8_copy_6 ?_
  refine g_get cx cl_X8 fl_X8_9 5 (.int (F 80)) e_X8_copy_7 rfl rfl ?_
  refine g_put cx cl_X8 fl_X8_9 7 (wX X ad (upd F 112 (F 80)) R) e_X8_copy_10 rfl rfl rfl rfl (Nat.le_of_ble_eq_true rfl) rfl ?_
  obtain ⟨F1, hF1⟩ : ∃ z, z = upd F 112 (F 80) := ⟨_, rfl⟩
  rw [← hF1]
  have hk2 := k_ls hk0 hF1
  have oF1 : g_ok LK_wX F1 := by rw [hF1]; exact g_ok_u hI rfl
  have fF1 : g_fr md_X8_copy_7_r5 F F1 := by rw [hF1]; exact g_fr_u (g_fr_rf F) rfl
  refine g_aload_n cx 0 rfl e_X8_copy_13 ?_
  refine g_aload_n cx 1 rfl e_X8_copy_14 ?_
  refine g_get cx cl_X8 fl_X8_15 5 (.int (F1 81)) e_X8_copy_15 rfl rfl ?_
  refine g_toi (F 81) (g_pu2 hF1 rfl) ?_
  refine g_put cx cl_X8 fl_X8_15 7 (wX X ad (upd F1 113 (F 81)) R) e_X8_copy_18 rfl rfl rfl rfl (Nat.le_of_ble_eq_true rfl) rfl ?_
  obtain ⟨F3, hF3⟩ : ∃ z, z = upd F1 113 (F 81) := ⟨_, rfl⟩
  rw [← hF3]
  have hk4 := k_ls hk2 hF3
  have oF3 : g_ok LK_wX F3 := by rw [hF3]; exact g_ok_u oF1 rfl
  have fF3 : g_fr md_X8_copy_7_r5 F F3 := by rw [hF3]; exact g_fr_u fF1 rfl
  refine g_aload_n cx 0 rfl e_X8_copy_21 ?_
  refine g_aload_n cx 1 rfl e_X8_copy_22 ?_
  refine g_get cx cl_X8 fl_X8_18 5 (.int (F3 82)) e_X8_copy_23 rfl rfl ?_
  refine g_toi (F 82) ((g_pu2 hF3 rfl).trans (g_pu2 hF1 rfl)) ?_
  refine g_put cx cl_X8 fl_X8_18 7 (wX X ad (upd F3 114 (F 82)) R) e_X8_copy_26 rfl rfl rfl rfl (Nat.le_of_ble_eq_true rfl) rfl ?_
  obtain ⟨F5, hF5⟩ : ∃ z, z = upd F3 114 (F 82) := ⟨_, rfl⟩
  rw [← hF5]
  have hk6 := k_ls hk4 hF5
  have oF5 : g_ok LK_wX F5 := by rw [hF5]; exact g_ok_u oF3 rfl
  have fF5 : g_fr md_X8_copy_7_r5 F F5 := by rw [hF5]; exact g_fr_u fF3 rfl
  refine g_aload_n cx 0 rfl e_X8_copy_29 ?_
  refine g_aload_n cx 1 rfl e_X8_copy_30 ?_
  refine g_get cx cl_X8 fl_X8_21 5 (.int (F5 83)) e_X8_copy_31 rfl rfl ?_
  refine g_toi (F 83) (((g_pu2 hF5 rfl).trans (g_pu2 hF3 rfl)).trans (g_pu2 hF1 rfl)) ?_
  refine g_put cx cl_X8 fl_X8_21 7 (wX X ad (upd F5 115 (F 83)) R) e_X8_copy_34 rfl rfl rfl rfl (Nat.le_of_ble_eq_true rfl) rfl ?_
  obtain ⟨F7, hF7⟩ : ∃ z, z = upd F5 115 (F 83) := ⟨_, rfl⟩
  rw [← hF7]
  have hk8 := k_ls hk6 hF7
  have oF7 : g_ok LK_wX F7 := by rw [hF7]; exact g_ok_u oF5 rfl
  have fF7 : g_fr md_X8_copy_7_r5 F F7 := by rw [hF7]; exact g_fr_u fF5 rfl
  refine g_aload_n cx 0 rfl e_X8_copy_37 ?_
  refine g_aload_n cx 1 rfl e_X8_copy_38 ?_
  refine g_get cx cl_X8 fl_X8_24 5 (.int (F7 84)) e_X8_copy_39 rfl rfl ?_
  refine g_toi (F 84) ((((g_pu2 hF7 rfl).trans (g_pu2 hF5 rfl)).trans (g_pu2 hF3 rfl)).trans (g_pu2 hF1 rfl)) ?_
  refine g_put cx cl_X8 fl_X8_24 7 (wX X ad (upd F7 116 (F 84)) R) e_X8_copy_42 rfl rfl rfl rfl (Nat.le_of_ble_eq_true rfl) rfl ?_
  obtain ⟨F9, hF9⟩ : ∃ z, z = upd F7 116 (F 84) := ⟨_, rfl⟩
  rw [← hF9]
  have hk10 := k_ls hk8 hF9
  have oF9 : g_ok LK_wX F9 := by rw [hF9]; exact g_ok_u oF7 rfl
  have fF9 : g_fr md_X8_copy_7_r5 F F9 := by rw [hF9]; exact g_fr_u fF7 rfl
  refine g_aload_n cx 1 rfl e_X8_copy_45 ?_
  refine g_get cx cl_X8 fl_X8_27 5 (.ref (ad 6)) e_X8_copy_46 rfl rfl ?_
  refine g_iconst cx 0 (by decide) e_X8_copy_49 ?_
  refine g_aload_n cx 0 rfl e_X8_copy_50 ?_
  refine g_get cx cl_X8 fl_X8_27 7 (.ref (ad 8)) e_X8_copy_51 rfl rfl ?_
  refine g_iconst cx 0 (by decide) e_X8_copy_54 ?_
  refine g_aload_n cx 0 rfl e_X8_copy_55 ?_
  refine g_get cx cl_X8 fl_X8_27 7 (.ref (ad 8)) e_X8_copy_56 rfl rfl ?_
  refine g_alen cx 8 80 e_X8_copy_59 rfl (by decide) ?_
  refine g_copy cx 6 8 (wX X ad F9 (g_u R 8 (va_cpy (R 6) (R 8) 0 0 80))) ml_X8_39 e_X8_copy_60 rfl rfl (by decide) (by decide) (by decide) (by decide) rfl ?_
  obtain ⟨R11, hR11⟩ : ∃ z, z = g_u R 8 (va_cpy (R 6) (R 8) 0 0 80) := ⟨_, rfl⟩
  rw [← hR11]
  have hk12 := k_ls hk10 hR11
  have oR11 : g_okR LA_wX R11 := by rw [hR11]; exact g_okR_u hA rfl
  have fR11 : g_fr mr_X8_copy_7_r5 R R11 := by rw [hR11]; exact g_fr_r (g_fr_rf R) rfl
  exact hret e_X8_copy_63 (Nat.le_of_ble_eq_true rfl) (Nat.le_of_ble_eq_true rfl) ⟨F9, R11, rfl, oF9, oR11, fF9, fR11, (hk12.symm.trans hSP)⟩
def K_X7_improves_40 (F : Nat → Int32) (R : Nat → Nat → Int32)  : Int32 × (Nat → Int32) × (Nat → Nat → Int32) :=
  (0, F, R)
def K_X7_improves_42 (F : Nat → Int32) (R : Nat → Nat → Int32) (r1 : Int32) (r6 : Int32)  : Int32 × (Nat → Int32) × (Nat → Nat → Int32) :=
  k_lt (upd F 564 r1) (fun F16 => k_lt (upd F16 565 r6) (fun F18 => (1, F18, R)))
def sp_X7_improves (F : Nat → Int32) (R : Nat → Nat → Int32) : Int32 × (Nat → Int32) × (Nat → Nat → Int32) :=
  k_lt (sp_X4_standing F R) (fun r1 => k_lt (sp_X4_inches F R) (fun r6 => if r1 < (F 564) then K_X7_improves_40 F R else if r1 = (F 564) then if r6 < (F 565) then K_X7_improves_42 F R r1 r6 else K_X7_improves_40 F R else K_X7_improves_42 F R r1 r6))
theorem e_X7_improves_0 : g_dc cX7_improves 0 (.aload_n 0) 1 1 := ⟨by decide +kernel, rfl⟩
theorem e_X7_improves_1 : g_dc cX7_improves 1 (.getfield 63) 3 4 := ⟨by decide +kernel, rfl⟩
theorem e_X7_improves_4 : g_dc cX7_improves 4 (.invokevirtual 98) 3 7 := ⟨by decide +kernel, rfl⟩
theorem e_X7_improves_7 : g_dc cX7_improves 7 (.istore_n 1) 1 8 := ⟨by decide +kernel, rfl⟩
theorem e_X7_improves_8 : g_dc cX7_improves 8 (.aload_n 0) 1 9 := ⟨by decide +kernel, rfl⟩
theorem e_X7_improves_9 : g_dc cX7_improves 9 (.getfield 63) 3 12 := ⟨by decide +kernel, rfl⟩
theorem e_X7_improves_12 : g_dc cX7_improves 12 (.invokevirtual 101) 3 15 := ⟨by decide +kernel, rfl⟩
theorem e_X7_improves_15 : g_dc cX7_improves 15 (.istore_n 2) 1 16 := ⟨by decide +kernel, rfl⟩
theorem e_X7_improves_16 : g_dc cX7_improves 16 (.iload_n 1) 1 17 := ⟨by decide +kernel, rfl⟩
theorem e_X7_improves_17 : g_dc cX7_improves 17 (.aload_n 0) 1 18 := ⟨by decide +kernel, rfl⟩
theorem e_X7_improves_18 : g_dc cX7_improves 18 (.getfield 9) 3 21 := ⟨by decide +kernel, rfl⟩
theorem e_X7_improves_21 : g_dc cX7_improves 21 (.if_icmp .lt 19) 3 24 := ⟨by decide +kernel, rfl⟩
theorem e_X7_improves_24 : g_dc cX7_improves 24 (.iload_n 1) 1 25 := ⟨by decide +kernel, rfl⟩
theorem e_X7_improves_25 : g_dc cX7_improves 25 (.aload_n 0) 1 26 := ⟨by decide +kernel, rfl⟩
theorem e_X7_improves_26 : g_dc cX7_improves 26 (.getfield 9) 3 29 := ⟨by decide +kernel, rfl⟩
theorem e_X7_improves_29 : g_dc cX7_improves 29 (.if_icmp .ne 13) 3 32 := ⟨by decide +kernel, rfl⟩
theorem e_X7_improves_32 : g_dc cX7_improves 32 (.iload_n 2) 1 33 := ⟨by decide +kernel, rfl⟩
theorem e_X7_improves_33 : g_dc cX7_improves 33 (.aload_n 0) 1 34 := ⟨by decide +kernel, rfl⟩
theorem e_X7_improves_34 : g_dc cX7_improves 34 (.getfield 15) 3 37 := ⟨by decide +kernel, rfl⟩
theorem e_X7_improves_37 : g_dc cX7_improves 37 (.if_icmp .lt 5) 3 40 := ⟨by decide +kernel, rfl⟩
theorem e_X7_improves_40 : g_dc cX7_improves 40 (.iconst 0) 1 41 := ⟨by decide +kernel, rfl⟩
theorem e_X7_improves_41 : g_dc cX7_improves 41 (.ireturn) 1 42 := ⟨by decide +kernel, rfl⟩
theorem e_X7_improves_42 : g_dc cX7_improves 42 (.aload_n 0) 1 43 := ⟨by decide +kernel, rfl⟩
theorem e_X7_improves_43 : g_dc cX7_improves 43 (.iload_n 1) 1 44 := ⟨by decide +kernel, rfl⟩
theorem e_X7_improves_44 : g_dc cX7_improves 44 (.putfield 9) 3 47 := ⟨by decide +kernel, rfl⟩
theorem e_X7_improves_47 : g_dc cX7_improves 47 (.aload_n 0) 1 48 := ⟨by decide +kernel, rfl⟩
theorem e_X7_improves_48 : g_dc cX7_improves 48 (.iload_n 2) 1 49 := ⟨by decide +kernel, rfl⟩
theorem e_X7_improves_49 : g_dc cX7_improves 49 (.putfield 15) 3 52 := ⟨by decide +kernel, rfl⟩
theorem e_X7_improves_52 : g_dc cX7_improves 52 (.iconst 1) 1 53 := ⟨by decide +kernel, rfl⟩
theorem e_X7_improves_53 : g_dc cX7_improves 53 (.ireturn) 1 54 := ⟨by decide +kernel, rfl⟩
def md_X7_improves : List Nat := [564, 565]
def mr_X7_improves : List Nat := []
set_option maxHeartbeats 4000000 in
set_option maxRecDepth 100000 in
theorem w_X7_improves (l : Launch) (X : gX) (ad : Nat → Nat) (F : Nat → Int32) (R : Nat → Nat → Int32) (hI : g_ok LK_wX F) (hA : g_okR LA_wX R) : g_Ci l X yX7_improves cX7_improves 3 (some .boolean) 3 0 0 [.ref (ad 35)] (wX X ad F R) (fun r w => ∃ (F' : Nat → Int32) (R' : Nat → Nat → Int32), w = wX X ad F' R' ∧ g_ok LK_wX F' ∧ g_okR LA_wX R' ∧ g_fr md_X7_improves F F' ∧ g_fr mr_X7_improves R R' ∧ jv 0 1 r ∧ (r, F', R') = sp_X7_improves F R) := by
  refine g_mi (by decide +kernel) (Nat.le_of_ble_eq_true rfl) (fun E cx hret => ?_)
  obtain ⟨SP, hSP⟩ : ∃ z, z = sp_X7_improves F R := ⟨_, rfl⟩
  have hk0 := hSP
  unfold sp_X7_improves at hk0
  refine g_aload_n cx 0 rfl e_X7_improves_0 ?_
  refine g_get cx cl_X7 fl_X7_63 35 (.ref (ad 43)) e_X7_improves_1 rfl rfl ?_
  refine g_cViW cx [] [] (w_X4_standing l X ad F R hI hA) ml_X7_98 yV_X4_standing e_X7_improves_4 (by unfold g_rr; decide) (by decide) 43 rfl rfl rfl (Nat.le_of_ble_eq_true rfl) (fun r1 w2 h3 => ?_)
  obtain ⟨rfl, pr1, hx4⟩ := h3
  have hk5 := k_ls hk0 hx4
  refine g_istore_n cx [(1, .int r1), (0, .ref (ad 35))] e_X7_improves_7 (by decide) rfl ?_
  refine g_aload_n cx 1 rfl e_X7_improves_8 ?_
  refine g_get cx cl_X7 fl_X7_63 35 (.ref (ad 43)) e_X7_improves_9 rfl rfl ?_
  refine g_cViW cx [] [] (w_X4_inches l X ad F R hI hA) ml_X7_101 yV_X4_inches e_X7_improves_12 (by unfold g_rr; decide) (by decide) 43 rfl rfl rfl (Nat.le_of_ble_eq_true rfl) (fun r6 w7 h8 => ?_)
  obtain ⟨rfl, pr6, hx9⟩ := h8
  have hk10 := k_ls hk5 hx9
  refine g_istore_n cx [(2, .int r6), (1, .int r1), (0, .ref (ad 35))] e_X7_improves_15 (by decide) rfl ?_
  refine g_iload_n cx 1 rfl e_X7_improves_16 ?_
  refine g_aload_n cx 2 rfl e_X7_improves_17 ?_
  refine g_get cx cl_X7 fl_X7_9 35 (.int (F 564)) e_X7_improves_18 rfl rfl ?_
  have J40 : (SP = K_X7_improves_40 F R) → G X E 3 0 0 (wX X ad F R) [] 40 [] := by
    intro   hkJ40
    unfold K_X7_improves_40 at hkJ40
    refine g_iconst cx 0 (by decide) e_X7_improves_40 ?_
    exact hret e_X7_improves_41 (Nat.le_of_ble_eq_true rfl) (Nat.le_of_ble_eq_true rfl) rfl ⟨F, R, rfl, hI, hA, (g_fr_rf F), (g_fr_rf R), (jv_w (jv_k (x := 0) 0 (by decide)) (by decide)), (hkJ40.symm.trans hSP)⟩
  refine g_icmp_lt cx 40 e_X7_improves_21 (by decide) (fun zc11 => ?_) (fun zc11 => ?_)
  · have p12 := gn_gt 1 2147483647 (gc_lt zc11) (jv_t (F 564)) pr1 (by decide)
    have hk13 := hk10.trans (if_pos zc11)
    refine g_lsub [] [] rfl ?_
    exact J40  hk13
  · have p14 := gn_le (-2147483648) 63 (gc_nlt zc11) (jv_t (F 564)) pr1 (by decide)
    have hk15 := hk10.trans (if_neg zc11)
    refine g_iload_n cx 1 rfl e_X7_improves_24 ?_
    refine g_aload_n cx 2 rfl e_X7_improves_25 ?_
    refine g_get cx cl_X7 fl_X7_9 35 (.int (F 564)) e_X7_improves_26 rfl rfl ?_
    have J42 : (SP = K_X7_improves_42 F R r1 r6) → G X E 3 0 0 (wX X ad F R) [(0, .ref (ad 35)), (1, .int r1), (2, .int r6)] 42 [] := by
      intro   hkJ42
      unfold K_X7_improves_42 at hkJ42
      refine g_aload_n cx 0 rfl e_X7_improves_42 ?_
      refine g_iload_n cx 1 rfl e_X7_improves_43 ?_
      refine g_put cx cl_X7 fl_X7_9 35 (wX X ad (upd F 564 r1) R) e_X7_improves_44 rfl rfl rfl rfl (Nat.le_of_ble_eq_true rfl) rfl ?_
      obtain ⟨F16, hF16⟩ : ∃ z, z = upd F 564 r1 := ⟨_, rfl⟩
      rw [← hF16]
      have hk17 := k_ls hkJ42 hF16
      have oF16 : g_ok LK_wX F16 := by rw [hF16]; exact g_ok_u hI rfl
      have fF16 : g_fr md_X7_improves F F16 := by rw [hF16]; exact g_fr_u (g_fr_rf F) rfl
      refine g_aload_n cx 0 rfl e_X7_improves_47 ?_
      refine g_iload_n cx 2 rfl e_X7_improves_48 ?_
      refine g_put cx cl_X7 fl_X7_15 35 (wX X ad (upd F16 565 r6) R) e_X7_improves_49 rfl rfl rfl rfl (Nat.le_of_ble_eq_true rfl) rfl ?_
      obtain ⟨F18, hF18⟩ : ∃ z, z = upd F16 565 r6 := ⟨_, rfl⟩
      rw [← hF18]
      have hk19 := k_ls hk17 hF18
      have oF18 : g_ok LK_wX F18 := by rw [hF18]; exact g_ok_u oF16 rfl
      have fF18 : g_fr md_X7_improves F F18 := by rw [hF18]; exact g_fr_u fF16 rfl
      refine g_iconst cx 1 (by decide) e_X7_improves_52 ?_
      exact hret e_X7_improves_53 (Nat.le_of_ble_eq_true rfl) (Nat.le_of_ble_eq_true rfl) rfl ⟨F18, R, rfl, oF18, hA, fF18, (g_fr_rf R), (jv_w (jv_k (x := 1) 1 (by decide)) (by decide)), (hk19.symm.trans hSP)⟩
    refine g_icmp_ne cx 42 e_X7_improves_29 (by decide) (fun zc20 => ?_) (fun zc20 => ?_)
    · have hk21 := hk15.trans (if_neg zc20)
      refine g_lsub [2, 1, 0] [(0, .ref (ad 35)), (1, .int r1), (2, .int r6)] rfl ?_
      exact J42  hk21
    · have p22 := gn_eq 0 63 (gc_eq zc20).symm p14 pr1 (by decide)
      have hk23 := hk15.trans (if_pos zc20)
      refine g_iload_n cx 0 rfl e_X7_improves_32 ?_
      refine g_aload_n cx 2 rfl e_X7_improves_33 ?_
      refine g_get cx cl_X7 fl_X7_15 35 (.int (F 565)) e_X7_improves_34 rfl rfl ?_
      refine g_icmp_lt cx 42 e_X7_improves_37 (by decide) (fun zc24 => ?_) (fun zc24 => ?_)
      · have p25 := gn_lt (-2147483648) 2147483646 (gc_lt zc24) pr6 (jv_t (F 565)) (by decide)
        have p26 := gn_gt (-2147483647) 2147483647 (gc_lt zc24) (jv_t (F 565)) pr6 (by decide)
        have hk27 := hk23.trans (if_pos zc24)
        refine g_lsub [2, 1, 0] [(0, .ref (ad 35)), (1, .int r1), (2, .int r6)] rfl ?_
        exact J42  hk27
      · have hk28 := hk23.trans (if_neg zc24)
        refine g_lsub [] [] rfl ?_
        exact J40  hk28
def K_X8_isAs_5_r7_48   : Int32 :=
  0
def KB_X8_isAs_5_r7_52 (b52 : (Int32) → Int32) (R : Nat → Nat → Int32) (y12 : Int32) : Int32 :=
  if 80 ≤ y12 then 1 else k_lt (R 6 (Int32.toNatClampNeg y12)) (fun x18 => k_lt (R 8 (Int32.toNatClampNeg y12)) (fun x20 => if x18 = x20 then k_lt (y12 + 1) (fun x24 => b52 x24) else 0))
def K_X8_isAs_5_r7_52 (R : Nat → Nat → Int32) : Nat → (Int32) → Int32
  | 0 => fun _ => 0
  | n + 1 => KB_X8_isAs_5_r7_52 (K_X8_isAs_5_r7_52 R n) R
def sp_X8_isAs_5_r7 (F : Nat → Int32) (R : Nat → Nat → Int32) : Int32 :=
  if (F 80) = (F 112) then if (F 81) = (F 113) then if (F 82) = (F 114) then if (F 83) = (F 115) then K_X8_isAs_5_r7_52 R 8589934592 0 else K_X8_isAs_5_r7_48 else K_X8_isAs_5_r7_48 else K_X8_isAs_5_r7_48 else K_X8_isAs_5_r7_48
theorem e_X8_isAs_0 : g_dc cX8_isAs 0 (.aload_n 1) 1 1 := ⟨by decide +kernel, rfl⟩
theorem e_X8_isAs_1 : g_dc cX8_isAs 1 (.ifnull 47) 3 4 := ⟨by decide +kernel, rfl⟩
theorem e_X8_isAs_4 : g_dc cX8_isAs 4 (.aload_n 0) 1 5 := ⟨by decide +kernel, rfl⟩
theorem e_X8_isAs_5 : g_dc cX8_isAs 5 (.getfield 9) 3 8 := ⟨by decide +kernel, rfl⟩
theorem e_X8_isAs_8 : g_dc cX8_isAs 8 (.aload_n 1) 1 9 := ⟨by decide +kernel, rfl⟩
theorem e_X8_isAs_9 : g_dc cX8_isAs 9 (.getfield 9) 3 12 := ⟨by decide +kernel, rfl⟩
theorem e_X8_isAs_12 : g_dc cX8_isAs 12 (.if_icmp .ne 36) 3 15 := ⟨by decide +kernel, rfl⟩
theorem e_X8_isAs_15 : g_dc cX8_isAs 15 (.aload_n 0) 1 16 := ⟨by decide +kernel, rfl⟩
theorem e_X8_isAs_16 : g_dc cX8_isAs 16 (.getfield 15) 3 19 := ⟨by decide +kernel, rfl⟩
theorem e_X8_isAs_19 : g_dc cX8_isAs 19 (.aload_n 1) 1 20 := ⟨by decide +kernel, rfl⟩
theorem e_X8_isAs_20 : g_dc cX8_isAs 20 (.getfield 15) 3 23 := ⟨by decide +kernel, rfl⟩
theorem e_X8_isAs_23 : g_dc cX8_isAs 23 (.if_icmp .ne 25) 3 26 := ⟨by decide +kernel, rfl⟩
theorem e_X8_isAs_26 : g_dc cX8_isAs 26 (.aload_n 0) 1 27 := ⟨by decide +kernel, rfl⟩
theorem e_X8_isAs_27 : g_dc cX8_isAs 27 (.getfield 18) 3 30 := ⟨by decide +kernel, rfl⟩
theorem e_X8_isAs_30 : g_dc cX8_isAs 30 (.aload_n 1) 1 31 := ⟨by decide +kernel, rfl⟩
theorem e_X8_isAs_31 : g_dc cX8_isAs 31 (.getfield 18) 3 34 := ⟨by decide +kernel, rfl⟩
theorem e_X8_isAs_34 : g_dc cX8_isAs 34 (.if_icmp .ne 14) 3 37 := ⟨by decide +kernel, rfl⟩
theorem e_X8_isAs_37 : g_dc cX8_isAs 37 (.aload_n 0) 1 38 := ⟨by decide +kernel, rfl⟩
theorem e_X8_isAs_38 : g_dc cX8_isAs 38 (.getfield 21) 3 41 := ⟨by decide +kernel, rfl⟩
theorem e_X8_isAs_41 : g_dc cX8_isAs 41 (.aload_n 1) 1 42 := ⟨by decide +kernel, rfl⟩
theorem e_X8_isAs_42 : g_dc cX8_isAs 42 (.getfield 21) 3 45 := ⟨by decide +kernel, rfl⟩
theorem e_X8_isAs_45 : g_dc cX8_isAs 45 (.if_icmp .eq 5) 3 48 := ⟨by decide +kernel, rfl⟩
theorem e_X8_isAs_48 : g_dc cX8_isAs 48 (.iconst 0) 1 49 := ⟨by decide +kernel, rfl⟩
theorem e_X8_isAs_49 : g_dc cX8_isAs 49 (.ireturn) 1 50 := ⟨by decide +kernel, rfl⟩
theorem e_X8_isAs_50 : g_dc cX8_isAs 50 (.iconst 0) 1 51 := ⟨by decide +kernel, rfl⟩
theorem e_X8_isAs_51 : g_dc cX8_isAs 51 (.istore_n 2) 1 52 := ⟨by decide +kernel, rfl⟩
theorem e_X8_isAs_52 : g_dc cX8_isAs 52 (.iload_n 2) 1 53 := ⟨by decide +kernel, rfl⟩
theorem e_X8_isAs_53 : g_dc cX8_isAs 53 (.aload_n 0) 1 54 := ⟨by decide +kernel, rfl⟩
theorem e_X8_isAs_54 : g_dc cX8_isAs 54 (.getfield 27) 3 57 := ⟨by decide +kernel, rfl⟩
theorem e_X8_isAs_57 : g_dc cX8_isAs 57 (.arraylength) 1 58 := ⟨by decide +kernel, rfl⟩
theorem e_X8_isAs_58 : g_dc cX8_isAs 58 (.if_icmp .ge 26) 3 61 := ⟨by decide +kernel, rfl⟩
theorem e_X8_isAs_61 : g_dc cX8_isAs 61 (.aload_n 0) 1 62 := ⟨by decide +kernel, rfl⟩
theorem e_X8_isAs_62 : g_dc cX8_isAs 62 (.getfield 27) 3 65 := ⟨by decide +kernel, rfl⟩
theorem e_X8_isAs_65 : g_dc cX8_isAs 65 (.iload_n 2) 1 66 := ⟨by decide +kernel, rfl⟩
theorem e_X8_isAs_66 : g_dc cX8_isAs 66 (.iaload) 1 67 := ⟨by decide +kernel, rfl⟩
theorem e_X8_isAs_67 : g_dc cX8_isAs 67 (.aload_n 1) 1 68 := ⟨by decide +kernel, rfl⟩
theorem e_X8_isAs_68 : g_dc cX8_isAs 68 (.getfield 27) 3 71 := ⟨by decide +kernel, rfl⟩
theorem e_X8_isAs_71 : g_dc cX8_isAs 71 (.iload_n 2) 1 72 := ⟨by decide +kernel, rfl⟩
theorem e_X8_isAs_72 : g_dc cX8_isAs 72 (.iaload) 1 73 := ⟨by decide +kernel, rfl⟩
theorem e_X8_isAs_73 : g_dc cX8_isAs 73 (.if_icmp .eq 5) 3 76 := ⟨by decide +kernel, rfl⟩
theorem e_X8_isAs_76 : g_dc cX8_isAs 76 (.iconst 0) 1 77 := ⟨by decide +kernel, rfl⟩
theorem e_X8_isAs_77 : g_dc cX8_isAs 77 (.ireturn) 1 78 := ⟨by decide +kernel, rfl⟩
theorem e_X8_isAs_78 : g_dc cX8_isAs 78 (.iinc 2 1) 3 81 := ⟨by decide +kernel, rfl⟩
theorem e_X8_isAs_81 : g_dc cX8_isAs 81 (.goto (-29)) 3 84 := ⟨by decide +kernel, rfl⟩
theorem e_X8_isAs_84 : g_dc cX8_isAs 84 (.iconst 1) 1 85 := ⟨by decide +kernel, rfl⟩
theorem e_X8_isAs_85 : g_dc cX8_isAs 85 (.ireturn) 1 86 := ⟨by decide +kernel, rfl⟩
set_option maxHeartbeats 4000000 in
set_option maxRecDepth 100000 in
theorem w_X8_isAs_5_r7 (l : Launch) (X : gX) (ad : Nat → Nat) (F : Nat → Int32) (R : Nat → Nat → Int32) (hI : g_ok LK_wX F) (hA : g_okR LA_wX R) : g_Ci l X yX8_isAs cX8_isAs 3 (some .boolean) 1 0 0 [.ref (ad 5), .ref (ad 7)] (wX X ad F R) (fun r w => w = wX X ad F R ∧ jv 0 1 r ∧ r = sp_X8_isAs_5_r7 F R) := by
  refine g_mi (by decide +kernel) (Nat.le_of_ble_eq_true rfl) (fun E cx hret => ?_)
  obtain ⟨SP, hSP⟩ : ∃ z, z = sp_X8_isAs_5_r7 F R := ⟨_, rfl⟩
  have hk0 := hSP
  unfold sp_X8_isAs_5_r7 at hk0
  refine g_aload_n cx 1 rfl e_X8_isAs_0 ?_
  refine g_ifnull cx e_X8_isAs_1 ?_
  refine g_aload_n cx 0 rfl e_X8_isAs_4 ?_
  refine g_get cx cl_X8 fl_X8_9 5 (.int (F 80)) e_X8_isAs_5 rfl rfl ?_
  refine g_aload_n cx 1 rfl e_X8_isAs_8 ?_
  refine g_get cx cl_X8 fl_X8_9 7 (.int (F 112)) e_X8_isAs_9 rfl rfl ?_
  have J48 : (SP = K_X8_isAs_5_r7_48) → G X E 3 0 0 (wX X ad F R) [] 48 [] := by
    intro   hkJ48
    unfold K_X8_isAs_5_r7_48 at hkJ48
    refine g_iconst cx 0 (by decide) e_X8_isAs_48 ?_
    exact hret e_X8_isAs_49 (Nat.le_of_ble_eq_true rfl) (Nat.le_of_ble_eq_true rfl) rfl ⟨rfl, (jv_w (jv_k (x := 0) 0 (by decide)) (by decide)), (hkJ48.symm.trans hSP)⟩
  refine g_icmp_ne cx 48 e_X8_isAs_12 (by decide) (fun zc1 => ?_) (fun zc1 => ?_)
  · have hk2 := hk0.trans (if_neg zc1)
    refine g_lsub [] [] rfl ?_
    exact J48  hk2
  · have hk3 := hk0.trans (if_pos zc1)
    refine g_aload_n cx 0 rfl e_X8_isAs_15 ?_
    refine g_get cx cl_X8 fl_X8_15 5 (.int (F 81)) e_X8_isAs_16 rfl rfl ?_
    refine g_aload_n cx 1 rfl e_X8_isAs_19 ?_
    refine g_get cx cl_X8 fl_X8_15 7 (.int (F 113)) e_X8_isAs_20 rfl rfl ?_
    refine g_icmp_ne cx 48 e_X8_isAs_23 (by decide) (fun zc4 => ?_) (fun zc4 => ?_)
    · have hk5 := hk3.trans (if_neg zc4)
      refine g_lsub [] [] rfl ?_
      exact J48  hk5
    · have hk6 := hk3.trans (if_pos zc4)
      refine g_aload_n cx 0 rfl e_X8_isAs_26 ?_
      refine g_get cx cl_X8 fl_X8_18 5 (.int (F 82)) e_X8_isAs_27 rfl rfl ?_
      refine g_aload_n cx 1 rfl e_X8_isAs_30 ?_
      refine g_get cx cl_X8 fl_X8_18 7 (.int (F 114)) e_X8_isAs_31 rfl rfl ?_
      refine g_icmp_ne cx 48 e_X8_isAs_34 (by decide) (fun zc7 => ?_) (fun zc7 => ?_)
      · have hk8 := hk6.trans (if_neg zc7)
        refine g_lsub [] [] rfl ?_
        exact J48  hk8
      · have hk9 := hk6.trans (if_pos zc7)
        refine g_aload_n cx 0 rfl e_X8_isAs_37 ?_
        refine g_get cx cl_X8 fl_X8_21 5 (.int (F 83)) e_X8_isAs_38 rfl rfl ?_
        refine g_aload_n cx 1 rfl e_X8_isAs_41 ?_
        refine g_get cx cl_X8 fl_X8_21 7 (.int (F 115)) e_X8_isAs_42 rfl rfl ?_
        refine g_icmp_eq cx 50 e_X8_isAs_45 (by decide) (fun zc10 => ?_) (fun zc10 => ?_)
        · have hk11 := hk9.trans (if_pos zc10)
          refine g_iconst cx 0 (by decide) e_X8_isAs_50 ?_
          refine g_istore_n cx [(2, .int 0), (0, .ref (ad 5)), (1, .ref (ad 7))] e_X8_isAs_51 (by decide) rfl ?_
          have J52 : ∀ (N : Nat) (y12 : Int32), (jv 0 220 y12) → (SP = K_X8_isAs_5_r7_52 R N y12) → (2147483647 - y12.toInt).toNat < N → G X E 3 0 0 (wX X ad F R) [(0, .ref (ad 5)), (1, .ref (ad 7)), (2, .int y12)] 52 [] := by
            intro N
            induction N with
            | zero => intro y12 py12 hkJ52 hm; exact absurd hm (Nat.not_lt_zero _)
            | succ N ih52 =>
              intro y12 py12 hkJ52 hm52
              have hkK52 : SP = KB_X8_isAs_5_r7_52 (K_X8_isAs_5_r7_52 R N) R y12 := hkJ52
              obtain ⟨b52, hb52⟩ : ∃ z, z = K_X8_isAs_5_r7_52 R N := ⟨_, rfl⟩
              rw [← hb52] at hkK52
              unfold KB_X8_isAs_5_r7_52 at hkK52
              refine g_iload_n cx 2 rfl e_X8_isAs_52 ?_
              refine g_aload_n cx 0 rfl e_X8_isAs_53 ?_
              refine g_get cx cl_X8 fl_X8_27 5 (.ref (ad 6)) e_X8_isAs_54 rfl rfl ?_
              refine g_alen cx 6 80 e_X8_isAs_57 rfl (by decide) ?_
              refine g_icmp_ge cx 84 e_X8_isAs_58 (by decide) (fun zc13 => ?_) (fun zc13 => ?_)
              · have p14 := gn_ge 80 220 (gc_le zc13) py12 (jv_k (x := 80) 80 (by decide)) (by decide)
                have hk15 := hkK52.trans (if_pos zc13)
                refine g_iconst cx 1 (by decide) e_X8_isAs_84 ?_
                exact hret e_X8_isAs_85 (Nat.le_of_ble_eq_true rfl) (Nat.le_of_ble_eq_true rfl) rfl ⟨rfl, (jv_w (jv_k (x := 1) 1 (by decide)) (by decide)), (hk15.symm.trans hSP)⟩
              · have p16 := gn_lt 0 79 (gc_nle zc13) py12 (jv_k (x := 80) 80 (by decide)) (by decide)
                have hk17 := hkK52.trans (if_neg zc13)
                refine g_aload_n cx 0 rfl e_X8_isAs_61 ?_
                refine g_get cx cl_X8 fl_X8_27 5 (.ref (ad 6)) e_X8_isAs_62 rfl rfl ?_
                refine g_iload_n cx 2 rfl e_X8_isAs_65 ?_
                refine g_iald cx 6 e_X8_isAs_66 rfl (jv_ix 80 p16 (by decide)) ?_
                refine g_topi (fun x18 ex18 => ?_)
                have hk19 := k_ls hk17 ex18
                refine g_aload_n cx 1 rfl e_X8_isAs_67 ?_
                refine g_get cx cl_X8 fl_X8_27 7 (.ref (ad 8)) e_X8_isAs_68 rfl rfl ?_
                refine g_iload_n cx 2 rfl e_X8_isAs_71 ?_
                refine g_iald cx 8 e_X8_isAs_72 rfl (jv_ix 80 p16 (by decide)) ?_
                refine g_topi (fun x20 ex20 => ?_)
                have hk21 := k_ls hk19 ex20
                refine g_icmp_eq cx 78 e_X8_isAs_73 (by decide) (fun zc22 => ?_) (fun zc22 => ?_)
                · have hk23 := hk21.trans (if_pos zc22)
                  obtain ⟨x24, ex24⟩ : ∃ z : Int32, z = y12 + Int32.ofInt 1 := ⟨_, rfl⟩
                  have hk25 := k_ls hk23 (show x24 = y12 + 1 from ex24)
                  refine g_iinc cx x24 [(2, .int x24), (0, .ref (ad 5)), (1, .ref (ad 7))] 2 e_X8_isAs_78 rfl ex24.symm (by decide) rfl ?_
                  have zx24 := jv_add 1 80 (show x24 = y12 + 1 from ex24) p16 (jv_k (x := 1) 1 (by decide)) (by decide)
                  refine g_goto cx 52 e_X8_isAs_81 (by decide) ?_
                  refine g_lsub [1, 2, 0] [(0, .ref (ad 5)), (1, .ref (ad 7)), (2, .int x24)] rfl ?_
                  exact ih52 x24 (jv_w zx24.2 (by decide)) (hk25.trans (by rw [hb52])) (Nat.lt_of_lt_of_le (show (2147483647 - x24.toInt).toNat < (2147483647 - y12.toInt).toNat from by have q0 := (jv_k (x := 1) 1 (by decide)).1; have q1 := (jv_k (x := 1) 1 (by decide)).2; have q2 := (jv_k (x := 80) 80 (by decide)).1; have q3 := (jv_k (x := 80) 80 (by decide)).2; have q4 := zx24.2.1; have q5 := zx24.2.2; have q6 := p16.1; have q7 := p16.2; have q8 := (gc_nle zc13); have q9 := (g_eq0 zx24.1); omega) (Nat.le_of_lt_succ hm52))
                · have hk26 := hk21.trans (if_neg zc22)
                  refine g_iconst cx 0 (by decide) e_X8_isAs_76 ?_
                  exact hret e_X8_isAs_77 (Nat.le_of_ble_eq_true rfl) (Nat.le_of_ble_eq_true rfl) rfl ⟨rfl, (jv_w (jv_k (x := 0) 0 (by decide)) (by decide)), (hk26.symm.trans hSP)⟩
          refine g_lsub [1, 2, 0] [(0, .ref (ad 5)), (1, .ref (ad 7)), (2, .int 0)] rfl ?_
          exact J52 8589934592 0 (jv_w (jv_k (x := 0) 0 (by decide)) (by decide)) hk11 (show (2147483647 - (0 : Int32).toInt).toNat < 8589934592 from by have q0 := (jv_k (x := 0) 0 (by decide)).1; have q1 := (jv_k (x := 0) 0 (by decide)).2; omega)
        · have hk27 := hk9.trans (if_neg zc10)
          refine g_lsub [] [] rfl ?_
          exact J48  hk27
def K_X7_bestPull_144 (b63 : (Nat → Int32) → (Nat → Nat → Int32) → (Int32) → (Nat → Int32) × (Nat → Nat → Int32)) (F75 : Nat → Int32) (y34 : Int32) (R78 : Nat → Nat → Int32) : (Nat → Int32) × (Nat → Nat → Int32) :=
  k_lt (y34 + 1) (fun x79 => b63 F75 R78 x79)
def KB_X7_bestPull_63 (b63 : (Nat → Int32) → (Nat → Nat → Int32) → (Int32) → (Nat → Int32) × (Nat → Nat → Int32)) (b54 : (Nat → Int32) → (Nat → Nat → Int32) → (Int32) → (Nat → Int32) × (Nat → Nat → Int32)) (F : Nat → Int32) (y12 : Int32) (y24 : Int32) (F35 : Nat → Int32) (R36 : Nat → Nat → Int32) (y34 : Int32) : (Nat → Int32) × (Nat → Nat → Int32) :=
  if 6 < y34 then k_lt (y24 + 1) (fun x40 => b54 F35 R36 x40) else k_lt (upd F35 241 0) (fun F44 => k_lt2 (sp_X5_add_15 F44 R36 y12 y34) (fun F50 R51 => k_lt (y12 * y34) (fun x53 => k_lt ((F 81) - x53) (fun x55 => k_lt2 (sp_X5_addTill_15 F50 R51 y24 x55) (fun F61 R62 => k_lt2 (sp_X0_run F61 R62) (fun F68 R69 => k_lt3 (sp_X7_improves F68 R69) (fun r71 F75 R76 => if r71 = 0 then K_X7_bestPull_144 b63 F75 y34 R76 else k_lt (g_u R76 36 (upd (R76 36) 0 y12)) (fun R86 => k_lt (g_u R86 36 (upd (R86 36) 1 y24)) (fun R88 => k_lt (g_u R88 36 (upd (R88 36) 2 y34)) (fun R90 => K_X7_bestPull_144 b63 F75 y34 R90))))))))))
def K_X7_bestPull_63 (b54 : (Nat → Int32) → (Nat → Nat → Int32) → (Int32) → (Nat → Int32) × (Nat → Nat → Int32)) (F : Nat → Int32) (y12 : Int32) (y24 : Int32) : Nat → (Nat → Int32) → (Nat → Nat → Int32) → (Int32) → (Nat → Int32) × (Nat → Nat → Int32)
  | 0 => fun F35 R36 _ => (F35, R36)
  | n + 1 => KB_X7_bestPull_63 (K_X7_bestPull_63 b54 F y12 y24 n) b54 F y12 y24
def KB_X7_bestPull_54 (b54 : (Nat → Int32) → (Nat → Nat → Int32) → (Int32) → (Nat → Int32) × (Nat → Nat → Int32)) (b46 : (Nat → Int32) → (Nat → Nat → Int32) → (Int32) → (Nat → Int32) × (Nat → Nat → Int32)) (F : Nat → Int32) (y12 : Int32) (F25 : Nat → Int32) (R26 : Nat → Nat → Int32) (y24 : Int32) : (Nat → Int32) × (Nat → Nat → Int32) :=
  if 12 < y24 then k_lt (y12 + 1) (fun x30 => b46 F25 R26 x30) else K_X7_bestPull_63 b54 F y12 y24 8589934592 F25 R26 1
def K_X7_bestPull_54 (b46 : (Nat → Int32) → (Nat → Nat → Int32) → (Int32) → (Nat → Int32) × (Nat → Nat → Int32)) (F : Nat → Int32) (y12 : Int32) : Nat → (Nat → Int32) → (Nat → Nat → Int32) → (Int32) → (Nat → Int32) × (Nat → Nat → Int32)
  | 0 => fun F25 R26 _ => (F25, R26)
  | n + 1 => KB_X7_bestPull_54 (K_X7_bestPull_54 b46 F y12 n) b46 F y12
def KB_X7_bestPull_46 (b46 : (Nat → Int32) → (Nat → Nat → Int32) → (Int32) → (Nat → Int32) × (Nat → Nat → Int32)) (F : Nat → Int32) (F13 : Nat → Int32) (R14 : Nat → Nat → Int32) (y12 : Int32) : (Nat → Int32) × (Nat → Nat → Int32) :=
  if 12 < y12 then k_lt (g_u R14 36 (upd (R14 36) 3 (F13 564))) (fun R18 => k_lt (g_u R18 36 (upd (R18 36) 4 (F13 565))) (fun R20 => (F13, R20))) else K_X7_bestPull_54 b46 F y12 8589934592 F13 R14 1
def K_X7_bestPull_46 (F : Nat → Int32) : Nat → (Nat → Int32) → (Nat → Nat → Int32) → (Int32) → (Nat → Int32) × (Nat → Nat → Int32)
  | 0 => fun F13 R14 _ => (F13, R14)
  | n + 1 => KB_X7_bestPull_46 (K_X7_bestPull_46 F n) F
def K_X7_bestPull_23 (F : Nat → Int32) (R : Nat → Nat → Int32) (a0 : Int32)  : (Nat → Int32) × (Nat → Nat → Int32) :=
  k_lt (upd F 571 a0) (fun F1 => k_lt2 (sp_X8_copy_7_r5 F1 R) (fun F7 R8 => k_lt (upd F7 564 (-1)) (fun F10 => K_X7_bestPull_46 F 8589934592 F10 R8 1)))
def sp_X7_bestPull (F : Nat → Int32) (R : Nat → Nat → Int32) (a0 : Int32) : (Nat → Int32) × (Nat → Nat → Int32) :=
  if a0 = (F 571) then k_lt (sp_X8_isAs_5_r7 F R) (fun r95 => if r95 = 0 then K_X7_bestPull_23 F R a0 else (F, R)) else K_X7_bestPull_23 F R a0
theorem e_X7_bestPull_0 : g_dc cX7_bestPull 0 (.iload_n 1) 1 1 := ⟨by decide +kernel, rfl⟩
theorem e_X7_bestPull_1 : g_dc cX7_bestPull 1 (.aload_n 0) 1 2 := ⟨by decide +kernel, rfl⟩
theorem e_X7_bestPull_2 : g_dc cX7_bestPull 2 (.getfield 38) 3 5 := ⟨by decide +kernel, rfl⟩
theorem e_X7_bestPull_5 : g_dc cX7_bestPull 5 (.if_icmp .ne 18) 3 8 := ⟨by decide +kernel, rfl⟩
theorem e_X7_bestPull_8 : g_dc cX7_bestPull 8 (.aload_n 0) 1 9 := ⟨by decide +kernel, rfl⟩
theorem e_X7_bestPull_9 : g_dc cX7_bestPull 9 (.getfield 53) 3 12 := ⟨by decide +kernel, rfl⟩
theorem e_X7_bestPull_12 : g_dc cX7_bestPull 12 (.aload_n 0) 1 13 := ⟨by decide +kernel, rfl⟩
theorem e_X7_bestPull_13 : g_dc cX7_bestPull 13 (.getfield 34) 3 16 := ⟨by decide +kernel, rfl⟩
theorem e_X7_bestPull_16 : g_dc cX7_bestPull 16 (.invokevirtual 107) 3 19 := ⟨by decide +kernel, rfl⟩
theorem e_X7_bestPull_19 : g_dc cX7_bestPull 19 (.ifCond .eq 4) 3 22 := ⟨by decide +kernel, rfl⟩
theorem e_X7_bestPull_22 : g_dc cX7_bestPull 22 (.return_) 1 23 := ⟨by decide +kernel, rfl⟩
theorem e_X7_bestPull_23 : g_dc cX7_bestPull 23 (.aload_n 0) 1 24 := ⟨by decide +kernel, rfl⟩
theorem e_X7_bestPull_24 : g_dc cX7_bestPull 24 (.iload_n 1) 1 25 := ⟨by decide +kernel, rfl⟩
theorem e_X7_bestPull_25 : g_dc cX7_bestPull 25 (.putfield 38) 3 28 := ⟨by decide +kernel, rfl⟩
theorem e_X7_bestPull_28 : g_dc cX7_bestPull 28 (.aload_n 0) 1 29 := ⟨by decide +kernel, rfl⟩
theorem e_X7_bestPull_29 : g_dc cX7_bestPull 29 (.getfield 34) 3 32 := ⟨by decide +kernel, rfl⟩
theorem e_X7_bestPull_32 : g_dc cX7_bestPull 32 (.aload_n 0) 1 33 := ⟨by decide +kernel, rfl⟩
theorem e_X7_bestPull_33 : g_dc cX7_bestPull 33 (.getfield 53) 3 36 := ⟨by decide +kernel, rfl⟩
theorem e_X7_bestPull_36 : g_dc cX7_bestPull 36 (.invokevirtual 64) 3 39 := ⟨by decide +kernel, rfl⟩
theorem e_X7_bestPull_39 : g_dc cX7_bestPull 39 (.aload_n 0) 1 40 := ⟨by decide +kernel, rfl⟩
theorem e_X7_bestPull_40 : g_dc cX7_bestPull 40 (.iconst (-1)) 1 41 := ⟨by decide +kernel, rfl⟩
theorem e_X7_bestPull_41 : g_dc cX7_bestPull 41 (.putfield 9) 3 44 := ⟨by decide +kernel, rfl⟩
theorem e_X7_bestPull_44 : g_dc cX7_bestPull 44 (.iconst 1) 1 45 := ⟨by decide +kernel, rfl⟩
theorem e_X7_bestPull_45 : g_dc cX7_bestPull 45 (.istore_n 2) 1 46 := ⟨by decide +kernel, rfl⟩
theorem e_X7_bestPull_46 : g_dc cX7_bestPull 46 (.iload_n 2) 1 47 := ⟨by decide +kernel, rfl⟩
theorem e_X7_bestPull_47 : g_dc cX7_bestPull 47 (.bipush 12) 2 49 := ⟨by decide +kernel, rfl⟩
theorem e_X7_bestPull_49 : g_dc cX7_bestPull 49 (.if_icmp .gt 113) 3 52 := ⟨by decide +kernel, rfl⟩
theorem e_X7_bestPull_52 : g_dc cX7_bestPull 52 (.iconst 1) 1 53 := ⟨by decide +kernel, rfl⟩
theorem e_X7_bestPull_53 : g_dc cX7_bestPull 53 (.istore_n 3) 1 54 := ⟨by decide +kernel, rfl⟩
theorem e_X7_bestPull_54 : g_dc cX7_bestPull 54 (.iload_n 3) 1 55 := ⟨by decide +kernel, rfl⟩
theorem e_X7_bestPull_55 : g_dc cX7_bestPull 55 (.bipush 12) 2 57 := ⟨by decide +kernel, rfl⟩
theorem e_X7_bestPull_57 : g_dc cX7_bestPull 57 (.if_icmp .gt 99) 3 60 := ⟨by decide +kernel, rfl⟩
theorem e_X7_bestPull_60 : g_dc cX7_bestPull 60 (.iconst 1) 1 61 := ⟨by decide +kernel, rfl⟩
theorem e_X7_bestPull_61 : g_dc cX7_bestPull 61 (.istore 4) 2 63 := ⟨by decide +kernel, rfl⟩
theorem e_X7_bestPull_63 : g_dc cX7_bestPull 63 (.iload 4) 2 65 := ⟨by decide +kernel, rfl⟩
theorem e_X7_bestPull_65 : g_dc cX7_bestPull 65 (.bipush 6) 2 67 := ⟨by decide +kernel, rfl⟩
theorem e_X7_bestPull_67 : g_dc cX7_bestPull 67 (.if_icmp .gt 83) 3 70 := ⟨by decide +kernel, rfl⟩
theorem e_X7_bestPull_70 : g_dc cX7_bestPull 70 (.aload_n 0) 1 71 := ⟨by decide +kernel, rfl⟩
theorem e_X7_bestPull_71 : g_dc cX7_bestPull 71 (.getfield 58) 3 74 := ⟨by decide +kernel, rfl⟩
theorem e_X7_bestPull_74 : g_dc cX7_bestPull 74 (.iconst 0) 1 75 := ⟨by decide +kernel, rfl⟩
theorem e_X7_bestPull_75 : g_dc cX7_bestPull 75 (.putfield 111) 3 78 := ⟨by decide +kernel, rfl⟩
theorem e_X7_bestPull_78 : g_dc cX7_bestPull 78 (.aload_n 0) 1 79 := ⟨by decide +kernel, rfl⟩
theorem e_X7_bestPull_79 : g_dc cX7_bestPull 79 (.getfield 58) 3 82 := ⟨by decide +kernel, rfl⟩
theorem e_X7_bestPull_82 : g_dc cX7_bestPull 82 (.iload_n 2) 1 83 := ⟨by decide +kernel, rfl⟩
theorem e_X7_bestPull_83 : g_dc cX7_bestPull 83 (.iload 4) 2 85 := ⟨by decide +kernel, rfl⟩
theorem e_X7_bestPull_85 : g_dc cX7_bestPull 85 (.invokevirtual 114) 3 88 := ⟨by decide +kernel, rfl⟩
theorem e_X7_bestPull_88 : g_dc cX7_bestPull 88 (.aload_n 0) 1 89 := ⟨by decide +kernel, rfl⟩
theorem e_X7_bestPull_89 : g_dc cX7_bestPull 89 (.getfield 58) 3 92 := ⟨by decide +kernel, rfl⟩
theorem e_X7_bestPull_92 : g_dc cX7_bestPull 92 (.iload_n 3) 1 93 := ⟨by decide +kernel, rfl⟩
theorem e_X7_bestPull_93 : g_dc cX7_bestPull 93 (.aload_n 0) 1 94 := ⟨by decide +kernel, rfl⟩
theorem e_X7_bestPull_94 : g_dc cX7_bestPull 94 (.getfield 53) 3 97 := ⟨by decide +kernel, rfl⟩
theorem e_X7_bestPull_97 : g_dc cX7_bestPull 97 (.getfield 82) 3 100 := ⟨by decide +kernel, rfl⟩
theorem e_X7_bestPull_100 : g_dc cX7_bestPull 100 (.iload_n 2) 1 101 := ⟨by decide +kernel, rfl⟩
theorem e_X7_bestPull_101 : g_dc cX7_bestPull 101 (.iload 4) 2 103 := ⟨by decide +kernel, rfl⟩
theorem e_X7_bestPull_103 : g_dc cX7_bestPull 103 (.imul) 1 104 := ⟨by decide +kernel, rfl⟩
theorem e_X7_bestPull_104 : g_dc cX7_bestPull 104 (.isub) 1 105 := ⟨by decide +kernel, rfl⟩
theorem e_X7_bestPull_105 : g_dc cX7_bestPull 105 (.invokevirtual 117) 3 108 := ⟨by decide +kernel, rfl⟩
theorem e_X7_bestPull_108 : g_dc cX7_bestPull 108 (.aload_n 0) 1 109 := ⟨by decide +kernel, rfl⟩
theorem e_X7_bestPull_109 : g_dc cX7_bestPull 109 (.getfield 46) 3 112 := ⟨by decide +kernel, rfl⟩
theorem e_X7_bestPull_112 : g_dc cX7_bestPull 112 (.invokevirtual 89) 3 115 := ⟨by decide +kernel, rfl⟩
theorem e_X7_bestPull_115 : g_dc cX7_bestPull 115 (.aload_n 0) 1 116 := ⟨by decide +kernel, rfl⟩
theorem e_X7_bestPull_116 : g_dc cX7_bestPull 116 (.invokevirtual 120) 3 119 := ⟨by decide +kernel, rfl⟩
theorem e_X7_bestPull_119 : g_dc cX7_bestPull 119 (.ifCond .eq 25) 3 122 := ⟨by decide +kernel, rfl⟩
theorem e_X7_bestPull_122 : g_dc cX7_bestPull 122 (.aload_n 0) 1 123 := ⟨by decide +kernel, rfl⟩
theorem e_X7_bestPull_123 : g_dc cX7_bestPull 123 (.getfield 27) 3 126 := ⟨by decide +kernel, rfl⟩
theorem e_X7_bestPull_126 : g_dc cX7_bestPull 126 (.iconst 0) 1 127 := ⟨by decide +kernel, rfl⟩
theorem e_X7_bestPull_127 : g_dc cX7_bestPull 127 (.iload_n 2) 1 128 := ⟨by decide +kernel, rfl⟩
theorem e_X7_bestPull_128 : g_dc cX7_bestPull 128 (.iastore) 1 129 := ⟨by decide +kernel, rfl⟩
theorem e_X7_bestPull_129 : g_dc cX7_bestPull 129 (.aload_n 0) 1 130 := ⟨by decide +kernel, rfl⟩
theorem e_X7_bestPull_130 : g_dc cX7_bestPull 130 (.getfield 27) 3 133 := ⟨by decide +kernel, rfl⟩
theorem e_X7_bestPull_133 : g_dc cX7_bestPull 133 (.iconst 1) 1 134 := ⟨by decide +kernel, rfl⟩
theorem e_X7_bestPull_134 : g_dc cX7_bestPull 134 (.iload_n 3) 1 135 := ⟨by decide +kernel, rfl⟩
theorem e_X7_bestPull_135 : g_dc cX7_bestPull 135 (.iastore) 1 136 := ⟨by decide +kernel, rfl⟩
theorem e_X7_bestPull_136 : g_dc cX7_bestPull 136 (.aload_n 0) 1 137 := ⟨by decide +kernel, rfl⟩
theorem e_X7_bestPull_137 : g_dc cX7_bestPull 137 (.getfield 27) 3 140 := ⟨by decide +kernel, rfl⟩
theorem e_X7_bestPull_140 : g_dc cX7_bestPull 140 (.iconst 2) 1 141 := ⟨by decide +kernel, rfl⟩
theorem e_X7_bestPull_141 : g_dc cX7_bestPull 141 (.iload 4) 2 143 := ⟨by decide +kernel, rfl⟩
theorem e_X7_bestPull_143 : g_dc cX7_bestPull 143 (.iastore) 1 144 := ⟨by decide +kernel, rfl⟩
theorem e_X7_bestPull_144 : g_dc cX7_bestPull 144 (.iinc 4 1) 3 147 := ⟨by decide +kernel, rfl⟩
theorem e_X7_bestPull_147 : g_dc cX7_bestPull 147 (.goto (-84)) 3 150 := ⟨by decide +kernel, rfl⟩
theorem e_X7_bestPull_150 : g_dc cX7_bestPull 150 (.iinc 3 1) 3 153 := ⟨by decide +kernel, rfl⟩
theorem e_X7_bestPull_153 : g_dc cX7_bestPull 153 (.goto (-99)) 3 156 := ⟨by decide +kernel, rfl⟩
theorem e_X7_bestPull_156 : g_dc cX7_bestPull 156 (.iinc 2 1) 3 159 := ⟨by decide +kernel, rfl⟩
theorem e_X7_bestPull_159 : g_dc cX7_bestPull 159 (.goto (-113)) 3 162 := ⟨by decide +kernel, rfl⟩
theorem e_X7_bestPull_162 : g_dc cX7_bestPull 162 (.aload_n 0) 1 163 := ⟨by decide +kernel, rfl⟩
theorem e_X7_bestPull_163 : g_dc cX7_bestPull 163 (.getfield 27) 3 166 := ⟨by decide +kernel, rfl⟩
theorem e_X7_bestPull_166 : g_dc cX7_bestPull 166 (.iconst 3) 1 167 := ⟨by decide +kernel, rfl⟩
theorem e_X7_bestPull_167 : g_dc cX7_bestPull 167 (.aload_n 0) 1 168 := ⟨by decide +kernel, rfl⟩
theorem e_X7_bestPull_168 : g_dc cX7_bestPull 168 (.getfield 9) 3 171 := ⟨by decide +kernel, rfl⟩
theorem e_X7_bestPull_171 : g_dc cX7_bestPull 171 (.iastore) 1 172 := ⟨by decide +kernel, rfl⟩
theorem e_X7_bestPull_172 : g_dc cX7_bestPull 172 (.aload_n 0) 1 173 := ⟨by decide +kernel, rfl⟩
theorem e_X7_bestPull_173 : g_dc cX7_bestPull 173 (.getfield 27) 3 176 := ⟨by decide +kernel, rfl⟩
theorem e_X7_bestPull_176 : g_dc cX7_bestPull 176 (.iconst 4) 1 177 := ⟨by decide +kernel, rfl⟩
theorem e_X7_bestPull_177 : g_dc cX7_bestPull 177 (.aload_n 0) 1 178 := ⟨by decide +kernel, rfl⟩
theorem e_X7_bestPull_178 : g_dc cX7_bestPull 178 (.getfield 15) 3 181 := ⟨by decide +kernel, rfl⟩
theorem e_X7_bestPull_181 : g_dc cX7_bestPull 181 (.iastore) 1 182 := ⟨by decide +kernel, rfl⟩
theorem e_X7_bestPull_182 : g_dc cX7_bestPull 182 (.return_) 1 183 := ⟨by decide +kernel, rfl⟩
def md_X7_bestPull : List Nat := [112, 113, 114, 115, 116, 241, 564, 565, 571, 601, 602, 603, 604, 605, 606, 673, 675, 691, 692, 693, 694, 695, 696, 697, 698]
def mr_X7_bestPull : List Nat := [8, 16, 23, 24, 36, 38, 39, 40, 41, 44, 45, 46]
set_option maxHeartbeats 4000000 in
set_option maxRecDepth 100000 in
theorem w_X7_bestPull (l : Launch) (X : gX) (ad : Nat → Nat) (F : Nat → Int32) (R : Nat → Nat → Int32) (hI : g_ok LK_wX F) (hA : g_okR LA_wX R) (a0 : Int32) : g_Cv l X yX7_bestPull cX7_bestPull 5 7 0 0 [.ref (ad 35), .int a0] (wX X ad F R) (fun w => ∃ (F' : Nat → Int32) (R' : Nat → Nat → Int32), w = wX X ad F' R' ∧ g_ok LK_wX F' ∧ g_okR LA_wX R' ∧ g_fr md_X7_bestPull F F' ∧ g_fr mr_X7_bestPull R R' ∧ (F', R') = sp_X7_bestPull F R a0) := by
  refine g_mv (by decide +kernel) (Nat.le_of_ble_eq_true rfl) (fun E cx hret => ?_)
  obtain ⟨SP, hSP⟩ : ∃ z, z = sp_X7_bestPull F R a0 := ⟨_, rfl⟩
  have hk0 := hSP
  unfold sp_X7_bestPull at hk0
  refine g_iload_n cx 1 rfl e_X7_bestPull_0 ?_
  refine g_aload_n cx 0 rfl e_X7_bestPull_1 ?_
  refine g_get cx cl_X7 fl_X7_38 35 (.int (F 571)) e_X7_bestPull_2 rfl rfl ?_
  have J23 : (SP = K_X7_bestPull_23 F R a0) → G X E 5 0 0 (wX X ad F R) [(0, .ref (ad 35)), (1, .int a0)] 23 [] := by
    intro   hkJ23
    unfold K_X7_bestPull_23 at hkJ23
    refine g_aload_n cx 0 rfl e_X7_bestPull_23 ?_
    refine g_iload_n cx 1 rfl e_X7_bestPull_24 ?_
    refine g_put cx cl_X7 fl_X7_38 35 (wX X ad (upd F 571 a0) R) e_X7_bestPull_25 rfl rfl rfl rfl (Nat.le_of_ble_eq_true rfl) rfl ?_
    obtain ⟨F1, hF1⟩ : ∃ z, z = upd F 571 a0 := ⟨_, rfl⟩
    rw [← hF1]
    have hk2 := k_ls hkJ23 hF1
    have oF1 : g_ok LK_wX F1 := by rw [hF1]; exact g_ok_u hI rfl
    have fF1 : g_fr md_X7_bestPull F F1 := by rw [hF1]; exact g_fr_u (g_fr_rf F) rfl
    refine g_aload_n cx 0 rfl e_X7_bestPull_28 ?_
    refine g_get cx cl_X7 fl_X7_34 35 (.ref (ad 7)) e_X7_bestPull_29 rfl rfl ?_
    refine g_aload_n cx 0 rfl e_X7_bestPull_32 ?_
    refine g_get cx cl_X7 fl_X7_53 35 (.ref (ad 5)) e_X7_bestPull_33 rfl rfl ?_
    refine g_cVvW cx [.ref (ad 5)] [] (w_X8_copy_7_r5 l X ad F1 R oF1 hA) ml_X7_64 yV_X8_copy e_X7_bestPull_36 (by unfold g_rr; decide) (by decide) 7 rfl rfl rfl (Nat.le_of_ble_eq_true rfl) (fun w4 h5 => ?_)
    obtain ⟨F7, R8, rfl, oF7, oR8, cF7, cR8, hx6⟩ := h5
    have hk9 := k_ls2 hk2 hx6
    have fF7 : g_fr md_X7_bestPull F F7 := g_fr_c fF1 cF7 rfl
    have fR8 : g_fr mr_X7_bestPull R R8 := g_fr_c (g_fr_rf R) cR8 rfl
    refine g_aload_n cx 0 rfl e_X7_bestPull_39 ?_
    refine g_iconst cx (-1) (by decide) e_X7_bestPull_40 ?_
    refine g_put cx cl_X7 fl_X7_9 35 (wX X ad (upd F7 564 (-1)) R8) e_X7_bestPull_41 rfl rfl rfl rfl (Nat.le_of_ble_eq_true rfl) rfl ?_
    obtain ⟨F10, hF10⟩ : ∃ z, z = upd F7 564 (-1) := ⟨_, rfl⟩
    rw [← hF10]
    have hk11 := k_ls hk9 hF10
    have oF10 : g_ok LK_wX F10 := by rw [hF10]; exact g_ok_u oF7 rfl
    have fF10 : g_fr md_X7_bestPull F F10 := by rw [hF10]; exact g_fr_u fF7 rfl
    refine g_iconst cx 1 (by decide) e_X7_bestPull_44 ?_
    refine g_istore_n cx [(2, .int 1), (0, .ref (ad 35)), (1, .int a0)] e_X7_bestPull_45 (by decide) rfl ?_
    have J46 : ∀ (N : Nat) (F13 : Nat → Int32) (R14 : Nat → Nat → Int32) (y12 : Int32), (g_ok LK_wX F13) → (g_fr md_X7_bestPull F F13) → (g_okR LA_wX R14) → (g_fr mr_X7_bestPull R R14) → (jv 1 13 y12) → (SP = K_X7_bestPull_46 F N F13 R14 y12) → (2147483647 - y12.toInt).toNat < N → G X E 5 0 0 (wX X ad F13 R14) [(0, .ref (ad 35)), (2, .int y12)] 46 [] := by
      intro N
      induction N with
      | zero => intro F13 R14 y12 oF13 fF13 oR14 fR14 py12 hkJ46 hm; exact absurd hm (Nat.not_lt_zero _)
      | succ N ih46 =>
        intro F13 R14 y12 oF13 fF13 oR14 fR14 py12 hkJ46 hm46
        have hkK46 : SP = KB_X7_bestPull_46 (K_X7_bestPull_46 F N) F F13 R14 y12 := hkJ46
        obtain ⟨b46, hb46⟩ : ∃ z, z = K_X7_bestPull_46 F N := ⟨_, rfl⟩
        rw [← hb46] at hkK46
        unfold KB_X7_bestPull_46 at hkK46
        refine g_iload_n cx 1 rfl e_X7_bestPull_46 ?_
        refine g_bipush cx 12 (by decide) e_X7_bestPull_47 ?_
        refine g_icmp_gt cx 162 e_X7_bestPull_49 (by decide) (fun zc15 => ?_) (fun zc15 => ?_)
        · have p16 := gn_gt 13 13 (gc_lt zc15) py12 (jv_k (x := 12) 12 (by decide)) (by decide)
          have hk17 := hkK46.trans (if_pos zc15)
          refine g_aload_n cx 0 rfl e_X7_bestPull_162 ?_
          refine g_get cx cl_X7 fl_X7_27 35 (.ref (ad 36)) e_X7_bestPull_163 rfl rfl ?_
          refine g_iconst cx 3 (by decide) e_X7_bestPull_166 ?_
          refine g_aload_n cx 0 rfl e_X7_bestPull_167 ?_
          refine g_get cx cl_X7 fl_X7_9 35 (.int (F13 564)) e_X7_bestPull_168 rfl rfl ?_
          refine g_iast cx 36 (wX X ad F13 (g_u R14 36 (upd (R14 36) 3 (F13 564)))) e_X7_bestPull_171 rfl (jv_ix 5 (jv_k (x := 3) 3 (by decide)) (by decide)) rfl ?_
          obtain ⟨R18, hR18⟩ : ∃ z, z = g_u R14 36 (upd (R14 36) 3 (F13 564)) := ⟨_, rfl⟩
          rw [← hR18]
          have hk19 := k_ls hk17 hR18
          have oR18 : g_okR LA_wX R18 := by rw [hR18]; exact g_okR_u oR14 rfl
          have fR18 : g_fr mr_X7_bestPull R R18 := by rw [hR18]; exact g_fr_r fR14 rfl
          refine g_aload_n cx 0 rfl e_X7_bestPull_172 ?_
          refine g_get cx cl_X7 fl_X7_27 35 (.ref (ad 36)) e_X7_bestPull_173 rfl rfl ?_
          refine g_iconst cx 4 (by decide) e_X7_bestPull_176 ?_
          refine g_aload_n cx 0 rfl e_X7_bestPull_177 ?_
          refine g_get cx cl_X7 fl_X7_15 35 (.int (F13 565)) e_X7_bestPull_178 rfl rfl ?_
          refine g_iast cx 36 (wX X ad F13 (g_u R18 36 (upd (R18 36) 4 (F13 565)))) e_X7_bestPull_181 rfl (jv_ix 5 (jv_k (x := 4) 4 (by decide)) (by decide)) rfl ?_
          obtain ⟨R20, hR20⟩ : ∃ z, z = g_u R18 36 (upd (R18 36) 4 (F13 565)) := ⟨_, rfl⟩
          rw [← hR20]
          have hk21 := k_ls hk19 hR20
          have oR20 : g_okR LA_wX R20 := by rw [hR20]; exact g_okR_u oR18 rfl
          have fR20 : g_fr mr_X7_bestPull R R20 := by rw [hR20]; exact g_fr_r fR18 rfl
          exact hret e_X7_bestPull_182 (Nat.le_of_ble_eq_true rfl) (Nat.le_of_ble_eq_true rfl) ⟨F13, R20, rfl, oF13, oR20, fF13, fR20, (hk21.symm.trans hSP)⟩
        · have p22 := gn_le 1 12 (gc_nlt zc15) py12 (jv_k (x := 12) 12 (by decide)) (by decide)
          have hk23 := hkK46.trans (if_neg zc15)
          refine g_iconst cx 1 (by decide) e_X7_bestPull_52 ?_
          refine g_istore_n cx [(3, .int 1), (0, .ref (ad 35)), (2, .int y12)] e_X7_bestPull_53 (by decide) rfl ?_
          have J54 : ∀ (N : Nat) (F25 : Nat → Int32) (R26 : Nat → Nat → Int32) (y24 : Int32), (g_ok LK_wX F25) → (g_fr md_X7_bestPull F F25) → (g_okR LA_wX R26) → (g_fr mr_X7_bestPull R R26) → (jv 1 13 y24) → (SP = K_X7_bestPull_54 b46 F y12 N F25 R26 y24) → (2147483647 - y24.toInt).toNat < N → G X E 5 0 0 (wX X ad F25 R26) [(0, .ref (ad 35)), (2, .int y12), (3, .int y24)] 54 [] := by
            intro N
            induction N with
            | zero => intro F25 R26 y24 oF25 fF25 oR26 fR26 py24 hkJ54 hm; exact absurd hm (Nat.not_lt_zero _)
            | succ N ih54 =>
              intro F25 R26 y24 oF25 fF25 oR26 fR26 py24 hkJ54 hm54
              have hkK54 : SP = KB_X7_bestPull_54 (K_X7_bestPull_54 b46 F y12 N) b46 F y12 F25 R26 y24 := hkJ54
              obtain ⟨b54, hb54⟩ : ∃ z, z = K_X7_bestPull_54 b46 F y12 N := ⟨_, rfl⟩
              rw [← hb54] at hkK54
              unfold KB_X7_bestPull_54 at hkK54
              refine g_iload_n cx 2 rfl e_X7_bestPull_54 ?_
              refine g_bipush cx 12 (by decide) e_X7_bestPull_55 ?_
              refine g_icmp_gt cx 156 e_X7_bestPull_57 (by decide) (fun zc27 => ?_) (fun zc27 => ?_)
              · have p28 := gn_gt 13 13 (gc_lt zc27) py24 (jv_k (x := 12) 12 (by decide)) (by decide)
                have hk29 := hkK54.trans (if_pos zc27)
                obtain ⟨x30, ex30⟩ : ∃ z : Int32, z = y12 + Int32.ofInt 1 := ⟨_, rfl⟩
                have hk31 := k_ls hk29 (show x30 = y12 + 1 from ex30)
                refine g_iinc cx x30 [(2, .int x30), (0, .ref (ad 35)), (3, .int y24)] 1 e_X7_bestPull_156 rfl ex30.symm (by decide) rfl ?_
                have zx30 := jv_add 2 13 (show x30 = y12 + 1 from ex30) p22 (jv_k (x := 1) 1 (by decide)) (by decide)
                refine g_goto cx 46 e_X7_bestPull_159 (by decide) ?_
                refine g_lsub [1, 0] [(0, .ref (ad 35)), (2, .int x30)] rfl ?_
                exact ih46 F25 R26 x30 oF25 fF25 oR26 fR26 (jv_w zx30.2 (by decide)) (hk31.trans (by rw [hb46])) (Nat.lt_of_lt_of_le (show (2147483647 - x30.toInt).toNat < (2147483647 - y12.toInt).toNat from by have q0 := (jv_k (x := 1) 1 (by decide)).1; have q1 := (jv_k (x := 1) 1 (by decide)).2; have q2 := (jv_k (x := 12) 12 (by decide)).1; have q3 := (jv_k (x := 12) 12 (by decide)).2; have q4 := zx30.2.1; have q5 := zx30.2.2; have q6 := p22.1; have q7 := p22.2; have q8 := p28.1; have q9 := p28.2; have q10 := (gc_nlt zc15); have q11 := (gc_lt zc27); have q12 := (g_eq0 zx30.1); omega) (Nat.le_of_lt_succ hm46))
              · have p32 := gn_le 1 12 (gc_nlt zc27) py24 (jv_k (x := 12) 12 (by decide)) (by decide)
                have hk33 := hkK54.trans (if_neg zc27)
                refine g_iconst cx 1 (by decide) e_X7_bestPull_60 ?_
                refine g_istore cx [(4, .int 1), (0, .ref (ad 35)), (2, .int y12), (3, .int y24)] e_X7_bestPull_61 (by decide) rfl ?_
                have J63 : ∀ (N : Nat) (F35 : Nat → Int32) (R36 : Nat → Nat → Int32) (y34 : Int32), (g_ok LK_wX F35) → (g_fr md_X7_bestPull F F35) → (g_okR LA_wX R36) → (g_fr mr_X7_bestPull R R36) → (jv 1 7 y34) → (SP = K_X7_bestPull_63 b54 F y12 y24 N F35 R36 y34) → (2147483647 - y34.toInt).toNat < N → G X E 5 0 0 (wX X ad F35 R36) [(0, .ref (ad 35)), (2, .int y12), (3, .int y24), (4, .int y34)] 63 [] := by
                  intro N
                  induction N with
                  | zero => intro F35 R36 y34 oF35 fF35 oR36 fR36 py34 hkJ63 hm; exact absurd hm (Nat.not_lt_zero _)
                  | succ N ih63 =>
                    intro F35 R36 y34 oF35 fF35 oR36 fR36 py34 hkJ63 hm63
                    have hkK63 : SP = KB_X7_bestPull_63 (K_X7_bestPull_63 b54 F y12 y24 N) b54 F y12 y24 F35 R36 y34 := hkJ63
                    obtain ⟨b63, hb63⟩ : ∃ z, z = K_X7_bestPull_63 b54 F y12 y24 N := ⟨_, rfl⟩
                    rw [← hb63] at hkK63
                    unfold KB_X7_bestPull_63 at hkK63
                    refine g_iload cx 3 rfl e_X7_bestPull_63 ?_
                    refine g_bipush cx 6 (by decide) e_X7_bestPull_65 ?_
                    refine g_icmp_gt cx 150 e_X7_bestPull_67 (by decide) (fun zc37 => ?_) (fun zc37 => ?_)
                    · have p38 := gn_gt 7 7 (gc_lt zc37) py34 (jv_k (x := 6) 6 (by decide)) (by decide)
                      have hk39 := hkK63.trans (if_pos zc37)
                      obtain ⟨x40, ex40⟩ : ∃ z : Int32, z = y24 + Int32.ofInt 1 := ⟨_, rfl⟩
                      have hk41 := k_ls hk39 (show x40 = y24 + 1 from ex40)
                      refine g_iinc cx x40 [(3, .int x40), (0, .ref (ad 35)), (2, .int y12), (4, .int y34)] 2 e_X7_bestPull_150 rfl ex40.symm (by decide) rfl ?_
                      have zx40 := jv_add 2 13 (show x40 = y24 + 1 from ex40) p32 (jv_k (x := 1) 1 (by decide)) (by decide)
                      refine g_goto cx 54 e_X7_bestPull_153 (by decide) ?_
                      refine g_lsub [1, 2, 0] [(0, .ref (ad 35)), (2, .int y12), (3, .int x40)] rfl ?_
                      exact ih54 F35 R36 x40 oF35 fF35 oR36 fR36 (jv_w zx40.2 (by decide)) (hk41.trans (by rw [hb54])) (Nat.lt_of_lt_of_le (show (2147483647 - x40.toInt).toNat < (2147483647 - y24.toInt).toNat from by have q0 := (jv_k (x := 1) 1 (by decide)).1; have q1 := (jv_k (x := 1) 1 (by decide)).2; have q2 := (jv_k (x := 12) 12 (by decide)).1; have q3 := (jv_k (x := 12) 12 (by decide)).2; have q4 := zx40.2.1; have q5 := zx40.2.2; have q6 := p22.1; have q7 := p22.2; have q8 := p32.1; have q9 := p32.2; have q10 := (gc_nlt zc15); have q11 := (gc_nlt zc27); have q12 := (g_eq0 zx40.1); omega) (Nat.le_of_lt_succ hm54))
                    · have p42 := gn_le 1 6 (gc_nlt zc37) py34 (jv_k (x := 6) 6 (by decide)) (by decide)
                      have hk43 := hkK63.trans (if_neg zc37)
                      refine g_aload_n cx 0 rfl e_X7_bestPull_70 ?_
                      refine g_get cx cl_X7 fl_X7_58 35 (.ref (ad 15)) e_X7_bestPull_71 rfl rfl ?_
                      refine g_iconst cx 0 (by decide) e_X7_bestPull_74 ?_
                      refine g_putN cx cl_X5 fn_X7_111 15 (wX X ad (upd F35 241 0) R36) e_X7_bestPull_75 rfl rfl rfl rfl (Nat.le_of_ble_eq_true rfl) rfl ?_
                      obtain ⟨F44, hF44⟩ : ∃ z, z = upd F35 241 0 := ⟨_, rfl⟩
                      rw [← hF44]
                      have hk45 := k_ls hk43 hF44
                      have oF44 : g_ok LK_wX F44 := by rw [hF44]; exact g_ok_p oF35 (jv_k (x := 0) 0 (by decide)) rfl
                      have fF44 : g_fr md_X7_bestPull F F44 := by rw [hF44]; exact g_fr_u fF35 rfl
                      refine g_aload_n cx 0 rfl e_X7_bestPull_78 ?_
                      refine g_get cx cl_X7 fl_X7_58 35 (.ref (ad 15)) e_X7_bestPull_79 rfl rfl ?_
                      refine g_iload_n cx 1 rfl e_X7_bestPull_82 ?_
                      refine g_iload cx 3 rfl e_X7_bestPull_83 ?_
                      refine g_cVvW cx [.int y12, .int y34] [] (w_X5_add_15 l X ad F44 R36 oF44 oR36 y12 y34) ml_X7_114 yV_X5_add e_X7_bestPull_85 (by unfold g_rr; decide) (by decide) 15 rfl rfl rfl (Nat.le_of_ble_eq_true rfl) (fun w47 h48 => ?_)
                      obtain ⟨F50, R51, rfl, oF50, oR51, cF50, cR51, hx49⟩ := h48
                      have hk52 := k_ls2 hk45 hx49
                      have fF50 : g_fr md_X7_bestPull F F50 := g_fr_c fF44 cF50 rfl
                      have fR51 : g_fr mr_X7_bestPull R R51 := g_fr_c fR36 cR51 rfl
                      refine g_aload_n cx 0 rfl e_X7_bestPull_88 ?_
                      refine g_get cx cl_X7 fl_X7_58 35 (.ref (ad 15)) e_X7_bestPull_89 rfl rfl ?_
                      refine g_iload_n cx 2 rfl e_X7_bestPull_92 ?_
                      refine g_aload_n cx 0 rfl e_X7_bestPull_93 ?_
                      refine g_get cx cl_X7 fl_X7_53 35 (.ref (ad 5)) e_X7_bestPull_94 rfl rfl ?_
                      refine g_getN cx cl_X8 fn_X7_82 5 (.int (F50 81)) e_X7_bestPull_97 rfl rfl ?_
                      refine g_toi (F 81) (((cF50 81 rfl).trans (g_pu2 hF44 rfl)).trans (fF35 81 rfl)) ?_
                      refine g_iload_n cx 1 rfl e_X7_bestPull_100 ?_
                      refine g_iload cx 3 rfl e_X7_bestPull_101 ?_
                      refine g_imul cx e_X7_bestPull_103 ?_
                      refine g_topi (fun x53 ex53 => ?_)
                      have hk54 := k_ls hk52 ex53
                      have zx53 := jv_mul 1 72 ex53 p22 p42 (by decide)
                      refine g_isub cx e_X7_bestPull_104 ?_
                      refine g_topi (fun x55 ex55 => ?_)
                      have hk56 := k_ls hk54 ex55
                      refine g_cVvW cx [.int y24, .int x55] [] (w_X5_addTill_15 l X ad F50 R51 oF50 oR51 y24 x55) ml_X7_117 yV_X5_addTill e_X7_bestPull_105 (by unfold g_rr; decide) (by decide) 15 rfl rfl rfl (Nat.le_of_ble_eq_true rfl) (fun w58 h59 => ?_)
                      obtain ⟨F61, R62, rfl, oF61, oR62, cF61, cR62, hx60⟩ := h59
                      have hk63 := k_ls2 hk56 hx60
                      have fF61 : g_fr md_X7_bestPull F F61 := g_fr_c fF50 cF61 rfl
                      have fR62 : g_fr mr_X7_bestPull R R62 := g_fr_c fR51 cR62 rfl
                      refine g_aload_n cx 0 rfl e_X7_bestPull_108 ?_
                      refine g_get cx cl_X7 fl_X7_46 35 (.ref (ad 37)) e_X7_bestPull_109 rfl rfl ?_
                      refine g_cVvW cx [] [] (w_X0_run l X ad F61 R62 oF61 oR62) ml_X7_89 yV_X0_run e_X7_bestPull_112 (by unfold g_rr; decide) (by decide) 37 rfl rfl rfl (Nat.le_of_ble_eq_true rfl) (fun w65 h66 => ?_)
                      obtain ⟨F68, R69, rfl, oF68, oR69, cF68, cR69, hx67⟩ := h66
                      have hk70 := k_ls2 hk63 hx67
                      have fF68 : g_fr md_X7_bestPull F F68 := g_fr_c fF61 cF68 rfl
                      have fR69 : g_fr mr_X7_bestPull R R69 := g_fr_c fR62 cR69 rfl
                      refine g_aload_n cx 0 rfl e_X7_bestPull_115 ?_
                      refine g_cViW cx [] [] (w_X7_improves l X ad F68 R69 oF68 oR69) ml_X7_120 yV_X7_improves e_X7_bestPull_116 (by unfold g_rr; decide) (by decide) 35 rfl rfl rfl (Nat.le_of_ble_eq_true rfl) (fun r71 w72 h73 => ?_)
                      obtain ⟨F75, R76, rfl, oF75, oR76, cF75, cR76, pr71, hx74⟩ := h73
                      have hk77 := k_ls3 hk70 hx74
                      have fF75 : g_fr md_X7_bestPull F F75 := g_fr_c fF68 cF75 rfl
                      have fR76 : g_fr mr_X7_bestPull R R76 := g_fr_c fR69 cR76 rfl
                      have J144 : ∀ (R78 : Nat → Nat → Int32), (g_okR LA_wX R78) → (g_fr mr_X7_bestPull R R78) → (SP = K_X7_bestPull_144 b63 F75 y34 R78) → G X E 5 0 0 (wX X ad F75 R78) [(0, .ref (ad 35)), (2, .int y12), (3, .int y24), (4, .int y34)] 144 [] := by
                        intro R78 oR78 fR78 hkJ144
                        unfold K_X7_bestPull_144 at hkJ144
                        obtain ⟨x79, ex79⟩ : ∃ z : Int32, z = y34 + Int32.ofInt 1 := ⟨_, rfl⟩
                        have hk80 := k_ls hkJ144 (show x79 = y34 + 1 from ex79)
                        refine g_iinc cx x79 [(4, .int x79), (0, .ref (ad 35)), (2, .int y12), (3, .int y24)] 3 e_X7_bestPull_144 rfl ex79.symm (by decide) rfl ?_
                        have zx79 := jv_add 2 7 (show x79 = y34 + 1 from ex79) p42 (jv_k (x := 1) 1 (by decide)) (by decide)
                        refine g_goto cx 63 e_X7_bestPull_147 (by decide) ?_
                        refine g_lsub [1, 2, 3, 0] [(0, .ref (ad 35)), (2, .int y12), (3, .int y24), (4, .int x79)] rfl ?_
                        exact ih63 F75 R78 x79 oF75 fF75 oR78 fR78 (jv_w zx79.2 (by decide)) (hk80.trans (by rw [hb63])) (Nat.lt_of_lt_of_le (show (2147483647 - x79.toInt).toNat < (2147483647 - y34.toInt).toNat from by have q0 := (jv_k (x := 1) 1 (by decide)).1; have q1 := (jv_k (x := 1) 1 (by decide)).2; have q2 := (jv_k (x := 6) 6 (by decide)).1; have q3 := (jv_k (x := 6) 6 (by decide)).2; have q4 := zx79.2.1; have q5 := zx79.2.2; have q6 := p42.1; have q7 := p42.2; have q8 := (gc_nlt zc37); have q9 := (g_eq0 zx79.1); omega) (Nat.le_of_lt_succ hm63))
                      refine g_if_eq cx 144 e_X7_bestPull_119 (by decide) (fun zc81 => ?_) (fun zc81 => ?_)
                      · have p82 := gn_eq 0 0 (gc_eq zc81) pr71 (jv_k (x := 0) 0 (by decide)) (by decide)
                        have hk83 := hk77.trans (if_pos zc81)
                        exact J144 R76 oR76 fR76 hk83
                      · have p84 := gn_neL 1 1 (gc_ne zc81) pr71 (jv_k (x := 0) 0 (by decide)) (by decide)
                        have hk85 := hk77.trans (if_neg zc81)
                        refine g_aload_n cx 0 rfl e_X7_bestPull_122 ?_
                        refine g_get cx cl_X7 fl_X7_27 35 (.ref (ad 36)) e_X7_bestPull_123 rfl rfl ?_
                        refine g_iconst cx 0 (by decide) e_X7_bestPull_126 ?_
                        refine g_iload_n cx 1 rfl e_X7_bestPull_127 ?_
                        refine g_iast cx 36 (wX X ad F75 (g_u R76 36 (upd (R76 36) 0 y12))) e_X7_bestPull_128 rfl (jv_ix 5 (jv_k (x := 0) 0 (by decide)) (by decide)) rfl ?_
                        obtain ⟨R86, hR86⟩ : ∃ z, z = g_u R76 36 (upd (R76 36) 0 y12) := ⟨_, rfl⟩
                        rw [← hR86]
                        have hk87 := k_ls hk85 hR86
                        have oR86 : g_okR LA_wX R86 := by rw [hR86]; exact g_okR_u oR76 rfl
                        have fR86 : g_fr mr_X7_bestPull R R86 := by rw [hR86]; exact g_fr_r fR76 rfl
                        refine g_aload_n cx 0 rfl e_X7_bestPull_129 ?_
                        refine g_get cx cl_X7 fl_X7_27 35 (.ref (ad 36)) e_X7_bestPull_130 rfl rfl ?_
                        refine g_iconst cx 1 (by decide) e_X7_bestPull_133 ?_
                        refine g_iload_n cx 2 rfl e_X7_bestPull_134 ?_
                        refine g_iast cx 36 (wX X ad F75 (g_u R86 36 (upd (R86 36) 1 y24))) e_X7_bestPull_135 rfl (jv_ix 5 (jv_k (x := 1) 1 (by decide)) (by decide)) rfl ?_
                        obtain ⟨R88, hR88⟩ : ∃ z, z = g_u R86 36 (upd (R86 36) 1 y24) := ⟨_, rfl⟩
                        rw [← hR88]
                        have hk89 := k_ls hk87 hR88
                        have oR88 : g_okR LA_wX R88 := by rw [hR88]; exact g_okR_u oR86 rfl
                        have fR88 : g_fr mr_X7_bestPull R R88 := by rw [hR88]; exact g_fr_r fR86 rfl
                        refine g_aload_n cx 0 rfl e_X7_bestPull_136 ?_
                        refine g_get cx cl_X7 fl_X7_27 35 (.ref (ad 36)) e_X7_bestPull_137 rfl rfl ?_
                        refine g_iconst cx 2 (by decide) e_X7_bestPull_140 ?_
                        refine g_iload cx 3 rfl e_X7_bestPull_141 ?_
                        refine g_iast cx 36 (wX X ad F75 (g_u R88 36 (upd (R88 36) 2 y34))) e_X7_bestPull_143 rfl (jv_ix 5 (jv_k (x := 2) 2 (by decide)) (by decide)) rfl ?_
                        obtain ⟨R90, hR90⟩ : ∃ z, z = g_u R88 36 (upd (R88 36) 2 y34) := ⟨_, rfl⟩
                        rw [← hR90]
                        have hk91 := k_ls hk89 hR90
                        have oR90 : g_okR LA_wX R90 := by rw [hR90]; exact g_okR_u oR88 rfl
                        have fR90 : g_fr mr_X7_bestPull R R90 := by rw [hR90]; exact g_fr_r fR88 rfl
                        exact J144 R90 oR90 fR90 hk91
                refine g_lsub [1, 2, 3, 0] [(0, .ref (ad 35)), (2, .int y12), (3, .int y24), (4, .int 1)] rfl ?_
                exact J63 8589934592 F25 R26 1 oF25 fF25 oR26 fR26 (jv_w (jv_k (x := 1) 1 (by decide)) (by decide)) hk33 (show (2147483647 - (1 : Int32).toInt).toNat < 8589934592 from by have q0 := (jv_k (x := 1) 1 (by decide)).1; have q1 := (jv_k (x := 1) 1 (by decide)).2; omega)
          refine g_lsub [1, 2, 0] [(0, .ref (ad 35)), (2, .int y12), (3, .int 1)] rfl ?_
          exact J54 8589934592 F13 R14 1 oF13 fF13 oR14 fR14 (jv_w (jv_k (x := 1) 1 (by decide)) (by decide)) hk23 (show (2147483647 - (1 : Int32).toInt).toNat < 8589934592 from by have q0 := (jv_k (x := 1) 1 (by decide)).1; have q1 := (jv_k (x := 1) 1 (by decide)).2; omega)
    refine g_lsub [1, 0] [(0, .ref (ad 35)), (2, .int 1)] rfl ?_
    exact J46 8589934592 F10 R8 1 oF10 fF10 oR8 fR8 (jv_w (jv_k (x := 1) 1 (by decide)) (by decide)) hk11 (show (2147483647 - (1 : Int32).toInt).toNat < 8589934592 from by have q0 := (jv_k (x := 1) 1 (by decide)).1; have q1 := (jv_k (x := 1) 1 (by decide)).2; omega)
  refine g_icmp_ne cx 23 e_X7_bestPull_5 (by decide) (fun zc92 => ?_) (fun zc92 => ?_)
  · have hk93 := hk0.trans (if_neg zc92)
    exact J23  hk93
  · have hk94 := hk0.trans (if_pos zc92)
    refine g_aload_n cx 0 rfl e_X7_bestPull_8 ?_
    refine g_get cx cl_X7 fl_X7_53 35 (.ref (ad 5)) e_X7_bestPull_9 rfl rfl ?_
    refine g_aload_n cx 0 rfl e_X7_bestPull_12 ?_
    refine g_get cx cl_X7 fl_X7_34 35 (.ref (ad 7)) e_X7_bestPull_13 rfl rfl ?_
    refine g_cViW cx [.ref (ad 7)] [] (w_X8_isAs_5_r7 l X ad F R hI hA) ml_X7_107 yV_X8_isAs e_X7_bestPull_16 (by unfold g_rr; decide) (by decide) 5 rfl rfl rfl (Nat.le_of_ble_eq_true rfl) (fun r95 w96 h97 => ?_)
    obtain ⟨rfl, pr95, hx98⟩ := h97
    have hk99 := k_ls hk94 hx98
    refine g_if_eq cx 23 e_X7_bestPull_19 (by decide) (fun zc100 => ?_) (fun zc100 => ?_)
    · have p101 := gn_eq 0 0 (gc_eq zc100) pr95 (jv_k (x := 0) 0 (by decide)) (by decide)
      have hk102 := hk99.trans (if_pos zc100)
      exact J23  hk102
    · have p103 := gn_neL 1 1 (gc_ne zc100) pr95 (jv_k (x := 0) 0 (by decide)) (by decide)
      have hk104 := hk99.trans (if_neg zc100)
      exact hret e_X7_bestPull_22 (Nat.le_of_ble_eq_true rfl) (Nat.le_of_ble_eq_true rfl) ⟨F, R, rfl, hI, hA, (g_fr_rf F), (g_fr_rf R), (hk104.symm.trans hSP)⟩
def K_X7_bestIs_25  (y5 : Int32) : Int32 :=
  y5
def sp_X7_bestIs (F : Nat → Int32) (R : Nat → Nat → Int32) (a0 : Int32) : Int32 :=
  k_lt (g_in a0 0 4) (fun r1 => if r1 = 0 then K_X7_bestIs_25 (-1) else k_lt (R 36 (Int32.toNatClampNeg a0)) (fun x12 => K_X7_bestIs_25 x12))
theorem e_X7_bestIs_0 : g_dc cX7_bestIs 0 (.iload_n 1) 1 1 := ⟨by decide +kernel, rfl⟩
theorem e_X7_bestIs_1 : g_dc cX7_bestIs 1 (.iconst 0) 1 2 := ⟨by decide +kernel, rfl⟩
theorem e_X7_bestIs_2 : g_dc cX7_bestIs 2 (.aload_n 0) 1 3 := ⟨by decide +kernel, rfl⟩
theorem e_X7_bestIs_3 : g_dc cX7_bestIs 3 (.getfield 27) 3 6 := ⟨by decide +kernel, rfl⟩
theorem e_X7_bestIs_6 : g_dc cX7_bestIs 6 (.arraylength) 1 7 := ⟨by decide +kernel, rfl⟩
theorem e_X7_bestIs_7 : g_dc cX7_bestIs 7 (.iconst 1) 1 8 := ⟨by decide +kernel, rfl⟩
theorem e_X7_bestIs_8 : g_dc cX7_bestIs 8 (.isub) 1 9 := ⟨by decide +kernel, rfl⟩
theorem e_X7_bestIs_9 : g_dc cX7_bestIs 9 (.invokestatic 103) 3 12 := ⟨by decide +kernel, rfl⟩
theorem e_X7_bestIs_12 : g_dc cX7_bestIs 12 (.ifCond .eq 12) 3 15 := ⟨by decide +kernel, rfl⟩
theorem e_X7_bestIs_15 : g_dc cX7_bestIs 15 (.aload_n 0) 1 16 := ⟨by decide +kernel, rfl⟩
theorem e_X7_bestIs_16 : g_dc cX7_bestIs 16 (.getfield 27) 3 19 := ⟨by decide +kernel, rfl⟩
theorem e_X7_bestIs_19 : g_dc cX7_bestIs 19 (.iload_n 1) 1 20 := ⟨by decide +kernel, rfl⟩
theorem e_X7_bestIs_20 : g_dc cX7_bestIs 20 (.iaload) 1 21 := ⟨by decide +kernel, rfl⟩
theorem e_X7_bestIs_21 : g_dc cX7_bestIs 21 (.goto 4) 3 24 := ⟨by decide +kernel, rfl⟩
theorem e_X7_bestIs_24 : g_dc cX7_bestIs 24 (.iconst (-1)) 1 25 := ⟨by decide +kernel, rfl⟩
theorem e_X7_bestIs_25 : g_dc cX7_bestIs 25 (.ireturn) 1 26 := ⟨by decide +kernel, rfl⟩
set_option maxHeartbeats 4000000 in
set_option maxRecDepth 100000 in
theorem w_X7_bestIs (l : Launch) (X : gX) (ad : Nat → Nat) (F : Nat → Int32) (R : Nat → Nat → Int32) (hI : g_ok LK_wX F) (hA : g_okR LA_wX R) (a0 : Int32) : g_Ci l X yX7_bestIs cX7_bestIs 2 (some .int) 2 0 0 [.ref (ad 35), .int a0] (wX X ad F R) (fun r w => w = wX X ad F R ∧ jv (-2147483648) 2147483647 r ∧ r = sp_X7_bestIs F R a0) := by
  refine g_mi (by decide +kernel) (Nat.le_of_ble_eq_true rfl) (fun E cx hret => ?_)
  obtain ⟨SP, hSP⟩ : ∃ z, z = sp_X7_bestIs F R a0 := ⟨_, rfl⟩
  have hk0 := hSP
  unfold sp_X7_bestIs at hk0
  refine g_iload_n cx 1 rfl e_X7_bestIs_0 ?_
  refine g_iconst cx 0 (by decide) e_X7_bestIs_1 ?_
  refine g_aload_n cx 0 rfl e_X7_bestIs_2 ?_
  refine g_get cx cl_X7 fl_X7_27 35 (.ref (ad 36)) e_X7_bestIs_3 rfl rfl ?_
  refine g_alen cx 36 5 e_X7_bestIs_6 rfl (by decide) ?_
  refine g_iconst cx 1 (by decide) e_X7_bestIs_7 ?_
  refine g_isub cx e_X7_bestIs_8 ?_
  refine g_toi 4 (by decide) ?_
  refine g_cNiW cx [.int a0, .int 0, .int 4] [] (c_X10_within l X (wX X ad F R) a0 0 4) mn_X7_103 yS_X10_within e_X7_bestIs_9 (by unfold g_rr; decide) (by decide) rfl (Nat.le_of_ble_eq_true rfl) (fun r1 w2 h3 => ?_)
  obtain ⟨rfl, hr1⟩ := h3
  have pr1 : jv 0 1 r1 := by rw [hr1]; exact gi_01 _ _ _
  have hk4 := k_ls hk0 hr1
  have J25 : ∀ (y5 : Int32), (jv (-2147483648) 2147483647 y5) → (SP = K_X7_bestIs_25 y5) → G X E 2 0 0 (wX X ad F R) [] 25 [.int y5] := by
    intro y5 py5 hkJ25
    unfold K_X7_bestIs_25 at hkJ25
    exact hret e_X7_bestIs_25 (Nat.le_of_ble_eq_true rfl) (Nat.le_of_ble_eq_true rfl) rfl ⟨rfl, py5, (hkJ25.symm.trans hSP)⟩
  refine g_if_eq cx 24 e_X7_bestIs_12 (by decide) (fun zc6 => ?_) (fun zc6 => ?_)
  · have p7 := gn_eq 0 0 (gc_eq zc6) pr1 (jv_k (x := 0) 0 (by decide)) (by decide)
    have hk8 := hk4.trans (if_pos zc6)
    refine g_iconst cx (-1) (by decide) e_X7_bestIs_24 ?_
    refine g_lsub [] [] rfl ?_
    exact J25 (-1) (jv_w (jv_k (x := (-1)) (-1) (by decide)) (by decide)) hk8
  · have p9 := gn_neL 1 1 (gc_ne zc6) pr1 (jv_k (x := 0) 0 (by decide)) (by decide)
    have p10 := jv_i 0 4 (jv_t a0) (gi_in (A := 0) (B := 4) hr1 zc6 (by decide) (by decide)) (by decide)
    have hk11 := hk4.trans (if_neg zc6)
    refine g_aload_n cx 0 rfl e_X7_bestIs_15 ?_
    refine g_get cx cl_X7 fl_X7_27 35 (.ref (ad 36)) e_X7_bestIs_16 rfl rfl ?_
    refine g_iload_n cx 1 rfl e_X7_bestIs_19 ?_
    refine g_iald cx 36 e_X7_bestIs_20 rfl (jv_ix 5 p10 (by decide)) ?_
    refine g_topi (fun x12 ex12 => ?_)
    have hk13 := k_ls hk11 ex12
    refine g_goto cx 25 e_X7_bestIs_21 (by decide) ?_
    refine g_lsub [] [] rfl ?_
    exact J25 x12 (jv_t x12) hk13
def sp_X10_best (F : Nat → Int32) (R : Nat → Nat → Int32) (a0 : Int32) : Int32 × (Nat → Int32) × (Nat → Nat → Int32) :=
  k_lt (g_in a0 0 4) (fun r1 => if r1 = 0 then ((-1), F, R) else k_lt2 (sp_X7_lay_r1_r11 F R) (fun F13 R14 => k_lt2 (sp_X7_bestPull F13 R14 (F 12)) (fun F20 R21 => k_lt (sp_X7_bestIs F20 R21 a0) (fun r23 => (r23, F20, R21)))))
theorem e_X10_best_0 : g_dc cX10_best 0 (.iload_n 1) 1 1 := ⟨by decide +kernel, rfl⟩
theorem e_X10_best_1 : g_dc cX10_best 1 (.iconst 0) 1 2 := ⟨by decide +kernel, rfl⟩
theorem e_X10_best_2 : g_dc cX10_best 2 (.iconst 4) 1 3 := ⟨by decide +kernel, rfl⟩
theorem e_X10_best_3 : g_dc cX10_best 3 (.invokestatic 82) 3 6 := ⟨by decide +kernel, rfl⟩
theorem e_X10_best_6 : g_dc cX10_best 6 (.ifCond .ne 5) 3 9 := ⟨by decide +kernel, rfl⟩
theorem e_X10_best_9 : g_dc cX10_best 9 (.iconst (-1)) 1 10 := ⟨by decide +kernel, rfl⟩
theorem e_X10_best_10 : g_dc cX10_best 10 (.ireturn) 1 11 := ⟨by decide +kernel, rfl⟩
theorem e_X10_best_11 : g_dc cX10_best 11 (.aload_n 0) 1 12 := ⟨by decide +kernel, rfl⟩
theorem e_X10_best_12 : g_dc cX10_best 12 (.getfield 58) 3 15 := ⟨by decide +kernel, rfl⟩
theorem e_X10_best_15 : g_dc cX10_best 15 (.aload_n 0) 1 16 := ⟨by decide +kernel, rfl⟩
theorem e_X10_best_16 : g_dc cX10_best 16 (.getfield 10) 3 19 := ⟨by decide +kernel, rfl⟩
theorem e_X10_best_19 : g_dc cX10_best 19 (.aload_n 0) 1 20 := ⟨by decide +kernel, rfl⟩
theorem e_X10_best_20 : g_dc cX10_best 20 (.getfield 29) 3 23 := ⟨by decide +kernel, rfl⟩
theorem e_X10_best_23 : g_dc cX10_best 23 (.invokevirtual 148) 3 26 := ⟨by decide +kernel, rfl⟩
theorem e_X10_best_26 : g_dc cX10_best 26 (.aload_n 0) 1 27 := ⟨by decide +kernel, rfl⟩
theorem e_X10_best_27 : g_dc cX10_best 27 (.getfield 58) 3 30 := ⟨by decide +kernel, rfl⟩
theorem e_X10_best_30 : g_dc cX10_best 30 (.aload_n 0) 1 31 := ⟨by decide +kernel, rfl⟩
theorem e_X10_best_31 : g_dc cX10_best 31 (.getfield 78) 3 34 := ⟨by decide +kernel, rfl⟩
theorem e_X10_best_34 : g_dc cX10_best 34 (.invokevirtual 180) 3 37 := ⟨by decide +kernel, rfl⟩
theorem e_X10_best_37 : g_dc cX10_best 37 (.aload_n 0) 1 38 := ⟨by decide +kernel, rfl⟩
theorem e_X10_best_38 : g_dc cX10_best 38 (.getfield 58) 3 41 := ⟨by decide +kernel, rfl⟩
theorem e_X10_best_41 : g_dc cX10_best 41 (.iload_n 1) 1 42 := ⟨by decide +kernel, rfl⟩
theorem e_X10_best_42 : g_dc cX10_best 42 (.invokevirtual 183) 3 45 := ⟨by decide +kernel, rfl⟩
theorem e_X10_best_45 : g_dc cX10_best 45 (.ireturn) 1 46 := ⟨by decide +kernel, rfl⟩
def md_X10_best : List Nat := [80, 81, 82, 83, 84, 112, 113, 114, 115, 116, 241, 564, 565, 571, 601, 602, 603, 604, 605, 606, 672, 673, 674, 675, 691, 692, 693, 694, 695, 696, 697, 698]
def mr_X10_best : List Nat := [6, 8, 16, 23, 24, 36, 38, 39, 40, 41, 44, 45, 46]
set_option maxHeartbeats 4000000 in
set_option maxRecDepth 100000 in
theorem w_X10_best (l : Launch) (X : gX) (ad : Nat → Nat) (F : Nat → Int32) (R : Nat → Nat → Int32) (hI : g_ok LK_wX F) (hA : g_okR LA_wX R) (a0 : Int32) : g_Ci l X yX10_best cX10_best 2 (some .int) 8 0 0 [.ref (ad 0), .int a0] (wX X ad F R) (fun r w => ∃ (F' : Nat → Int32) (R' : Nat → Nat → Int32), w = wX X ad F' R' ∧ g_ok LK_wX F' ∧ g_okR LA_wX R' ∧ g_fr md_X10_best F F' ∧ g_fr mr_X10_best R R' ∧ jv (-2147483648) 2147483647 r ∧ (r, F', R') = sp_X10_best F R a0) := by
  refine g_mi (by decide +kernel) (Nat.le_of_ble_eq_true rfl) (fun E cx hret => ?_)
  obtain ⟨SP, hSP⟩ : ∃ z, z = sp_X10_best F R a0 := ⟨_, rfl⟩
  have hk0 := hSP
  unfold sp_X10_best at hk0
  refine g_iload_n cx 1 rfl e_X10_best_0 ?_
  refine g_iconst cx 0 (by decide) e_X10_best_1 ?_
  refine g_iconst cx 4 (by decide) e_X10_best_2 ?_
  refine g_cSiW cx [.int a0, .int 0, .int 4] [] (c_X10_within l X (wX X ad F R) a0 0 4) ml_X10_82 yS_X10_within rfl e_X10_best_3 (by unfold g_rr; decide) (by decide) rfl (Nat.le_of_ble_eq_true rfl) (fun r1 w2 h3 => ?_)
  obtain ⟨rfl, hr1⟩ := h3
  have pr1 : jv 0 1 r1 := by rw [hr1]; exact gi_01 _ _ _
  have hk4 := k_ls hk0 hr1
  refine g_if_ne cx 11 e_X10_best_6 (by decide) (fun zc5 => ?_) (fun zc5 => ?_)
  · have p6 := gn_neL 1 1 (gc_ne zc5) pr1 (jv_k (x := 0) 0 (by decide)) (by decide)
    have p7 := jv_i 0 4 (jv_t a0) (gi_in (A := 0) (B := 4) hr1 zc5 (by decide) (by decide)) (by decide)
    have hk8 := hk4.trans (if_neg zc5)
    refine g_aload_n cx 0 rfl e_X10_best_11 ?_
    refine g_get cx cl_X10 fl_X10_58 0 (.ref (ad 35)) e_X10_best_12 rfl rfl ?_
    refine g_aload_n cx 0 rfl e_X10_best_15 ?_
    refine g_get cx cl_X10 fl_X10_10 0 (.ref (ad 1)) e_X10_best_16 rfl rfl ?_
    refine g_aload_n cx 0 rfl e_X10_best_19 ?_
    refine g_get cx cl_X10 fl_X10_29 0 (.ref (ad 11)) e_X10_best_20 rfl rfl ?_
    refine g_cVvW cx [.ref (ad 1), .ref (ad 11)] [] (w_X7_lay_r1_r11 l X ad F R hI hA) ml_X10_148 yV_X7_lay e_X10_best_23 (by unfold g_rr; decide) (by decide) 35 rfl rfl rfl (Nat.le_of_ble_eq_true rfl) (fun w10 h11 => ?_)
    obtain ⟨F13, R14, rfl, oF13, oR14, cF13, cR14, hx12⟩ := h11
    have hk15 := k_ls2 hk8 hx12
    have fF13 : g_fr md_X10_best F F13 := g_fr_c (g_fr_rf F) cF13 rfl
    have fR14 : g_fr mr_X10_best R R14 := g_fr_c (g_fr_rf R) cR14 rfl
    refine g_aload_n cx 0 rfl e_X10_best_26 ?_
    refine g_get cx cl_X10 fl_X10_58 0 (.ref (ad 35)) e_X10_best_27 rfl rfl ?_
    refine g_aload_n cx 0 rfl e_X10_best_30 ?_
    refine g_get cx cl_X10 fl_X10_78 0 (.int (F13 12)) e_X10_best_31 rfl rfl ?_
    refine g_toi (F 12) (cF13 12 rfl) ?_
    refine g_cVvW cx [.int (F 12)] [] (w_X7_bestPull l X ad F13 R14 oF13 oR14 (F 12)) ml_X10_180 yV_X7_bestPull e_X10_best_34 (by unfold g_rr; decide) (by decide) 35 rfl rfl rfl (Nat.le_of_ble_eq_true rfl) (fun w17 h18 => ?_)
    obtain ⟨F20, R21, rfl, oF20, oR21, cF20, cR21, hx19⟩ := h18
    have hk22 := k_ls2 hk15 hx19
    have fF20 : g_fr md_X10_best F F20 := g_fr_c fF13 cF20 rfl
    have fR21 : g_fr mr_X10_best R R21 := g_fr_c fR14 cR21 rfl
    refine g_aload_n cx 0 rfl e_X10_best_37 ?_
    refine g_get cx cl_X10 fl_X10_58 0 (.ref (ad 35)) e_X10_best_38 rfl rfl ?_
    refine g_iload_n cx 1 rfl e_X10_best_41 ?_
    refine g_cViW cx [.int a0] [] (w_X7_bestIs l X ad F20 R21 oF20 oR21 a0) ml_X10_183 yV_X7_bestIs e_X10_best_42 (by unfold g_rr; decide) (by decide) 35 rfl rfl rfl (Nat.le_of_ble_eq_true rfl) (fun r23 w24 h25 => ?_)
    obtain ⟨rfl, pr23, hx26⟩ := h25
    have hk27 := k_ls hk22 hx26
    exact hret e_X10_best_45 (Nat.le_of_ble_eq_true rfl) (Nat.le_of_ble_eq_true rfl) rfl ⟨F20, R21, rfl, oF20, oR21, fF20, fR21, pr23, (hk27.symm.trans hSP)⟩
  · have p28 := gn_eq 0 0 (gc_eq zc5) pr1 (jv_k (x := 0) 0 (by decide)) (by decide)
    have hk29 := hk4.trans (if_pos zc5)
    refine g_iconst cx (-1) (by decide) e_X10_best_9 ?_
    exact hret e_X10_best_10 (Nat.le_of_ble_eq_true rfl) (Nat.le_of_ble_eq_true rfl) rfl ⟨F, R, rfl, hI, hA, (g_fr_rf F), (g_fr_rf R), (jv_w (jv_k (x := (-1)) (-1) (by decide)) (by decide)), (hk29.symm.trans hSP)⟩
def K_X6_take_22 (F : Nat → Int32) (R : Nat → Nat → Int32)  : Int32 × (Nat → Int32) × (Nat → Nat → Int32) :=
  (0, F, R)
def K_X6_take_94 (F24 : Nat → Int32) (R25 : Nat → Nat → Int32)  : Int32 × (Nat → Int32) × (Nat → Nat → Int32) :=
  (1, F24, R25)
def K_X6_take_88 (b32 : (Nat → Int32) → (Nat → Nat → Int32) → (Int32) → Int32 × (Nat → Int32) × (Nat → Nat → Int32)) (y23 : Int32) (F40 : Nat → Int32) (R41 : Nat → Nat → Int32) : Int32 × (Nat → Int32) × (Nat → Nat → Int32) :=
  k_lt (y23 + 1) (fun x42 => b32 F40 R41 x42)
def KB_X6_take_32 (b32 : (Nat → Int32) → (Nat → Nat → Int32) → (Int32) → Int32 × (Nat → Int32) × (Nat → Nat → Int32)) (a0 : Int32) (F24 : Nat → Int32) (R25 : Nat → Nat → Int32) (y23 : Int32) : Int32 × (Nat → Int32) × (Nat → Nat → Int32) :=
  if 10 ≤ y23 then K_X6_take_94 F24 R25 else if 5 ≤ (F24 755) then K_X6_take_94 F24 R25 else k_lt (1 <<< (y23 &&& 31)) (fun x36 => k_lt (a0 &&& x36) (fun x38 => if x38 = 0 then K_X6_take_88 b32 y23 F24 R25 else k_lt (g_u R25 48 (upd (R25 48) (Int32.toNatClampNeg (F24 755)) y23)) (fun R48 => k_lt (g_u R48 49 (upd (R48 49) (Int32.toNatClampNeg (F24 755)) y23)) (fun R50 => k_lt ((F24 755) + 1) (fun x52 => k_lt (upd F24 755 x52) (fun F54 => K_X6_take_88 b32 y23 F54 R50))))))
def K_X6_take_32 (a0 : Int32) : Nat → (Nat → Int32) → (Nat → Nat → Int32) → (Int32) → Int32 × (Nat → Int32) × (Nat → Nat → Int32)
  | 0 => fun F24 R25 _ => (0, F24, R25)
  | n + 1 => KB_X6_take_32 (K_X6_take_32 a0 n) a0
def sp_X6_take (F : Nat → Int32) (R : Nat → Nat → Int32) (a0 : Int32) (a1 : Int32) : Int32 × (Nat → Int32) × (Nat → Nat → Int32) :=
  k_lt (sp_J6_bitCount_0f7a4_s0 a0) (fun r1 => k_lt (a1 ^^^ (-1)) (fun x5 => k_lt (a0 &&& x5) (fun x7 => if x7 = 0 then k_lt (g_in r1 2 5) (fun r13 => if r13 = 0 then K_X6_take_22 F R else k_lt (upd F 755 0) (fun F21 => K_X6_take_32 a0 8589934592 F21 R 0)) else K_X6_take_22 F R)))
theorem e_X6_take_0 : g_dc cX6_take 0 (.iload_n 1) 1 1 := ⟨by decide +kernel, rfl⟩
theorem e_X6_take_1 : g_dc cX6_take 1 (.invokestatic 25) 3 4 := ⟨by decide +kernel, rfl⟩
theorem e_X6_take_4 : g_dc cX6_take 4 (.istore_n 3) 1 5 := ⟨by decide +kernel, rfl⟩
theorem e_X6_take_5 : g_dc cX6_take 5 (.iload_n 1) 1 6 := ⟨by decide +kernel, rfl⟩
theorem e_X6_take_6 : g_dc cX6_take 6 (.iload_n 2) 1 7 := ⟨by decide +kernel, rfl⟩
theorem e_X6_take_7 : g_dc cX6_take 7 (.iconst (-1)) 1 8 := ⟨by decide +kernel, rfl⟩
theorem e_X6_take_8 : g_dc cX6_take 8 (.ixor) 1 9 := ⟨by decide +kernel, rfl⟩
theorem e_X6_take_9 : g_dc cX6_take 9 (.iand) 1 10 := ⟨by decide +kernel, rfl⟩
theorem e_X6_take_10 : g_dc cX6_take 10 (.ifCond .ne 12) 3 13 := ⟨by decide +kernel, rfl⟩
theorem e_X6_take_13 : g_dc cX6_take 13 (.iload_n 3) 1 14 := ⟨by decide +kernel, rfl⟩
theorem e_X6_take_14 : g_dc cX6_take 14 (.iconst 2) 1 15 := ⟨by decide +kernel, rfl⟩
theorem e_X6_take_15 : g_dc cX6_take 15 (.iconst 5) 1 16 := ⟨by decide +kernel, rfl⟩
theorem e_X6_take_16 : g_dc cX6_take 16 (.invokestatic 31) 3 19 := ⟨by decide +kernel, rfl⟩
theorem e_X6_take_19 : g_dc cX6_take 19 (.ifCond .ne 5) 3 22 := ⟨by decide +kernel, rfl⟩
theorem e_X6_take_22 : g_dc cX6_take 22 (.iconst 0) 1 23 := ⟨by decide +kernel, rfl⟩
theorem e_X6_take_23 : g_dc cX6_take 23 (.ireturn) 1 24 := ⟨by decide +kernel, rfl⟩
theorem e_X6_take_24 : g_dc cX6_take 24 (.aload_n 0) 1 25 := ⟨by decide +kernel, rfl⟩
theorem e_X6_take_25 : g_dc cX6_take 25 (.iconst 0) 1 26 := ⟨by decide +kernel, rfl⟩
theorem e_X6_take_26 : g_dc cX6_take 26 (.putfield 21) 3 29 := ⟨by decide +kernel, rfl⟩
theorem e_X6_take_29 : g_dc cX6_take 29 (.iconst 0) 1 30 := ⟨by decide +kernel, rfl⟩
theorem e_X6_take_30 : g_dc cX6_take 30 (.istore 4) 2 32 := ⟨by decide +kernel, rfl⟩
theorem e_X6_take_32 : g_dc cX6_take 32 (.iload 4) 2 34 := ⟨by decide +kernel, rfl⟩
theorem e_X6_take_34 : g_dc cX6_take 34 (.bipush 10) 2 36 := ⟨by decide +kernel, rfl⟩
theorem e_X6_take_36 : g_dc cX6_take 36 (.if_icmp .ge 58) 3 39 := ⟨by decide +kernel, rfl⟩
theorem e_X6_take_39 : g_dc cX6_take 39 (.aload_n 0) 1 40 := ⟨by decide +kernel, rfl⟩
theorem e_X6_take_40 : g_dc cX6_take 40 (.getfield 21) 3 43 := ⟨by decide +kernel, rfl⟩
theorem e_X6_take_43 : g_dc cX6_take 43 (.iconst 5) 1 44 := ⟨by decide +kernel, rfl⟩
theorem e_X6_take_44 : g_dc cX6_take 44 (.if_icmp .ge 50) 3 47 := ⟨by decide +kernel, rfl⟩
theorem e_X6_take_47 : g_dc cX6_take 47 (.iload_n 1) 1 48 := ⟨by decide +kernel, rfl⟩
theorem e_X6_take_48 : g_dc cX6_take 48 (.iconst 1) 1 49 := ⟨by decide +kernel, rfl⟩
theorem e_X6_take_49 : g_dc cX6_take 49 (.iload 4) 2 51 := ⟨by decide +kernel, rfl⟩
theorem e_X6_take_51 : g_dc cX6_take 51 (.ishl) 1 52 := ⟨by decide +kernel, rfl⟩
theorem e_X6_take_52 : g_dc cX6_take 52 (.iand) 1 53 := ⟨by decide +kernel, rfl⟩
theorem e_X6_take_53 : g_dc cX6_take 53 (.ifCond .eq 35) 3 56 := ⟨by decide +kernel, rfl⟩
theorem e_X6_take_56 : g_dc cX6_take 56 (.aload_n 0) 1 57 := ⟨by decide +kernel, rfl⟩
theorem e_X6_take_57 : g_dc cX6_take 57 (.getfield 11) 3 60 := ⟨by decide +kernel, rfl⟩
theorem e_X6_take_60 : g_dc cX6_take 60 (.aload_n 0) 1 61 := ⟨by decide +kernel, rfl⟩
theorem e_X6_take_61 : g_dc cX6_take 61 (.getfield 21) 3 64 := ⟨by decide +kernel, rfl⟩
theorem e_X6_take_64 : g_dc cX6_take 64 (.iload 4) 2 66 := ⟨by decide +kernel, rfl⟩
theorem e_X6_take_66 : g_dc cX6_take 66 (.iastore) 1 67 := ⟨by decide +kernel, rfl⟩
theorem e_X6_take_67 : g_dc cX6_take 67 (.aload_n 0) 1 68 := ⟨by decide +kernel, rfl⟩
theorem e_X6_take_68 : g_dc cX6_take 68 (.getfield 15) 3 71 := ⟨by decide +kernel, rfl⟩
theorem e_X6_take_71 : g_dc cX6_take 71 (.aload_n 0) 1 72 := ⟨by decide +kernel, rfl⟩
theorem e_X6_take_72 : g_dc cX6_take 72 (.getfield 21) 3 75 := ⟨by decide +kernel, rfl⟩
theorem e_X6_take_75 : g_dc cX6_take 75 (.iload 4) 2 77 := ⟨by decide +kernel, rfl⟩
theorem e_X6_take_77 : g_dc cX6_take 77 (.iastore) 1 78 := ⟨by decide +kernel, rfl⟩
theorem e_X6_take_78 : g_dc cX6_take 78 (.aload_n 0) 1 79 := ⟨by decide +kernel, rfl⟩
theorem e_X6_take_79 : g_dc cX6_take 79 (.dup) 1 80 := ⟨by decide +kernel, rfl⟩
theorem e_X6_take_80 : g_dc cX6_take 80 (.getfield 21) 3 83 := ⟨by decide +kernel, rfl⟩
theorem e_X6_take_83 : g_dc cX6_take 83 (.iconst 1) 1 84 := ⟨by decide +kernel, rfl⟩
theorem e_X6_take_84 : g_dc cX6_take 84 (.iadd) 1 85 := ⟨by decide +kernel, rfl⟩
theorem e_X6_take_85 : g_dc cX6_take 85 (.putfield 21) 3 88 := ⟨by decide +kernel, rfl⟩
theorem e_X6_take_88 : g_dc cX6_take 88 (.iinc 4 1) 3 91 := ⟨by decide +kernel, rfl⟩
theorem e_X6_take_91 : g_dc cX6_take 91 (.goto (-59)) 3 94 := ⟨by decide +kernel, rfl⟩
theorem e_X6_take_94 : g_dc cX6_take 94 (.iconst 1) 1 95 := ⟨by decide +kernel, rfl⟩
theorem e_X6_take_95 : g_dc cX6_take 95 (.ireturn) 1 96 := ⟨by decide +kernel, rfl⟩
def md_X6_take : List Nat := [755]
def mr_X6_take : List Nat := [48, 49]
set_option maxHeartbeats 4000000 in
set_option maxRecDepth 100000 in
theorem w_X6_take (l : Launch) (X : gX) (ad : Nat → Nat) (F : Nat → Int32) (R : Nat → Nat → Int32) (hI : g_ok LK_wX F) (hA : g_okR LA_wX R) (a0 : Int32) (a1 : Int32) : g_Ci l X yX6_take cX6_take 5 (some .boolean) 2 0 0 [.ref (ad 47), .int a0, .int a1] (wX X ad F R) (fun r w => ∃ (F' : Nat → Int32) (R' : Nat → Nat → Int32), w = wX X ad F' R' ∧ g_ok LK_wX F' ∧ g_okR LA_wX R' ∧ g_fr md_X6_take F F' ∧ g_fr mr_X6_take R R' ∧ jv 0 1 r ∧ (r, F', R') = sp_X6_take F R a0 a1) := by
  refine g_mi (by decide +kernel) (Nat.le_of_ble_eq_true rfl) (fun E cx hret => ?_)
  obtain ⟨SP, hSP⟩ : ∃ z, z = sp_X6_take F R a0 a1 := ⟨_, rfl⟩
  have hk0 := hSP
  unfold sp_X6_take at hk0
  refine g_iload_n cx 1 rfl e_X6_take_0 ?_
  refine g_cOiW cx [.int a0] [] (w_J6_bitCount_0f7a4_s0 l X (wX X ad F R) a0) ml_X6_25 yS_J6_bitCount_0f7a4 e_X6_take_1 (by unfold g_rr; decide) (by decide) rfl (Nat.le_of_ble_eq_true rfl) (fun r1 w2 h3 => ?_)
  obtain ⟨rfl, pr1, hr1⟩ := h3
  have hk4 := k_ls hk0 hr1
  refine g_istore_n cx [(3, .int r1), (0, .ref (ad 47)), (1, .int a0), (2, .int a1)] e_X6_take_4 (by decide) rfl ?_
  refine g_iload_n cx 2 rfl e_X6_take_5 ?_
  refine g_iload_n cx 3 rfl e_X6_take_6 ?_
  refine g_iconst cx (-1) (by decide) e_X6_take_7 ?_
  refine g_ixor cx e_X6_take_8 ?_
  refine g_topi (fun x5 ex5 => ?_)
  have hk6 := k_ls hk4 ex5
  refine g_iand cx e_X6_take_9 ?_
  refine g_topi (fun x7 ex7 => ?_)
  have hk8 := k_ls hk6 ex7
  have J22 : (SP = K_X6_take_22 F R) → G X E 5 0 0 (wX X ad F R) [] 22 [] := by
    intro   hkJ22
    unfold K_X6_take_22 at hkJ22
    refine g_iconst cx 0 (by decide) e_X6_take_22 ?_
    exact hret e_X6_take_23 (Nat.le_of_ble_eq_true rfl) (Nat.le_of_ble_eq_true rfl) rfl ⟨F, R, rfl, hI, hA, (g_fr_rf F), (g_fr_rf R), (jv_w (jv_k (x := 0) 0 (by decide)) (by decide)), (hkJ22.symm.trans hSP)⟩
  refine g_if_ne cx 22 e_X6_take_10 (by decide) (fun zc9 => ?_) (fun zc9 => ?_)
  · have hk10 := hk8.trans (if_neg zc9)
    refine g_lsub [] [] rfl ?_
    exact J22  hk10
  · have p11 := gn_eq 0 0 (gc_eq zc9) (jv_t x7) (jv_k (x := 0) 0 (by decide)) (by decide)
    have hk12 := hk8.trans (if_pos zc9)
    refine g_iload_n cx 0 rfl e_X6_take_13 ?_
    refine g_iconst cx 2 (by decide) e_X6_take_14 ?_
    refine g_iconst cx 5 (by decide) e_X6_take_15 ?_
    refine g_cNiW cx [.int r1, .int 2, .int 5] [] (c_X10_within l X (wX X ad F R) r1 2 5) mn_X6_31 yS_X10_within e_X6_take_16 (by unfold g_rr; decide) (by decide) rfl (Nat.le_of_ble_eq_true rfl) (fun r13 w14 h15 => ?_)
    obtain ⟨rfl, hr13⟩ := h15
    have pr13 : jv 0 1 r13 := by rw [hr13]; exact gi_01 _ _ _
    have hk16 := k_ls hk12 hr13
    refine g_if_ne cx 24 e_X6_take_19 (by decide) (fun zc17 => ?_) (fun zc17 => ?_)
    · have p18 := gn_neL 1 1 (gc_ne zc17) pr13 (jv_k (x := 0) 0 (by decide)) (by decide)
      have p19 := jv_i 2 5 pr1 (gi_in (A := 2) (B := 5) hr13 zc17 (by decide) (by decide)) (by decide)
      have hk20 := hk16.trans (if_neg zc17)
      refine g_aload_n cx 1 rfl e_X6_take_24 ?_
      refine g_iconst cx 0 (by decide) e_X6_take_25 ?_
      refine g_put cx cl_X6 fl_X6_21 47 (wX X ad (upd F 755 0) R) e_X6_take_26 rfl rfl rfl rfl (Nat.le_of_ble_eq_true rfl) rfl ?_
      obtain ⟨F21, hF21⟩ : ∃ z, z = upd F 755 0 := ⟨_, rfl⟩
      rw [← hF21]
      have hk22 := k_ls hk20 hF21
      have oF21 : g_ok LK_wX F21 := by rw [hF21]; exact g_ok_p hI (jv_k (x := 0) 0 (by decide)) rfl
      have fF21 : g_fr md_X6_take F F21 := by rw [hF21]; exact g_fr_u (g_fr_rf F) rfl
      refine g_iconst cx 0 (by decide) e_X6_take_29 ?_
      refine g_istore cx [(4, .int 0), (3, .int r1), (0, .ref (ad 47)), (1, .int a0), (2, .int a1)] e_X6_take_30 (by decide) rfl ?_
      have J32 : ∀ (N : Nat) (F24 : Nat → Int32) (R25 : Nat → Nat → Int32) (y23 : Int32), (g_ok LK_wX F24) → (g_fr md_X6_take F F24) → (g_okR LA_wX R25) → (g_fr mr_X6_take R R25) → (jv 0 10 y23) → (SP = K_X6_take_32 a0 N F24 R25 y23) → (2147483647 - y23.toInt).toNat < N → G X E 5 0 0 (wX X ad F24 R25) [(0, .ref (ad 47)), (1, .int a0), (4, .int y23)] 32 [] := by
        intro N
        induction N with
        | zero => intro F24 R25 y23 oF24 fF24 oR25 fR25 py23 hkJ32 hm; exact absurd hm (Nat.not_lt_zero _)
        | succ N ih32 =>
          intro F24 R25 y23 oF24 fF24 oR25 fR25 py23 hkJ32 hm32
          have hkK32 : SP = KB_X6_take_32 (K_X6_take_32 a0 N) a0 F24 R25 y23 := hkJ32
          obtain ⟨b32, hb32⟩ : ∃ z, z = K_X6_take_32 a0 N := ⟨_, rfl⟩
          rw [← hb32] at hkK32
          unfold KB_X6_take_32 at hkK32
          refine g_iload cx 2 rfl e_X6_take_32 ?_
          refine g_bipush cx 10 (by decide) e_X6_take_34 ?_
          have J94 : (SP = K_X6_take_94 F24 R25) → G X E 5 0 0 (wX X ad F24 R25) [] 94 [] := by
            intro   hkJ94
            unfold K_X6_take_94 at hkJ94
            refine g_iconst cx 1 (by decide) e_X6_take_94 ?_
            exact hret e_X6_take_95 (Nat.le_of_ble_eq_true rfl) (Nat.le_of_ble_eq_true rfl) rfl ⟨F24, R25, rfl, oF24, oR25, fF24, fR25, (jv_w (jv_k (x := 1) 1 (by decide)) (by decide)), (hkJ94.symm.trans hSP)⟩
          refine g_icmp_ge cx 94 e_X6_take_36 (by decide) (fun zc26 => ?_) (fun zc26 => ?_)
          · have p27 := gn_ge 10 10 (gc_le zc26) py23 (jv_k (x := 10) 10 (by decide)) (by decide)
            have hk28 := hkK32.trans (if_pos zc26)
            refine g_lsub [] [] rfl ?_
            exact J94  hk28
          · have p29 := gn_lt 0 9 (gc_nle zc26) py23 (jv_k (x := 10) 10 (by decide)) (by decide)
            have hk30 := hkK32.trans (if_neg zc26)
            refine g_aload_n cx 0 rfl e_X6_take_39 ?_
            refine g_get cx cl_X6 fl_X6_21 47 (.int (F24 755)) e_X6_take_40 rfl rfl ?_
            refine g_iconst cx 5 (by decide) e_X6_take_43 ?_
            refine g_icmp_ge cx 94 e_X6_take_44 (by decide) (fun zc31 => ?_) (fun zc31 => ?_)
            · have p32 := gn_ge 5 5 (gc_le zc31) (g_ok_g oF24 9 rfl) (jv_k (x := 5) 5 (by decide)) (by decide)
              have hk33 := hk30.trans (if_pos zc31)
              refine g_lsub [] [] rfl ?_
              exact J94  hk33
            · have p34 := gn_lt 0 4 (gc_nle zc31) (g_ok_g oF24 9 rfl) (jv_k (x := 5) 5 (by decide)) (by decide)
              have hk35 := hk30.trans (if_neg zc31)
              refine g_iload_n cx 1 rfl e_X6_take_47 ?_
              refine g_iconst cx 1 (by decide) e_X6_take_48 ?_
              refine g_iload cx 2 rfl e_X6_take_49 ?_
              refine g_ishl cx e_X6_take_51 ?_
              refine g_topi (fun x36 ex36 => ?_)
              have hk37 := k_ls hk35 ex36
              refine g_iand cx e_X6_take_52 ?_
              refine g_topi (fun x38 ex38 => ?_)
              have hk39 := k_ls hk37 ex38
              have J88 : ∀ (F40 : Nat → Int32) (R41 : Nat → Nat → Int32), (g_ok LK_wX F40) → (g_fr md_X6_take F F40) → (g_okR LA_wX R41) → (g_fr mr_X6_take R R41) → (SP = K_X6_take_88 b32 y23 F40 R41) → G X E 5 0 0 (wX X ad F40 R41) [(0, .ref (ad 47)), (1, .int a0), (4, .int y23)] 88 [] := by
                intro F40 R41 oF40 fF40 oR41 fR41 hkJ88
                unfold K_X6_take_88 at hkJ88
                obtain ⟨x42, ex42⟩ : ∃ z : Int32, z = y23 + Int32.ofInt 1 := ⟨_, rfl⟩
                have hk43 := k_ls hkJ88 (show x42 = y23 + 1 from ex42)
                refine g_iinc cx x42 [(4, .int x42), (0, .ref (ad 47)), (1, .int a0)] 2 e_X6_take_88 rfl ex42.symm (by decide) rfl ?_
                have zx42 := jv_add 1 10 (show x42 = y23 + 1 from ex42) p29 (jv_k (x := 1) 1 (by decide)) (by decide)
                refine g_goto cx 32 e_X6_take_91 (by decide) ?_
                refine g_lsub [1, 2, 0] [(0, .ref (ad 47)), (1, .int a0), (4, .int x42)] rfl ?_
                exact ih32 F40 R41 x42 oF40 fF40 oR41 fR41 (jv_w zx42.2 (by decide)) (hk43.trans (by rw [hb32])) (Nat.lt_of_lt_of_le (show (2147483647 - x42.toInt).toNat < (2147483647 - y23.toInt).toNat from by have q0 := (jv_k (x := 1) 1 (by decide)).1; have q1 := (jv_k (x := 1) 1 (by decide)).2; have q2 := (jv_k (x := 10) 10 (by decide)).1; have q3 := (jv_k (x := 10) 10 (by decide)).2; have q4 := zx42.2.1; have q5 := zx42.2.2; have q6 := p29.1; have q7 := p29.2; have q8 := (gc_nle zc26); have q9 := (g_eq0 zx42.1); omega) (Nat.le_of_lt_succ hm32))
              refine g_if_eq cx 88 e_X6_take_53 (by decide) (fun zc44 => ?_) (fun zc44 => ?_)
              · have p45 := gn_eq 0 0 (gc_eq zc44) (jv_t x38) (jv_k (x := 0) 0 (by decide)) (by decide)
                have hk46 := hk39.trans (if_pos zc44)
                exact J88 F24 R25 oF24 fF24 oR25 fR25 hk46
              · have hk47 := hk39.trans (if_neg zc44)
                refine g_aload_n cx 0 rfl e_X6_take_56 ?_
                refine g_get cx cl_X6 fl_X6_11 47 (.ref (ad 48)) e_X6_take_57 rfl rfl ?_
                refine g_aload_n cx 0 rfl e_X6_take_60 ?_
                refine g_get cx cl_X6 fl_X6_21 47 (.int (F24 755)) e_X6_take_61 rfl rfl ?_
                refine g_iload cx 2 rfl e_X6_take_64 ?_
                refine g_iast cx 48 (wX X ad F24 (g_u R25 48 (upd (R25 48) (Int32.toNatClampNeg (F24 755)) y23))) e_X6_take_66 rfl (jv_ix 5 p34 (by decide)) rfl ?_
                obtain ⟨R48, hR48⟩ : ∃ z, z = g_u R25 48 (upd (R25 48) (Int32.toNatClampNeg (F24 755)) y23) := ⟨_, rfl⟩
                rw [← hR48]
                have hk49 := k_ls hk47 hR48
                have oR48 : g_okR LA_wX R48 := by rw [hR48]; exact g_okR_u oR25 rfl
                have fR48 : g_fr mr_X6_take R R48 := by rw [hR48]; exact g_fr_r fR25 rfl
                refine g_aload_n cx 0 rfl e_X6_take_67 ?_
                refine g_get cx cl_X6 fl_X6_15 47 (.ref (ad 49)) e_X6_take_68 rfl rfl ?_
                refine g_aload_n cx 0 rfl e_X6_take_71 ?_
                refine g_get cx cl_X6 fl_X6_21 47 (.int (F24 755)) e_X6_take_72 rfl rfl ?_
                refine g_iload cx 2 rfl e_X6_take_75 ?_
                refine g_iast cx 49 (wX X ad F24 (g_u R48 49 (upd (R48 49) (Int32.toNatClampNeg (F24 755)) y23))) e_X6_take_77 rfl (jv_ix 5 p34 (by decide)) rfl ?_
                obtain ⟨R50, hR50⟩ : ∃ z, z = g_u R48 49 (upd (R48 49) (Int32.toNatClampNeg (F24 755)) y23) := ⟨_, rfl⟩
                rw [← hR50]
                have hk51 := k_ls hk49 hR50
                have oR50 : g_okR LA_wX R50 := by rw [hR50]; exact g_okR_u oR48 rfl
                have fR50 : g_fr mr_X6_take R R50 := by rw [hR50]; exact g_fr_r fR48 rfl
                refine g_aload_n cx 0 rfl e_X6_take_78 ?_
                refine g_dup cx rfl e_X6_take_79 ?_
                refine g_get cx cl_X6 fl_X6_21 47 (.int (F24 755)) e_X6_take_80 rfl rfl ?_
                refine g_iconst cx 1 (by decide) e_X6_take_83 ?_
                refine g_iadd cx e_X6_take_84 ?_
                refine g_topi (fun x52 ex52 => ?_)
                have hk53 := k_ls hk51 ex52
                have zx52 := jv_add 1 5 ex52 p34 (jv_k (x := 1) 1 (by decide)) (by decide)
                refine g_put cx cl_X6 fl_X6_21 47 (wX X ad (upd F24 755 x52) R50) e_X6_take_85 rfl rfl rfl rfl (Nat.le_of_ble_eq_true rfl) rfl ?_
                obtain ⟨F54, hF54⟩ : ∃ z, z = upd F24 755 x52 := ⟨_, rfl⟩
                rw [← hF54]
                have hk55 := k_ls hk53 hF54
                have oF54 : g_ok LK_wX F54 := by rw [hF54]; exact g_ok_p oF24 zx52.2 rfl
                have fF54 : g_fr md_X6_take F F54 := by rw [hF54]; exact g_fr_u fF24 rfl
                exact J88 F54 R50 oF54 fF54 oR50 fR50 hk55
      refine g_lsub [2, 3, 0] [(0, .ref (ad 47)), (1, .int a0), (4, .int 0)] rfl ?_
      exact J32 8589934592 F21 R 0 oF21 fF21 hA (g_fr_rf R) (jv_w (jv_k (x := 0) 0 (by decide)) (by decide)) hk22 (show (2147483647 - (0 : Int32).toInt).toNat < 8589934592 from by have q0 := (jv_k (x := 0) 0 (by decide)).1; have q1 := (jv_k (x := 0) 0 (by decide)).2; omega)
    · have p56 := gn_eq 0 0 (gc_eq zc17) pr13 (jv_k (x := 0) 0 (by decide)) (by decide)
      have hk57 := hk16.trans (if_pos zc17)
      refine g_lsub [] [] rfl ?_
      exact J22  hk57
def K_X8_change_5_32 (F : Nat → Int32) (R5 : Nat → Nat → Int32) : (Nat → Int32) × (Nat → Nat → Int32) :=
  (F, R5)
def sp_X8_change_5 (F : Nat → Int32) (R : Nat → Nat → Int32) (a0 : Int32) (a1 : Int32) (a2 : Int32) : (Nat → Int32) × (Nat → Nat → Int32) :=
  k_lt (g_in a0 0 9) (fun r1 => if r1 = 0 then K_X8_change_5_32 F R else k_lt (g_in a1 0 7) (fun r12 => if r12 = 0 then K_X8_change_5_32 F R else k_lt (a0 * 8) (fun x22 => k_lt (x22 + a1) (fun x24 => k_lt (g_u R 6 (upd (R 6) (Int32.toNatClampNeg x24) a2)) (fun R26 => K_X8_change_5_32 F R26)))))
def md_X8_change_5 : List Nat := []
def mr_X8_change_5 : List Nat := [6]
set_option maxHeartbeats 4000000 in
set_option maxRecDepth 100000 in
theorem w_X8_change_5 (l : Launch) (X : gX) (ad : Nat → Nat) (F : Nat → Int32) (R : Nat → Nat → Int32) (hI : g_ok LK_wX F) (hA : g_okR LA_wX R) (a0 : Int32) (a1 : Int32) (a2 : Int32) : g_Cv l X yX8_change cX8_change 4 2 0 0 [.ref (ad 5), .int a0, .int a1, .int a2] (wX X ad F R) (fun w => ∃ (F' : Nat → Int32) (R' : Nat → Nat → Int32), w = wX X ad F' R' ∧ g_ok LK_wX F' ∧ g_okR LA_wX R' ∧ g_fr md_X8_change_5 F F' ∧ g_fr mr_X8_change_5 R R' ∧ (F', R') = sp_X8_change_5 F R a0 a1 a2) := by
  refine g_mv (by decide +kernel) (Nat.le_of_ble_eq_true rfl) (fun E cx hret => ?_)
  obtain ⟨SP, hSP⟩ : ∃ z, z = sp_X8_change_5 F R a0 a1 a2 := ⟨_, rfl⟩
  have hk0 := hSP
  unfold sp_X8_change_5 at hk0
  refine g_iload_n cx 1 rfl e_X8_change_0 ?_
  refine g_iconst cx 0 (by decide) e_X8_change_1 ?_
  refine g_bipush cx 9 (by decide) e_X8_change_2 ?_
  refine g_cNiW cx [.int a0, .int 0, .int 9] [] (c_X10_within l X (wX X ad F R) a0 0 9) mn_X8_31 yS_X10_within e_X8_change_4 (by unfold g_rr; decide) (by decide) rfl (Nat.le_of_ble_eq_true rfl) (fun r1 w2 h3 => ?_)
  obtain ⟨rfl, hr1⟩ := h3
  have pr1 : jv 0 1 r1 := by rw [hr1]; exact gi_01 _ _ _
  have hk4 := k_ls hk0 hr1
  have J32 : ∀ (R5 : Nat → Nat → Int32), (g_okR LA_wX R5) → (g_fr mr_X8_change_5 R R5) → (SP = K_X8_change_5_32 F R5) → G X E 4 0 0 (wX X ad F R5) [] 32 [] := by
    intro R5 oR5 fR5 hkJ32
    unfold K_X8_change_5_32 at hkJ32
    exact hret e_X8_change_32 (Nat.le_of_ble_eq_true rfl) (Nat.le_of_ble_eq_true rfl) ⟨F, R5, rfl, hI, oR5, (g_fr_rf F), fR5, (hkJ32.symm.trans hSP)⟩
  refine g_if_eq cx 32 e_X8_change_7 (by decide) (fun zc6 => ?_) (fun zc6 => ?_)
  · have p7 := gn_eq 0 0 (gc_eq zc6) pr1 (jv_k (x := 0) 0 (by decide)) (by decide)
    have hk8 := hk4.trans (if_pos zc6)
    refine g_lsub [] [] rfl ?_
    exact J32 R hA (g_fr_rf R) hk8
  · have p9 := gn_neL 1 1 (gc_ne zc6) pr1 (jv_k (x := 0) 0 (by decide)) (by decide)
    have p10 := jv_i 0 9 (jv_t a0) (gi_in (A := 0) (B := 9) hr1 zc6 (by decide) (by decide)) (by decide)
    have hk11 := hk4.trans (if_neg zc6)
    refine g_iload_n cx 2 rfl e_X8_change_10 ?_
    refine g_iconst cx 0 (by decide) e_X8_change_11 ?_
    refine g_bipush cx 7 (by decide) e_X8_change_12 ?_
    refine g_cNiW cx [.int a1, .int 0, .int 7] [] (c_X10_within l X (wX X ad F R) a1 0 7) mn_X8_31 yS_X10_within e_X8_change_14 (by unfold g_rr; decide) (by decide) rfl (Nat.le_of_ble_eq_true rfl) (fun r12 w13 h14 => ?_)
    obtain ⟨rfl, hr12⟩ := h14
    have pr12 : jv 0 1 r12 := by rw [hr12]; exact gi_01 _ _ _
    have hk15 := k_ls hk11 hr12
    refine g_if_eq cx 32 e_X8_change_17 (by decide) (fun zc16 => ?_) (fun zc16 => ?_)
    · have p17 := gn_eq 0 0 (gc_eq zc16) pr12 (jv_k (x := 0) 0 (by decide)) (by decide)
      have hk18 := hk15.trans (if_pos zc16)
      refine g_lsub [] [] rfl ?_
      exact J32 R hA (g_fr_rf R) hk18
    · have p19 := gn_neL 1 1 (gc_ne zc16) pr12 (jv_k (x := 0) 0 (by decide)) (by decide)
      have p20 := jv_i 0 7 (jv_t a1) (gi_in (A := 0) (B := 7) hr12 zc16 (by decide) (by decide)) (by decide)
      have hk21 := hk15.trans (if_neg zc16)
      refine g_aload_n cx 0 rfl e_X8_change_20 ?_
      refine g_get cx cl_X8 fl_X8_27 5 (.ref (ad 6)) e_X8_change_21 rfl rfl ?_
      refine g_iload_n cx 1 rfl e_X8_change_24 ?_
      refine g_bipush cx 8 (by decide) e_X8_change_25 ?_
      refine g_imul cx e_X8_change_27 ?_
      refine g_topi (fun x22 ex22 => ?_)
      have hk23 := k_ls hk21 ex22
      have zx22 := jv_mul 0 72 ex22 p10 (jv_k (x := 8) 8 (by decide)) (by decide)
      refine g_iload_n cx 2 rfl e_X8_change_28 ?_
      refine g_iadd cx e_X8_change_29 ?_
      refine g_topi (fun x24 ex24 => ?_)
      have hk25 := k_ls hk23 ex24
      have zx24 := jv_add 0 79 ex24 zx22.2 p20 (by decide)
      refine g_iload_n cx 3 rfl e_X8_change_30 ?_
      refine g_iast cx 6 (wX X ad F (g_u R 6 (upd (R 6) (Int32.toNatClampNeg x24) a2))) e_X8_change_31 rfl (jv_ix 80 zx24.2 (by decide)) rfl ?_
      obtain ⟨R26, hR26⟩ : ∃ z, z = g_u R 6 (upd (R 6) (Int32.toNatClampNeg x24) a2) := ⟨_, rfl⟩
      rw [← hR26]
      have hk27 := k_ls hk25 hR26
      have oR26 : g_okR LA_wX R26 := by rw [hR26]; exact g_okR_u hA rfl
      have fR26 : g_fr mr_X8_change_5 R R26 := by rw [hR26]; exact g_fr_r (g_fr_rf R) rfl
      refine g_lsub [] [] rfl ?_
      exact J32 R26 oR26 fR26 hk27
def KB_X6_change_r5_r1_2 (b2 : (Nat → Int32) → (Nat → Nat → Int32) → (Int32) → (Nat → Int32) × (Nat → Nat → Int32)) (F : Nat → Int32) (F2 : Nat → Int32) (R3 : Nat → Nat → Int32) (y1 : Int32) : (Nat → Int32) × (Nat → Nat → Int32) :=
  if (F 755) ≤ y1 then (F2, R3) else k_lt (R3 48 (Int32.toNatClampNeg y1)) (fun x10 => k_lt (R3 49 (Int32.toNatClampNeg y1)) (fun x12 => k_lt (sp_X8_side_1 F2 R3 x12 1) (fun r14 => k_lt2 (sp_X8_change_5 F2 R3 x10 1 r14) (fun F23 R24 => k_lt (y1 + 1) (fun x26 => b2 F23 R24 x26)))))
def K_X6_change_r5_r1_2 (F : Nat → Int32) : Nat → (Nat → Int32) → (Nat → Nat → Int32) → (Int32) → (Nat → Int32) × (Nat → Nat → Int32)
  | 0 => fun F2 R3 _ => (F2, R3)
  | n + 1 => KB_X6_change_r5_r1_2 (K_X6_change_r5_r1_2 F n) F
def sp_X6_change_r5_r1 (F : Nat → Int32) (R : Nat → Nat → Int32) : (Nat → Int32) × (Nat → Nat → Int32) :=
  K_X6_change_r5_r1_2 F 8589934592 F R 0
theorem e_X6_change_0 : g_dc cX6_change 0 (.iconst 0) 1 1 := ⟨by decide +kernel, rfl⟩
theorem e_X6_change_1 : g_dc cX6_change 1 (.istore_n 3) 1 2 := ⟨by decide +kernel, rfl⟩
theorem e_X6_change_2 : g_dc cX6_change 2 (.iload_n 3) 1 3 := ⟨by decide +kernel, rfl⟩
theorem e_X6_change_3 : g_dc cX6_change 3 (.aload_n 0) 1 4 := ⟨by decide +kernel, rfl⟩
theorem e_X6_change_4 : g_dc cX6_change 4 (.getfield 21) 3 7 := ⟨by decide +kernel, rfl⟩
theorem e_X6_change_7 : g_dc cX6_change 7 (.if_icmp .ge 44) 3 10 := ⟨by decide +kernel, rfl⟩
theorem e_X6_change_10 : g_dc cX6_change 10 (.iload_n 3) 1 11 := ⟨by decide +kernel, rfl⟩
theorem e_X6_change_11 : g_dc cX6_change 11 (.iconst 5) 1 12 := ⟨by decide +kernel, rfl⟩
theorem e_X6_change_12 : g_dc cX6_change 12 (.if_icmp .ge 39) 3 15 := ⟨by decide +kernel, rfl⟩
theorem e_X6_change_15 : g_dc cX6_change 15 (.aload_n 1) 1 16 := ⟨by decide +kernel, rfl⟩
theorem e_X6_change_16 : g_dc cX6_change 16 (.ifnull 35) 3 19 := ⟨by decide +kernel, rfl⟩
theorem e_X6_change_19 : g_dc cX6_change 19 (.aload_n 2) 1 20 := ⟨by decide +kernel, rfl⟩
theorem e_X6_change_20 : g_dc cX6_change 20 (.ifnull 31) 3 23 := ⟨by decide +kernel, rfl⟩
theorem e_X6_change_23 : g_dc cX6_change 23 (.aload_n 1) 1 24 := ⟨by decide +kernel, rfl⟩
theorem e_X6_change_24 : g_dc cX6_change 24 (.aload_n 0) 1 25 := ⟨by decide +kernel, rfl⟩
theorem e_X6_change_25 : g_dc cX6_change 25 (.getfield 11) 3 28 := ⟨by decide +kernel, rfl⟩
theorem e_X6_change_28 : g_dc cX6_change 28 (.iload_n 3) 1 29 := ⟨by decide +kernel, rfl⟩
theorem e_X6_change_29 : g_dc cX6_change 29 (.iaload) 1 30 := ⟨by decide +kernel, rfl⟩
theorem e_X6_change_30 : g_dc cX6_change 30 (.iconst 1) 1 31 := ⟨by decide +kernel, rfl⟩
theorem e_X6_change_31 : g_dc cX6_change 31 (.aload_n 2) 1 32 := ⟨by decide +kernel, rfl⟩
theorem e_X6_change_32 : g_dc cX6_change 32 (.aload_n 0) 1 33 := ⟨by decide +kernel, rfl⟩
theorem e_X6_change_33 : g_dc cX6_change 33 (.getfield 15) 3 36 := ⟨by decide +kernel, rfl⟩
theorem e_X6_change_36 : g_dc cX6_change 36 (.iload_n 3) 1 37 := ⟨by decide +kernel, rfl⟩
theorem e_X6_change_37 : g_dc cX6_change 37 (.iaload) 1 38 := ⟨by decide +kernel, rfl⟩
theorem e_X6_change_38 : g_dc cX6_change 38 (.iconst 1) 1 39 := ⟨by decide +kernel, rfl⟩
theorem e_X6_change_39 : g_dc cX6_change 39 (.invokevirtual 35) 3 42 := ⟨by decide +kernel, rfl⟩
theorem e_X6_change_42 : g_dc cX6_change 42 (.invokevirtual 41) 3 45 := ⟨by decide +kernel, rfl⟩
theorem e_X6_change_45 : g_dc cX6_change 45 (.iinc 3 1) 3 48 := ⟨by decide +kernel, rfl⟩
theorem e_X6_change_48 : g_dc cX6_change 48 (.goto (-46)) 3 51 := ⟨by decide +kernel, rfl⟩
theorem e_X6_change_51 : g_dc cX6_change 51 (.return_) 1 52 := ⟨by decide +kernel, rfl⟩
def md_X6_change_r5_r1 : List Nat := []
def mr_X6_change_r5_r1 : List Nat := [6]
set_option maxHeartbeats 4000000 in
set_option maxRecDepth 100000 in
theorem w_X6_change_r5_r1 (l : Launch) (X : gX) (ad : Nat → Nat) (F : Nat → Int32) (R : Nat → Nat → Int32) (hI : g_ok LK_wX F) (hA : g_okR LA_wX R) : g_Cv l X yX6_change cX6_change 4 3 0 0 [.ref (ad 47), .ref (ad 5), .ref (ad 1)] (wX X ad F R) (fun w => ∃ (F' : Nat → Int32) (R' : Nat → Nat → Int32), w = wX X ad F' R' ∧ g_ok LK_wX F' ∧ g_okR LA_wX R' ∧ g_fr md_X6_change_r5_r1 F F' ∧ g_fr mr_X6_change_r5_r1 R R' ∧ (F', R') = sp_X6_change_r5_r1 F R) := by
  refine g_mv (by decide +kernel) (Nat.le_of_ble_eq_true rfl) (fun E cx hret => ?_)
  obtain ⟨SP, hSP⟩ : ∃ z, z = sp_X6_change_r5_r1 F R := ⟨_, rfl⟩
  have hk0 := hSP
  unfold sp_X6_change_r5_r1 at hk0
  refine g_iconst cx 0 (by decide) e_X6_change_0 ?_
  refine g_istore_n cx [(3, .int 0), (0, .ref (ad 47)), (1, .ref (ad 5)), (2, .ref (ad 1))] e_X6_change_1 (by decide) rfl ?_
  have J2 : ∀ (N : Nat) (F2 : Nat → Int32) (R3 : Nat → Nat → Int32) (y1 : Int32), (g_ok LK_wX F2) → (g_fr md_X6_change_r5_r1 F F2) → (g_okR LA_wX R3) → (g_fr mr_X6_change_r5_r1 R R3) → (jv 0 5 y1) → (SP = K_X6_change_r5_r1_2 F N F2 R3 y1) → (2147483647 - y1.toInt).toNat < N → G X E 4 0 0 (wX X ad F2 R3) [(0, .ref (ad 47)), (1, .ref (ad 5)), (2, .ref (ad 1)), (3, .int y1)] 2 [] := by
    intro N
    induction N with
    | zero => intro F2 R3 y1 oF2 fF2 oR3 fR3 py1 hkJ2 hm; exact absurd hm (Nat.not_lt_zero _)
    | succ N ih2 =>
      intro F2 R3 y1 oF2 fF2 oR3 fR3 py1 hkJ2 hm2
      have hkK2 : SP = KB_X6_change_r5_r1_2 (K_X6_change_r5_r1_2 F N) F F2 R3 y1 := hkJ2
      obtain ⟨b2, hb2⟩ : ∃ z, z = K_X6_change_r5_r1_2 F N := ⟨_, rfl⟩
      rw [← hb2] at hkK2
      unfold KB_X6_change_r5_r1_2 at hkK2
      refine g_iload_n cx 3 rfl e_X6_change_2 ?_
      refine g_aload_n cx 0 rfl e_X6_change_3 ?_
      refine g_get cx cl_X6 fl_X6_21 47 (.int (F2 755)) e_X6_change_4 rfl rfl ?_
      refine g_toi (F 755) (fF2 755 rfl) ?_
      refine g_icmp_ge cx 51 e_X6_change_7 (by decide) (fun zc4 => ?_) (fun zc4 => ?_)
      · have hk5 := hkK2.trans (if_pos zc4)
        exact hret e_X6_change_51 (Nat.le_of_ble_eq_true rfl) (Nat.le_of_ble_eq_true rfl) ⟨F2, R3, rfl, oF2, oR3, fF2, fR3, (hk5.symm.trans hSP)⟩
      · have p6 := gn_lt 0 4 (gc_nle zc4) py1 (g_ok_g hI 9 rfl) (by decide)
        have p7 := gn_gt 1 5 (gc_nle zc4) (g_ok_g hI 9 rfl) py1 (by decide)
        have hk8 := hkK2.trans (if_neg zc4)
        refine g_iload_n cx 3 rfl e_X6_change_10 ?_
        refine g_iconst cx 5 (by decide) e_X6_change_11 ?_
        refine g_icmp_ge cx 51 e_X6_change_12 (by decide) (fun zc9 => ?_) (fun zc9 => ?_)
        · exact (gf_le (gc_le zc9) (jv_k (x := 5) 5 (by decide)) p6 (by decide)).elim
        · refine g_aload_n cx 1 rfl e_X6_change_15 ?_
          refine g_ifnull cx e_X6_change_16 ?_
          refine g_aload_n cx 2 rfl e_X6_change_19 ?_
          refine g_ifnull cx e_X6_change_20 ?_
          refine g_aload_n cx 1 rfl e_X6_change_23 ?_
          refine g_aload_n cx 0 rfl e_X6_change_24 ?_
          refine g_get cx cl_X6 fl_X6_11 47 (.ref (ad 48)) e_X6_change_25 rfl rfl ?_
          refine g_iload_n cx 3 rfl e_X6_change_28 ?_
          refine g_iald cx 48 e_X6_change_29 rfl (jv_ix 5 p6 (by decide)) ?_
          refine g_topi (fun x10 ex10 => ?_)
          have hk11 := k_ls hk8 ex10
          refine g_iconst cx 1 (by decide) e_X6_change_30 ?_
          refine g_aload_n cx 2 rfl e_X6_change_31 ?_
          refine g_aload_n cx 0 rfl e_X6_change_32 ?_
          refine g_get cx cl_X6 fl_X6_15 47 (.ref (ad 49)) e_X6_change_33 rfl rfl ?_
          refine g_iload_n cx 3 rfl e_X6_change_36 ?_
          refine g_iald cx 49 e_X6_change_37 rfl (jv_ix 5 p6 (by decide)) ?_
          refine g_topi (fun x12 ex12 => ?_)
          have hk13 := k_ls hk11 ex12
          refine g_iconst cx 1 (by decide) e_X6_change_38 ?_
          refine g_cViW cx [.int x12, .int 1] [.int 1, .int x10, .ref (ad 5)] (w_X8_side_1 l X ad F2 R3 oF2 oR3 x12 1) ml_X6_35 yV_X8_side e_X6_change_39 (by unfold g_rr; decide) (by decide) 1 rfl rfl rfl (Nat.le_of_ble_eq_true rfl) (fun r14 w15 h16 => ?_)
          obtain ⟨rfl, pr14, hx17⟩ := h16
          have hk18 := k_ls hk13 hx17
          refine g_cVvW cx [.int x10, .int 1, .int r14] [] (w_X8_change_5 l X ad F2 R3 oF2 oR3 x10 1 r14) ml_X6_41 yV_X8_change e_X6_change_42 (by unfold g_rr; decide) (by decide) 5 rfl rfl rfl (Nat.le_of_ble_eq_true rfl) (fun w20 h21 => ?_)
          obtain ⟨F23, R24, rfl, oF23, oR24, cF23, cR24, hx22⟩ := h21
          have hk25 := k_ls2 hk18 hx22
          have fF23 : g_fr md_X6_change_r5_r1 F F23 := g_fr_c fF2 cF23 rfl
          have fR24 : g_fr mr_X6_change_r5_r1 R R24 := g_fr_c fR3 cR24 rfl
          obtain ⟨x26, ex26⟩ : ∃ z : Int32, z = y1 + Int32.ofInt 1 := ⟨_, rfl⟩
          have hk27 := k_ls hk25 (show x26 = y1 + 1 from ex26)
          refine g_iinc cx x26 [(3, .int x26), (0, .ref (ad 47)), (1, .ref (ad 5)), (2, .ref (ad 1))] 3 e_X6_change_45 rfl ex26.symm (by decide) rfl ?_
          have zx26 := jv_add 1 5 (show x26 = y1 + 1 from ex26) p6 (jv_k (x := 1) 1 (by decide)) (by decide)
          refine g_goto cx 2 e_X6_change_48 (by decide) ?_
          refine g_lsub [1, 2, 3, 0] [(0, .ref (ad 47)), (1, .ref (ad 5)), (2, .ref (ad 1)), (3, .int x26)] rfl ?_
          exact ih2 F23 R24 x26 oF23 fF23 oR24 fR24 (jv_w zx26.2 (by decide)) (hk27.trans (by rw [hb2])) (Nat.lt_of_lt_of_le (show (2147483647 - x26.toInt).toNat < (2147483647 - y1.toInt).toNat from by have q0 := (jv_k (x := 1) 1 (by decide)).1; have q1 := (jv_k (x := 1) 1 (by decide)).2; have q2 := (jv_k (x := 5) 5 (by decide)).1; have q3 := (jv_k (x := 5) 5 (by decide)).2; have q4 := p7.1; have q5 := p7.2; have q6 := zx26.2.1; have q7 := zx26.2.2; have q8 := p6.1; have q9 := p6.2; have q10 := (gc_nle zc4); have q11 := (gc_nle zc9); have q12 := (g_eq0 zx26.1); omega) (Nat.le_of_lt_succ hm2))
  refine g_lsub [1, 2, 3, 0] [(0, .ref (ad 47)), (1, .ref (ad 5)), (2, .ref (ad 1)), (3, .int 0)] rfl ?_
  exact J2 8589934592 F R 0 hI (g_fr_rf F) hA (g_fr_rf R) (jv_w (jv_k (x := 0) 0 (by decide)) (by decide)) hk0 (show (2147483647 - (0 : Int32).toInt).toNat < 8589934592 from by have q0 := (jv_k (x := 0) 0 (by decide)).1; have q1 := (jv_k (x := 0) 0 (by decide)).2; omega)
def K_X6_swap_44 (F : Nat → Int32) (R5 : Nat → Nat → Int32) : (Nat → Int32) × (Nat → Nat → Int32) :=
  (F, R5)
def sp_X6_swap (F : Nat → Int32) (R : Nat → Nat → Int32) (a0 : Int32) (a1 : Int32) : (Nat → Int32) × (Nat → Nat → Int32) :=
  k_lt (g_in a0 0 4) (fun r1 => if r1 = 0 then K_X6_swap_44 F R else k_lt (g_in a1 0 4) (fun r12 => if r12 = 0 then K_X6_swap_44 F R else k_lt (R 49 (Int32.toNatClampNeg a0)) (fun x22 => k_lt (R 49 (Int32.toNatClampNeg a1)) (fun x24 => k_lt (g_u R 49 (upd (R 49) (Int32.toNatClampNeg a0) x24)) (fun R26 => k_lt (g_u R26 49 (upd (R26 49) (Int32.toNatClampNeg a1) x22)) (fun R28 => K_X6_swap_44 F R28))))))
theorem e_X6_swap_0 : g_dc cX6_swap 0 (.iload_n 1) 1 1 := ⟨by decide +kernel, rfl⟩
theorem e_X6_swap_1 : g_dc cX6_swap 1 (.iconst 0) 1 2 := ⟨by decide +kernel, rfl⟩
theorem e_X6_swap_2 : g_dc cX6_swap 2 (.iconst 4) 1 3 := ⟨by decide +kernel, rfl⟩
theorem e_X6_swap_3 : g_dc cX6_swap 3 (.invokestatic 31) 3 6 := ⟨by decide +kernel, rfl⟩
theorem e_X6_swap_6 : g_dc cX6_swap 6 (.ifCond .eq 38) 3 9 := ⟨by decide +kernel, rfl⟩
theorem e_X6_swap_9 : g_dc cX6_swap 9 (.iload_n 2) 1 10 := ⟨by decide +kernel, rfl⟩
theorem e_X6_swap_10 : g_dc cX6_swap 10 (.iconst 0) 1 11 := ⟨by decide +kernel, rfl⟩
theorem e_X6_swap_11 : g_dc cX6_swap 11 (.iconst 4) 1 12 := ⟨by decide +kernel, rfl⟩
theorem e_X6_swap_12 : g_dc cX6_swap 12 (.invokestatic 31) 3 15 := ⟨by decide +kernel, rfl⟩
theorem e_X6_swap_15 : g_dc cX6_swap 15 (.ifCond .eq 29) 3 18 := ⟨by decide +kernel, rfl⟩
theorem e_X6_swap_18 : g_dc cX6_swap 18 (.aload_n 0) 1 19 := ⟨by decide +kernel, rfl⟩
theorem e_X6_swap_19 : g_dc cX6_swap 19 (.getfield 15) 3 22 := ⟨by decide +kernel, rfl⟩
theorem e_X6_swap_22 : g_dc cX6_swap 22 (.iload_n 1) 1 23 := ⟨by decide +kernel, rfl⟩
theorem e_X6_swap_23 : g_dc cX6_swap 23 (.iaload) 1 24 := ⟨by decide +kernel, rfl⟩
theorem e_X6_swap_24 : g_dc cX6_swap 24 (.istore_n 3) 1 25 := ⟨by decide +kernel, rfl⟩
theorem e_X6_swap_25 : g_dc cX6_swap 25 (.aload_n 0) 1 26 := ⟨by decide +kernel, rfl⟩
theorem e_X6_swap_26 : g_dc cX6_swap 26 (.getfield 15) 3 29 := ⟨by decide +kernel, rfl⟩
theorem e_X6_swap_29 : g_dc cX6_swap 29 (.iload_n 1) 1 30 := ⟨by decide +kernel, rfl⟩
theorem e_X6_swap_30 : g_dc cX6_swap 30 (.aload_n 0) 1 31 := ⟨by decide +kernel, rfl⟩
theorem e_X6_swap_31 : g_dc cX6_swap 31 (.getfield 15) 3 34 := ⟨by decide +kernel, rfl⟩
theorem e_X6_swap_34 : g_dc cX6_swap 34 (.iload_n 2) 1 35 := ⟨by decide +kernel, rfl⟩
theorem e_X6_swap_35 : g_dc cX6_swap 35 (.iaload) 1 36 := ⟨by decide +kernel, rfl⟩
theorem e_X6_swap_36 : g_dc cX6_swap 36 (.iastore) 1 37 := ⟨by decide +kernel, rfl⟩
theorem e_X6_swap_37 : g_dc cX6_swap 37 (.aload_n 0) 1 38 := ⟨by decide +kernel, rfl⟩
theorem e_X6_swap_38 : g_dc cX6_swap 38 (.getfield 15) 3 41 := ⟨by decide +kernel, rfl⟩
theorem e_X6_swap_41 : g_dc cX6_swap 41 (.iload_n 2) 1 42 := ⟨by decide +kernel, rfl⟩
theorem e_X6_swap_42 : g_dc cX6_swap 42 (.iload_n 3) 1 43 := ⟨by decide +kernel, rfl⟩
theorem e_X6_swap_43 : g_dc cX6_swap 43 (.iastore) 1 44 := ⟨by decide +kernel, rfl⟩
theorem e_X6_swap_44 : g_dc cX6_swap 44 (.return_) 1 45 := ⟨by decide +kernel, rfl⟩
def md_X6_swap : List Nat := []
def mr_X6_swap : List Nat := [49]
set_option maxHeartbeats 4000000 in
set_option maxRecDepth 100000 in
theorem w_X6_swap (l : Launch) (X : gX) (ad : Nat → Nat) (F : Nat → Int32) (R : Nat → Nat → Int32) (hI : g_ok LK_wX F) (hA : g_okR LA_wX R) (a0 : Int32) (a1 : Int32) : g_Cv l X yX6_swap cX6_swap 4 2 0 0 [.ref (ad 47), .int a0, .int a1] (wX X ad F R) (fun w => ∃ (F' : Nat → Int32) (R' : Nat → Nat → Int32), w = wX X ad F' R' ∧ g_ok LK_wX F' ∧ g_okR LA_wX R' ∧ g_fr md_X6_swap F F' ∧ g_fr mr_X6_swap R R' ∧ (F', R') = sp_X6_swap F R a0 a1) := by
  refine g_mv (by decide +kernel) (Nat.le_of_ble_eq_true rfl) (fun E cx hret => ?_)
  obtain ⟨SP, hSP⟩ : ∃ z, z = sp_X6_swap F R a0 a1 := ⟨_, rfl⟩
  have hk0 := hSP
  unfold sp_X6_swap at hk0
  refine g_iload_n cx 1 rfl e_X6_swap_0 ?_
  refine g_iconst cx 0 (by decide) e_X6_swap_1 ?_
  refine g_iconst cx 4 (by decide) e_X6_swap_2 ?_
  refine g_cNiW cx [.int a0, .int 0, .int 4] [] (c_X10_within l X (wX X ad F R) a0 0 4) mn_X6_31 yS_X10_within e_X6_swap_3 (by unfold g_rr; decide) (by decide) rfl (Nat.le_of_ble_eq_true rfl) (fun r1 w2 h3 => ?_)
  obtain ⟨rfl, hr1⟩ := h3
  have pr1 : jv 0 1 r1 := by rw [hr1]; exact gi_01 _ _ _
  have hk4 := k_ls hk0 hr1
  have J44 : ∀ (R5 : Nat → Nat → Int32), (g_okR LA_wX R5) → (g_fr mr_X6_swap R R5) → (SP = K_X6_swap_44 F R5) → G X E 4 0 0 (wX X ad F R5) [] 44 [] := by
    intro R5 oR5 fR5 hkJ44
    unfold K_X6_swap_44 at hkJ44
    exact hret e_X6_swap_44 (Nat.le_of_ble_eq_true rfl) (Nat.le_of_ble_eq_true rfl) ⟨F, R5, rfl, hI, oR5, (g_fr_rf F), fR5, (hkJ44.symm.trans hSP)⟩
  refine g_if_eq cx 44 e_X6_swap_6 (by decide) (fun zc6 => ?_) (fun zc6 => ?_)
  · have p7 := gn_eq 0 0 (gc_eq zc6) pr1 (jv_k (x := 0) 0 (by decide)) (by decide)
    have hk8 := hk4.trans (if_pos zc6)
    refine g_lsub [] [] rfl ?_
    exact J44 R hA (g_fr_rf R) hk8
  · have p9 := gn_neL 1 1 (gc_ne zc6) pr1 (jv_k (x := 0) 0 (by decide)) (by decide)
    have p10 := jv_i 0 4 (jv_t a0) (gi_in (A := 0) (B := 4) hr1 zc6 (by decide) (by decide)) (by decide)
    have hk11 := hk4.trans (if_neg zc6)
    refine g_iload_n cx 2 rfl e_X6_swap_9 ?_
    refine g_iconst cx 0 (by decide) e_X6_swap_10 ?_
    refine g_iconst cx 4 (by decide) e_X6_swap_11 ?_
    refine g_cNiW cx [.int a1, .int 0, .int 4] [] (c_X10_within l X (wX X ad F R) a1 0 4) mn_X6_31 yS_X10_within e_X6_swap_12 (by unfold g_rr; decide) (by decide) rfl (Nat.le_of_ble_eq_true rfl) (fun r12 w13 h14 => ?_)
    obtain ⟨rfl, hr12⟩ := h14
    have pr12 : jv 0 1 r12 := by rw [hr12]; exact gi_01 _ _ _
    have hk15 := k_ls hk11 hr12
    refine g_if_eq cx 44 e_X6_swap_15 (by decide) (fun zc16 => ?_) (fun zc16 => ?_)
    · have p17 := gn_eq 0 0 (gc_eq zc16) pr12 (jv_k (x := 0) 0 (by decide)) (by decide)
      have hk18 := hk15.trans (if_pos zc16)
      refine g_lsub [] [] rfl ?_
      exact J44 R hA (g_fr_rf R) hk18
    · have p19 := gn_neL 1 1 (gc_ne zc16) pr12 (jv_k (x := 0) 0 (by decide)) (by decide)
      have p20 := jv_i 0 4 (jv_t a1) (gi_in (A := 0) (B := 4) hr12 zc16 (by decide) (by decide)) (by decide)
      have hk21 := hk15.trans (if_neg zc16)
      refine g_aload_n cx 0 rfl e_X6_swap_18 ?_
      refine g_get cx cl_X6 fl_X6_15 47 (.ref (ad 49)) e_X6_swap_19 rfl rfl ?_
      refine g_iload_n cx 1 rfl e_X6_swap_22 ?_
      refine g_iald cx 49 e_X6_swap_23 rfl (jv_ix 5 p10 (by decide)) ?_
      refine g_topi (fun x22 ex22 => ?_)
      have hk23 := k_ls hk21 ex22
      refine g_istore_n cx [(3, .int x22), (0, .ref (ad 47)), (1, .int a0), (2, .int a1)] e_X6_swap_24 (by decide) rfl ?_
      refine g_aload_n cx 1 rfl e_X6_swap_25 ?_
      refine g_get cx cl_X6 fl_X6_15 47 (.ref (ad 49)) e_X6_swap_26 rfl rfl ?_
      refine g_iload_n cx 2 rfl e_X6_swap_29 ?_
      refine g_aload_n cx 1 rfl e_X6_swap_30 ?_
      refine g_get cx cl_X6 fl_X6_15 47 (.ref (ad 49)) e_X6_swap_31 rfl rfl ?_
      refine g_iload_n cx 3 rfl e_X6_swap_34 ?_
      refine g_iald cx 49 e_X6_swap_35 rfl (jv_ix 5 p20 (by decide)) ?_
      refine g_topi (fun x24 ex24 => ?_)
      have hk25 := k_ls hk23 ex24
      refine g_iast cx 49 (wX X ad F (g_u R 49 (upd (R 49) (Int32.toNatClampNeg a0) x24))) e_X6_swap_36 rfl (jv_ix 5 p10 (by decide)) rfl ?_
      obtain ⟨R26, hR26⟩ : ∃ z, z = g_u R 49 (upd (R 49) (Int32.toNatClampNeg a0) x24) := ⟨_, rfl⟩
      rw [← hR26]
      have hk27 := k_ls hk25 hR26
      have oR26 : g_okR LA_wX R26 := by rw [hR26]; exact g_okR_u hA rfl
      have fR26 : g_fr mr_X6_swap R R26 := by rw [hR26]; exact g_fr_r (g_fr_rf R) rfl
      refine g_aload_n cx 1 rfl e_X6_swap_37 ?_
      refine g_get cx cl_X6 fl_X6_15 47 (.ref (ad 49)) e_X6_swap_38 rfl rfl ?_
      refine g_iload_n cx 3 rfl e_X6_swap_41 ?_
      refine g_iload_n cx 0 rfl e_X6_swap_42 ?_
      refine g_iast cx 49 (wX X ad F (g_u R26 49 (upd (R26 49) (Int32.toNatClampNeg a1) x22))) e_X6_swap_43 rfl (jv_ix 5 p20 (by decide)) rfl ?_
      obtain ⟨R28, hR28⟩ : ∃ z, z = g_u R26 49 (upd (R26 49) (Int32.toNatClampNeg a1) x22) := ⟨_, rfl⟩
      rw [← hR28]
      have hk29 := k_ls hk27 hR28
      have oR28 : g_okR LA_wX R28 := by rw [hR28]; exact g_okR_u oR26 rfl
      have fR28 : g_fr mr_X6_swap R R28 := by rw [hR28]; exact g_fr_r fR26 rfl
      refine g_lsub [] [] rfl ?_
      exact J44 R28 oR28 fR28 hk29
def KB_X6_next_101 (b101 : (Nat → Int32) → (Nat → Nat → Int32) → (Int32) → (Int32) → Int32 × (Nat → Int32) × (Nat → Nat → Int32))  (F29 : Nat → Int32) (R30 : Nat → Nat → Int32) (y27 : Int32) (y28 : Int32) : Int32 × (Nat → Int32) × (Nat → Nat → Int32) :=
  if y28 ≤ y27 then (1, F29, R30) else k_lt2 (sp_X6_swap F29 R30 y27 y28) (fun F40 R41 => k_lt (y27 + 1) (fun x43 => k_lt (y28 + (-1)) (fun x45 => b101 F40 R41 x43 x45)))
def K_X6_next_101  : Nat → (Nat → Int32) → (Nat → Nat → Int32) → (Int32) → (Int32) → Int32 × (Nat → Int32) × (Nat → Nat → Int32)
  | 0 => fun F29 R30 _ _ => (0, F29, R30)
  | n + 1 => KB_X6_next_101 (K_X6_next_101 n)
def K_X6_next_83 (F : Nat → Int32) (R : Nat → Nat → Int32) (y5 : Int32) (y13 : Int32)  : Int32 × (Nat → Int32) × (Nat → Nat → Int32) :=
  k_lt2 (sp_X6_swap F R y5 y13) (fun F20 R21 => k_lt (y5 + 1) (fun x23 => k_lt ((F 755) - 1) (fun x25 => K_X6_next_101 8589934592 F20 R21 x23 x25)))
def KB_X6_next_55 (b55 : (Int32) → Int32 × (Nat → Int32) × (Nat → Nat → Int32)) (F : Nat → Int32) (R : Nat → Nat → Int32) (y5 : Int32) (y13 : Int32) : Int32 × (Nat → Int32) × (Nat → Nat → Int32) :=
  k_lt (y5 + 1) (fun x14 => if y13 ≤ x14 then K_X6_next_83 F R y5 y13 else k_lt (R 49 (Int32.toNatClampNeg y13)) (fun x53 => k_lt (R 49 (Int32.toNatClampNeg y5)) (fun x55 => if x55 ≤ x53 then K_X6_next_83 F R y5 y13 else k_lt (y13 + (-1)) (fun x62 => b55 x62))))
def K_X6_next_55 (F : Nat → Int32) (R : Nat → Nat → Int32) (y5 : Int32) : Nat → (Int32) → Int32 × (Nat → Int32) × (Nat → Nat → Int32)
  | 0 => fun _ => (0, F, R)
  | n + 1 => KB_X6_next_55 (K_X6_next_55 F R y5 n) F R y5
def K_X6_next_38 (F : Nat → Int32) (R : Nat → Nat → Int32) (y5 : Int32)  : Int32 × (Nat → Int32) × (Nat → Nat → Int32) :=
  if 0 ≤ y5 then k_lt (if 5 < (F 755) then 5 else (F 755)) (fun x9 => k_lt (x9 - 1) (fun x11 => K_X6_next_55 F R y5 8589934592 x11)) else (0, F, R)
def KB_X6_next_11 (b11 : (Int32) → Int32 × (Nat → Int32) × (Nat → Nat → Int32)) (F : Nat → Int32) (R : Nat → Nat → Int32) (y5 : Int32) : Int32 × (Nat → Int32) × (Nat → Nat → Int32) :=
  if y5 < 0 then K_X6_next_38 F R y5 else k_lt (R 49 (Int32.toNatClampNeg y5)) (fun x71 => k_lt (y5 + 1) (fun x73 => k_lt (R 49 (Int32.toNatClampNeg x73)) (fun x75 => if x71 ≤ x75 then K_X6_next_38 F R y5 else k_lt (y5 + (-1)) (fun x82 => b11 x82))))
def K_X6_next_11 (F : Nat → Int32) (R : Nat → Nat → Int32) : Nat → (Int32) → Int32 × (Nat → Int32) × (Nat → Nat → Int32)
  | 0 => fun _ => (0, F, R)
  | n + 1 => KB_X6_next_11 (K_X6_next_11 F R n) F R
def sp_X6_next (F : Nat → Int32) (R : Nat → Nat → Int32) : Int32 × (Nat → Int32) × (Nat → Nat → Int32) :=
  k_lt (if 5 < (F 755) then 5 else (F 755)) (fun x1 => k_lt (x1 - 2) (fun x3 => K_X6_next_11 F R 8589934592 x3))
theorem e_X6_next_0 : g_dc cX6_next 0 (.aload_n 0) 1 1 := ⟨by decide +kernel, rfl⟩
theorem e_X6_next_1 : g_dc cX6_next 1 (.getfield 21) 3 4 := ⟨by decide +kernel, rfl⟩
theorem e_X6_next_4 : g_dc cX6_next 4 (.iconst 5) 1 5 := ⟨by decide +kernel, rfl⟩
theorem e_X6_next_5 : g_dc cX6_next 5 (.invokestatic 51) 3 8 := ⟨by decide +kernel, rfl⟩
theorem e_X6_next_8 : g_dc cX6_next 8 (.iconst 2) 1 9 := ⟨by decide +kernel, rfl⟩
theorem e_X6_next_9 : g_dc cX6_next 9 (.isub) 1 10 := ⟨by decide +kernel, rfl⟩
theorem e_X6_next_10 : g_dc cX6_next 10 (.istore_n 1) 1 11 := ⟨by decide +kernel, rfl⟩
theorem e_X6_next_11 : g_dc cX6_next 11 (.iload_n 1) 1 12 := ⟨by decide +kernel, rfl⟩
theorem e_X6_next_12 : g_dc cX6_next 12 (.ifCond .lt 26) 3 15 := ⟨by decide +kernel, rfl⟩
theorem e_X6_next_15 : g_dc cX6_next 15 (.aload_n 0) 1 16 := ⟨by decide +kernel, rfl⟩
theorem e_X6_next_16 : g_dc cX6_next 16 (.getfield 15) 3 19 := ⟨by decide +kernel, rfl⟩
theorem e_X6_next_19 : g_dc cX6_next 19 (.iload_n 1) 1 20 := ⟨by decide +kernel, rfl⟩
theorem e_X6_next_20 : g_dc cX6_next 20 (.iaload) 1 21 := ⟨by decide +kernel, rfl⟩
theorem e_X6_next_21 : g_dc cX6_next 21 (.aload_n 0) 1 22 := ⟨by decide +kernel, rfl⟩
theorem e_X6_next_22 : g_dc cX6_next 22 (.getfield 15) 3 25 := ⟨by decide +kernel, rfl⟩
theorem e_X6_next_25 : g_dc cX6_next 25 (.iload_n 1) 1 26 := ⟨by decide +kernel, rfl⟩
theorem e_X6_next_26 : g_dc cX6_next 26 (.iconst 1) 1 27 := ⟨by decide +kernel, rfl⟩
theorem e_X6_next_27 : g_dc cX6_next 27 (.iadd) 1 28 := ⟨by decide +kernel, rfl⟩
theorem e_X6_next_28 : g_dc cX6_next 28 (.iaload) 1 29 := ⟨by decide +kernel, rfl⟩
theorem e_X6_next_29 : g_dc cX6_next 29 (.if_icmp .le 9) 3 32 := ⟨by decide +kernel, rfl⟩
theorem e_X6_next_32 : g_dc cX6_next 32 (.iinc 1 (-1)) 3 35 := ⟨by decide +kernel, rfl⟩
theorem e_X6_next_35 : g_dc cX6_next 35 (.goto (-24)) 3 38 := ⟨by decide +kernel, rfl⟩
theorem e_X6_next_38 : g_dc cX6_next 38 (.iload_n 1) 1 39 := ⟨by decide +kernel, rfl⟩
theorem e_X6_next_39 : g_dc cX6_next 39 (.ifCond .ge 5) 3 42 := ⟨by decide +kernel, rfl⟩
theorem e_X6_next_42 : g_dc cX6_next 42 (.iconst 0) 1 43 := ⟨by decide +kernel, rfl⟩
theorem e_X6_next_43 : g_dc cX6_next 43 (.ireturn) 1 44 := ⟨by decide +kernel, rfl⟩
theorem e_X6_next_44 : g_dc cX6_next 44 (.aload_n 0) 1 45 := ⟨by decide +kernel, rfl⟩
theorem e_X6_next_45 : g_dc cX6_next 45 (.getfield 21) 3 48 := ⟨by decide +kernel, rfl⟩
theorem e_X6_next_48 : g_dc cX6_next 48 (.iconst 5) 1 49 := ⟨by decide +kernel, rfl⟩
theorem e_X6_next_49 : g_dc cX6_next 49 (.invokestatic 51) 3 52 := ⟨by decide +kernel, rfl⟩
theorem e_X6_next_52 : g_dc cX6_next 52 (.iconst 1) 1 53 := ⟨by decide +kernel, rfl⟩
theorem e_X6_next_53 : g_dc cX6_next 53 (.isub) 1 54 := ⟨by decide +kernel, rfl⟩
theorem e_X6_next_54 : g_dc cX6_next 54 (.istore_n 2) 1 55 := ⟨by decide +kernel, rfl⟩
theorem e_X6_next_55 : g_dc cX6_next 55 (.iload_n 2) 1 56 := ⟨by decide +kernel, rfl⟩
theorem e_X6_next_56 : g_dc cX6_next 56 (.iload_n 1) 1 57 := ⟨by decide +kernel, rfl⟩
theorem e_X6_next_57 : g_dc cX6_next 57 (.iconst 1) 1 58 := ⟨by decide +kernel, rfl⟩
theorem e_X6_next_58 : g_dc cX6_next 58 (.iadd) 1 59 := ⟨by decide +kernel, rfl⟩
theorem e_X6_next_59 : g_dc cX6_next 59 (.if_icmp .le 24) 3 62 := ⟨by decide +kernel, rfl⟩
theorem e_X6_next_62 : g_dc cX6_next 62 (.aload_n 0) 1 63 := ⟨by decide +kernel, rfl⟩
theorem e_X6_next_63 : g_dc cX6_next 63 (.getfield 15) 3 66 := ⟨by decide +kernel, rfl⟩
theorem e_X6_next_66 : g_dc cX6_next 66 (.iload_n 2) 1 67 := ⟨by decide +kernel, rfl⟩
theorem e_X6_next_67 : g_dc cX6_next 67 (.iaload) 1 68 := ⟨by decide +kernel, rfl⟩
theorem e_X6_next_68 : g_dc cX6_next 68 (.aload_n 0) 1 69 := ⟨by decide +kernel, rfl⟩
theorem e_X6_next_69 : g_dc cX6_next 69 (.getfield 15) 3 72 := ⟨by decide +kernel, rfl⟩
theorem e_X6_next_72 : g_dc cX6_next 72 (.iload_n 1) 1 73 := ⟨by decide +kernel, rfl⟩
theorem e_X6_next_73 : g_dc cX6_next 73 (.iaload) 1 74 := ⟨by decide +kernel, rfl⟩
theorem e_X6_next_74 : g_dc cX6_next 74 (.if_icmp .ge 9) 3 77 := ⟨by decide +kernel, rfl⟩
theorem e_X6_next_77 : g_dc cX6_next 77 (.iinc 2 (-1)) 3 80 := ⟨by decide +kernel, rfl⟩
theorem e_X6_next_80 : g_dc cX6_next 80 (.goto (-25)) 3 83 := ⟨by decide +kernel, rfl⟩
theorem e_X6_next_83 : g_dc cX6_next 83 (.aload_n 0) 1 84 := ⟨by decide +kernel, rfl⟩
theorem e_X6_next_84 : g_dc cX6_next 84 (.iload_n 1) 1 85 := ⟨by decide +kernel, rfl⟩
theorem e_X6_next_85 : g_dc cX6_next 85 (.iload_n 2) 1 86 := ⟨by decide +kernel, rfl⟩
theorem e_X6_next_86 : g_dc cX6_next 86 (.invokevirtual 56) 3 89 := ⟨by decide +kernel, rfl⟩
theorem e_X6_next_89 : g_dc cX6_next 89 (.iload_n 1) 1 90 := ⟨by decide +kernel, rfl⟩
theorem e_X6_next_90 : g_dc cX6_next 90 (.iconst 1) 1 91 := ⟨by decide +kernel, rfl⟩
theorem e_X6_next_91 : g_dc cX6_next 91 (.iadd) 1 92 := ⟨by decide +kernel, rfl⟩
theorem e_X6_next_92 : g_dc cX6_next 92 (.istore_n 3) 1 93 := ⟨by decide +kernel, rfl⟩
theorem e_X6_next_93 : g_dc cX6_next 93 (.aload_n 0) 1 94 := ⟨by decide +kernel, rfl⟩
theorem e_X6_next_94 : g_dc cX6_next 94 (.getfield 21) 3 97 := ⟨by decide +kernel, rfl⟩
theorem e_X6_next_97 : g_dc cX6_next 97 (.iconst 1) 1 98 := ⟨by decide +kernel, rfl⟩
theorem e_X6_next_98 : g_dc cX6_next 98 (.isub) 1 99 := ⟨by decide +kernel, rfl⟩
theorem e_X6_next_99 : g_dc cX6_next 99 (.istore 4) 2 101 := ⟨by decide +kernel, rfl⟩
theorem e_X6_next_101 : g_dc cX6_next 101 (.iload_n 3) 1 102 := ⟨by decide +kernel, rfl⟩
theorem e_X6_next_102 : g_dc cX6_next 102 (.iload 4) 2 104 := ⟨by decide +kernel, rfl⟩
theorem e_X6_next_104 : g_dc cX6_next 104 (.if_icmp .ge 19) 3 107 := ⟨by decide +kernel, rfl⟩
theorem e_X6_next_107 : g_dc cX6_next 107 (.aload_n 0) 1 108 := ⟨by decide +kernel, rfl⟩
theorem e_X6_next_108 : g_dc cX6_next 108 (.iload_n 3) 1 109 := ⟨by decide +kernel, rfl⟩
theorem e_X6_next_109 : g_dc cX6_next 109 (.iload 4) 2 111 := ⟨by decide +kernel, rfl⟩
theorem e_X6_next_111 : g_dc cX6_next 111 (.invokevirtual 56) 3 114 := ⟨by decide +kernel, rfl⟩
theorem e_X6_next_114 : g_dc cX6_next 114 (.iinc 3 1) 3 117 := ⟨by decide +kernel, rfl⟩
theorem e_X6_next_117 : g_dc cX6_next 117 (.iinc 4 (-1)) 3 120 := ⟨by decide +kernel, rfl⟩
theorem e_X6_next_120 : g_dc cX6_next 120 (.goto (-19)) 3 123 := ⟨by decide +kernel, rfl⟩
theorem e_X6_next_123 : g_dc cX6_next 123 (.iconst 1) 1 124 := ⟨by decide +kernel, rfl⟩
theorem e_X6_next_124 : g_dc cX6_next 124 (.ireturn) 1 125 := ⟨by decide +kernel, rfl⟩
def md_X6_next : List Nat := []
def mr_X6_next : List Nat := [49]
set_option maxHeartbeats 4000000 in
set_option maxRecDepth 100000 in
theorem w_X6_next (l : Launch) (X : gX) (ad : Nat → Nat) (F : Nat → Int32) (R : Nat → Nat → Int32) (hI : g_ok LK_wX F) (hA : g_okR LA_wX R) : g_Ci l X yX6_next cX6_next 5 (some .boolean) 3 0 0 [.ref (ad 47)] (wX X ad F R) (fun r w => ∃ (F' : Nat → Int32) (R' : Nat → Nat → Int32), w = wX X ad F' R' ∧ g_ok LK_wX F' ∧ g_okR LA_wX R' ∧ g_fr md_X6_next F F' ∧ g_fr mr_X6_next R R' ∧ jv 0 1 r ∧ (r, F', R') = sp_X6_next F R) := by
  refine g_mi (by decide +kernel) (Nat.le_of_ble_eq_true rfl) (fun E cx hret => ?_)
  obtain ⟨SP, hSP⟩ : ∃ z, z = sp_X6_next F R := ⟨_, rfl⟩
  have hk0 := hSP
  unfold sp_X6_next at hk0
  refine g_aload_n cx 0 rfl e_X6_next_0 ?_
  refine g_get cx cl_X6 fl_X6_21 47 (.int (F 755)) e_X6_next_1 rfl rfl ?_
  refine g_iconst cx 5 (by decide) e_X6_next_4 ?_
  refine g_mmin cx ml_X6_51 e_X6_next_5 ⟨Nat.le_of_ble_eq_true rfl, Nat.le_of_ble_eq_true rfl⟩ (by decide) ?_
  refine g_topi (fun x1 ex1 => ?_)
  have hk2 := k_ls hk0 ex1
  have px1 := jv_min 0 5 ex1 (g_ok_g hI 9 rfl) (jv_k (x := 5) 5 (by decide)) (by decide)
  refine g_iconst cx 2 (by decide) e_X6_next_8 ?_
  refine g_isub cx e_X6_next_9 ?_
  refine g_topi (fun x3 ex3 => ?_)
  have hk4 := k_ls hk2 ex3
  have zx3 := jv_sub (-2) 3 ex3 px1 (jv_k (x := 2) 2 (by decide)) (by decide)
  refine g_istore_n cx [(1, .int x3), (0, .ref (ad 47))] e_X6_next_10 (by decide) rfl ?_
  have J11 : ∀ (N : Nat) (y5 : Int32), (jv (-2) 3 y5) → (SP = K_X6_next_11 F R N y5) → (y5.toInt + 2147483648).toNat < N → G X E 5 0 0 (wX X ad F R) [(0, .ref (ad 47)), (1, .int y5)] 11 [] := by
    intro N
    induction N with
    | zero => intro y5 py5 hkJ11 hm; exact absurd hm (Nat.not_lt_zero _)
    | succ N ih11 =>
      intro y5 py5 hkJ11 hm11
      have hkK11 : SP = KB_X6_next_11 (K_X6_next_11 F R N) F R y5 := hkJ11
      obtain ⟨b11, hb11⟩ : ∃ z, z = K_X6_next_11 F R N := ⟨_, rfl⟩
      rw [← hb11] at hkK11
      unfold KB_X6_next_11 at hkK11
      refine g_iload_n cx 1 rfl e_X6_next_11 ?_
      have J38 : (SP = K_X6_next_38 F R y5) → G X E 5 0 0 (wX X ad F R) [(0, .ref (ad 47)), (1, .int y5)] 38 [] := by
        intro   hkJ38
        unfold K_X6_next_38 at hkJ38
        refine g_iload_n cx 1 rfl e_X6_next_38 ?_
        refine g_if_ge cx 44 e_X6_next_39 (by decide) (fun zc6 => ?_) (fun zc6 => ?_)
        · have p7 := gn_ge 0 3 (gc_le zc6) py5 (jv_k (x := 0) 0 (by decide)) (by decide)
          have hk8 := hkJ38.trans (if_pos zc6)
          refine g_aload_n cx 0 rfl e_X6_next_44 ?_
          refine g_get cx cl_X6 fl_X6_21 47 (.int (F 755)) e_X6_next_45 rfl rfl ?_
          refine g_iconst cx 5 (by decide) e_X6_next_48 ?_
          refine g_mmin cx ml_X6_51 e_X6_next_49 ⟨Nat.le_of_ble_eq_true rfl, Nat.le_of_ble_eq_true rfl⟩ (by decide) ?_
          refine g_topi (fun x9 ex9 => ?_)
          have hk10 := k_ls hk8 ex9
          have px9 := jv_min 0 5 ex9 (g_ok_g hI 9 rfl) (jv_k (x := 5) 5 (by decide)) (by decide)
          refine g_iconst cx 1 (by decide) e_X6_next_52 ?_
          refine g_isub cx e_X6_next_53 ?_
          refine g_topi (fun x11 ex11 => ?_)
          have hk12 := k_ls hk10 ex11
          have zx11 := jv_sub (-1) 4 ex11 px9 (jv_k (x := 1) 1 (by decide)) (by decide)
          refine g_istore_n cx [(2, .int x11), (0, .ref (ad 47)), (1, .int y5)] e_X6_next_54 (by decide) rfl ?_
          have J55 : ∀ (N : Nat) (y13 : Int32), (jv (-1) 4 y13) → (SP = K_X6_next_55 F R y5 N y13) → (y13.toInt + 2147483648).toNat < N → G X E 5 0 0 (wX X ad F R) [(0, .ref (ad 47)), (1, .int y5), (2, .int y13)] 55 [] := by
            intro N
            induction N with
            | zero => intro y13 py13 hkJ55 hm; exact absurd hm (Nat.not_lt_zero _)
            | succ N ih55 =>
              intro y13 py13 hkJ55 hm55
              have hkK55 : SP = KB_X6_next_55 (K_X6_next_55 F R y5 N) F R y5 y13 := hkJ55
              obtain ⟨b55, hb55⟩ : ∃ z, z = K_X6_next_55 F R y5 N := ⟨_, rfl⟩
              rw [← hb55] at hkK55
              unfold KB_X6_next_55 at hkK55
              refine g_iload_n cx 2 rfl e_X6_next_55 ?_
              refine g_iload_n cx 1 rfl e_X6_next_56 ?_
              refine g_iconst cx 1 (by decide) e_X6_next_57 ?_
              refine g_iadd cx e_X6_next_58 ?_
              refine g_topi (fun x14 ex14 => ?_)
              have hk15 := k_ls hkK55 ex14
              have zx14 := jv_add 1 4 ex14 p7 (jv_k (x := 1) 1 (by decide)) (by decide)
              have J83 : (SP = K_X6_next_83 F R y5 y13) → G X E 5 0 0 (wX X ad F R) [(0, .ref (ad 47)), (1, .int y5), (2, .int y13)] 83 [] := by
                intro   hkJ83
                unfold K_X6_next_83 at hkJ83
                refine g_aload_n cx 0 rfl e_X6_next_83 ?_
                refine g_iload_n cx 1 rfl e_X6_next_84 ?_
                refine g_iload_n cx 2 rfl e_X6_next_85 ?_
                refine g_cVvW cx [.int y5, .int y13] [] (w_X6_swap l X ad F R hI hA y5 y13) ml_X6_56 yV_X6_swap e_X6_next_86 (by unfold g_rr; decide) (by decide) 47 rfl rfl rfl (Nat.le_of_ble_eq_true rfl) (fun w17 h18 => ?_)
                obtain ⟨F20, R21, rfl, oF20, oR21, cF20, cR21, hx19⟩ := h18
                have hk22 := k_ls2 hkJ83 hx19
                have fF20 : g_fr md_X6_next F F20 := g_fr_c (g_fr_rf F) cF20 rfl
                have fR21 : g_fr mr_X6_next R R21 := g_fr_c (g_fr_rf R) cR21 rfl
                refine g_iload_n cx 1 rfl e_X6_next_89 ?_
                refine g_iconst cx 1 (by decide) e_X6_next_90 ?_
                refine g_iadd cx e_X6_next_91 ?_
                refine g_topi (fun x23 ex23 => ?_)
                have hk24 := k_ls hk22 ex23
                have zx23 := jv_add 1 4 ex23 p7 (jv_k (x := 1) 1 (by decide)) (by decide)
                refine g_istore_n cx [(3, .int x23), (0, .ref (ad 47)), (1, .int y5), (2, .int y13)] e_X6_next_92 (by decide) rfl ?_
                refine g_aload_n cx 1 rfl e_X6_next_93 ?_
                refine g_get cx cl_X6 fl_X6_21 47 (.int (F20 755)) e_X6_next_94 rfl rfl ?_
                refine g_toi (F 755) (cF20 755 rfl) ?_
                refine g_iconst cx 1 (by decide) e_X6_next_97 ?_
                refine g_isub cx e_X6_next_98 ?_
                refine g_topi (fun x25 ex25 => ?_)
                have hk26 := k_ls hk24 ex25
                have zx25 := jv_sub (-1) 4 ex25 (g_ok_g hI 9 rfl) (jv_k (x := 1) 1 (by decide)) (by decide)
                refine g_istore cx [(4, .int x25), (3, .int x23), (0, .ref (ad 47)), (1, .int y5), (2, .int y13)] e_X6_next_99 (by decide) rfl ?_
                have J101 : ∀ (N : Nat) (F29 : Nat → Int32) (R30 : Nat → Nat → Int32) (y27 : Int32) (y28 : Int32), (g_ok LK_wX F29) → (g_fr md_X6_next F F29) → (g_okR LA_wX R30) → (g_fr mr_X6_next R R30) → (jv 1 4 y27) → (jv (-1) 4 y28) → (SP = K_X6_next_101 N F29 R30 y27 y28) → (2147483647 - y27.toInt).toNat < N → G X E 5 0 0 (wX X ad F29 R30) [(0, .ref (ad 47)), (3, .int y27), (4, .int y28)] 101 [] := by
                  intro N
                  induction N with
                  | zero => intro F29 R30 y27 y28 oF29 fF29 oR30 fR30 py27 py28 hkJ101 hm; exact absurd hm (Nat.not_lt_zero _)
                  | succ N ih101 =>
                    intro F29 R30 y27 y28 oF29 fF29 oR30 fR30 py27 py28 hkJ101 hm101
                    have hkK101 : SP = KB_X6_next_101 (K_X6_next_101 N) F29 R30 y27 y28 := hkJ101
                    obtain ⟨b101, hb101⟩ : ∃ z, z = K_X6_next_101 N := ⟨_, rfl⟩
                    rw [← hb101] at hkK101
                    unfold KB_X6_next_101 at hkK101
                    refine g_iload_n cx 1 rfl e_X6_next_101 ?_
                    refine g_iload cx 2 rfl e_X6_next_102 ?_
                    refine g_icmp_ge cx 123 e_X6_next_104 (by decide) (fun zc31 => ?_) (fun zc31 => ?_)
                    · have hk32 := hkK101.trans (if_pos zc31)
                      refine g_iconst cx 1 (by decide) e_X6_next_123 ?_
                      exact hret e_X6_next_124 (Nat.le_of_ble_eq_true rfl) (Nat.le_of_ble_eq_true rfl) rfl ⟨F29, R30, rfl, oF29, oR30, fF29, fR30, (jv_w (jv_k (x := 1) 1 (by decide)) (by decide)), (hk32.symm.trans hSP)⟩
                    · have p33 := gn_lt 1 3 (gc_nle zc31) py27 py28 (by decide)
                      have p34 := gn_gt 2 4 (gc_nle zc31) py28 py27 (by decide)
                      have hk35 := hkK101.trans (if_neg zc31)
                      refine g_aload_n cx 0 rfl e_X6_next_107 ?_
                      refine g_iload_n cx 1 rfl e_X6_next_108 ?_
                      refine g_iload cx 2 rfl e_X6_next_109 ?_
                      refine g_cVvW cx [.int y27, .int y28] [] (w_X6_swap l X ad F29 R30 oF29 oR30 y27 y28) ml_X6_56 yV_X6_swap e_X6_next_111 (by unfold g_rr; decide) (by decide) 47 rfl rfl rfl (Nat.le_of_ble_eq_true rfl) (fun w37 h38 => ?_)
                      obtain ⟨F40, R41, rfl, oF40, oR41, cF40, cR41, hx39⟩ := h38
                      have hk42 := k_ls2 hk35 hx39
                      have fF40 : g_fr md_X6_next F F40 := g_fr_c fF29 cF40 rfl
                      have fR41 : g_fr mr_X6_next R R41 := g_fr_c fR30 cR41 rfl
                      obtain ⟨x43, ex43⟩ : ∃ z : Int32, z = y27 + Int32.ofInt 1 := ⟨_, rfl⟩
                      have hk44 := k_ls hk42 (show x43 = y27 + 1 from ex43)
                      refine g_iinc cx x43 [(3, .int x43), (0, .ref (ad 47)), (4, .int y28)] 1 e_X6_next_114 rfl ex43.symm (by decide) rfl ?_
                      have zx43 := jv_add 2 4 (show x43 = y27 + 1 from ex43) p33 (jv_k (x := 1) 1 (by decide)) (by decide)
                      obtain ⟨x45, ex45⟩ : ∃ z : Int32, z = y28 + Int32.ofInt (-1) := ⟨_, rfl⟩
                      have hk46 := k_ls hk44 (show x45 = y28 + (-1) from ex45)
                      refine g_iinc cx x45 [(4, .int x45), (3, .int x43), (0, .ref (ad 47))] 2 e_X6_next_117 rfl ex45.symm (by decide) rfl ?_
                      have zx45 := jv_add 1 3 (show x45 = y28 + (-1) from ex45) p34 (jv_k (x := (-1)) (-1) (by decide)) (by decide)
                      refine g_goto cx 101 e_X6_next_120 (by decide) ?_
                      refine g_lsub [2, 1, 0] [(0, .ref (ad 47)), (3, .int x43), (4, .int x45)] rfl ?_
                      exact ih101 F40 R41 x43 x45 oF40 fF40 oR41 fR41 (jv_w zx43.2 (by decide)) (jv_w zx45.2 (by decide)) (hk46.trans (by rw [hb101])) (Nat.lt_of_lt_of_le (show (2147483647 - x43.toInt).toNat < (2147483647 - y27.toInt).toNat from by have q0 := (jv_k (x := (-1)) (-1) (by decide)).1; have q1 := (jv_k (x := (-1)) (-1) (by decide)).2; have q2 := (jv_k (x := 0) 0 (by decide)).1; have q3 := (jv_k (x := 0) 0 (by decide)).2; have q4 := (jv_k (x := 1) 1 (by decide)).1; have q5 := (jv_k (x := 1) 1 (by decide)).2; have q6 := (jv_k (x := 2) 2 (by decide)).1; have q7 := (jv_k (x := 2) 2 (by decide)).2; have q8 := (jv_k (x := 5) 5 (by decide)).1; have q9 := (jv_k (x := 5) 5 (by decide)).2; have q10 := (g_ok_g hI 9 rfl).1; have q11 := (g_ok_g hI 9 rfl).2; have q12 := px1.1; have q13 := px1.2; have q14 := zx11.2.1; have q15 := zx11.2.2; have q16 := zx14.2.1; have q17 := zx14.2.2; have q18 := zx23.2.1; have q19 := zx23.2.2; have q20 := zx25.2.1; have q21 := zx25.2.2; have q22 := zx3.2.1; have q23 := zx3.2.2; have q24 := zx43.2.1; have q25 := zx43.2.2; have q26 := zx45.2.1; have q27 := zx45.2.2; have q28 := px9.1; have q29 := px9.2; have q30 := p33.1; have q31 := p33.2; have q32 := p34.1; have q33 := p34.2; have q34 := p7.1; have q35 := p7.2; have q36 := (g_min1 ex1); have q37 := (g_min2 ex1); have q38 := (g_eq0 zx3.1); have q39 := (gc_le zc6); have q40 := (g_min1 ex9); have q41 := (g_min2 ex9); have q42 := (g_eq0 zx11.1); have q43 := (g_eq0 zx14.1); have q44 := (g_eq0 zx23.1); have q45 := (g_eq0 zx25.1); have q46 := (gc_nle zc31); have q47 := (g_eq0 zx43.1); have q48 := (g_eq0 zx45.1); omega) (Nat.le_of_lt_succ hm101))
                refine g_lsub [2, 1, 0] [(0, .ref (ad 47)), (3, .int x23), (4, .int x25)] rfl ?_
                exact J101 8589934592 F20 R21 x23 x25 oF20 fF20 oR21 fR21 zx23.2 zx25.2 hk26 (show (2147483647 - x23.toInt).toNat < 8589934592 from by have q0 := zx23.2.1; have q1 := zx23.2.2; omega)
              refine g_icmp_le cx 83 e_X6_next_59 (by decide) (fun zc47 => ?_) (fun zc47 => ?_)
              · have hk48 := hk15.trans (if_pos zc47)
                exact J83  hk48
              · have p49 := gn_lt 1 3 (gc_nle zc47) zx14.2 py13 (by decide)
                have p50 : jv 0 2 y5 := ⟨by have q0 := (jv_k (x := 0) 0 (by decide)).1; have q1 := (jv_k (x := 0) 0 (by decide)).2; have q2 := (jv_k (x := 1) 1 (by decide)).1; have q3 := (jv_k (x := 1) 1 (by decide)).2; have q4 := p49.1; have q5 := p49.2; have q6 := py13.1; have q7 := py13.2; have q8 := p7.1; have q9 := p7.2; have q10 := (gc_le zc6); have q11 := (g_eq0 zx14.1); have q12 := (gc_nle zc47); omega, by have q0 := (jv_k (x := 0) 0 (by decide)).1; have q1 := (jv_k (x := 0) 0 (by decide)).2; have q2 := (jv_k (x := 1) 1 (by decide)).1; have q3 := (jv_k (x := 1) 1 (by decide)).2; have q4 := p49.1; have q5 := p49.2; have q6 := py13.1; have q7 := py13.2; have q8 := p7.1; have q9 := p7.2; have q10 := (gc_le zc6); have q11 := (g_eq0 zx14.1); have q12 := (gc_nle zc47); omega⟩
                have p51 := gn_gt 2 4 (gc_nle zc47) py13 zx14.2 (by decide)
                have hk52 := hk15.trans (if_neg zc47)
                refine g_aload_n cx 0 rfl e_X6_next_62 ?_
                refine g_get cx cl_X6 fl_X6_15 47 (.ref (ad 49)) e_X6_next_63 rfl rfl ?_
                refine g_iload_n cx 2 rfl e_X6_next_66 ?_
                refine g_iald cx 49 e_X6_next_67 rfl (jv_ix 5 p51 (by decide)) ?_
                refine g_topi (fun x53 ex53 => ?_)
                have hk54 := k_ls hk52 ex53
                refine g_aload_n cx 0 rfl e_X6_next_68 ?_
                refine g_get cx cl_X6 fl_X6_15 47 (.ref (ad 49)) e_X6_next_69 rfl rfl ?_
                refine g_iload_n cx 1 rfl e_X6_next_72 ?_
                refine g_iald cx 49 e_X6_next_73 rfl (jv_ix 5 p50 (by decide)) ?_
                refine g_topi (fun x55 ex55 => ?_)
                have hk56 := k_ls hk54 ex55
                refine g_icmp_ge cx 83 e_X6_next_74 (by decide) (fun zc57 => ?_) (fun zc57 => ?_)
                · have hk58 := hk56.trans (if_pos zc57)
                  exact J83  hk58
                · have p59 := gn_lt (-2147483648) 2147483646 (gc_nle zc57) (jv_t x53) (jv_t x55) (by decide)
                  have p60 := gn_gt (-2147483647) 2147483647 (gc_nle zc57) (jv_t x55) (jv_t x53) (by decide)
                  have hk61 := hk56.trans (if_neg zc57)
                  obtain ⟨x62, ex62⟩ : ∃ z : Int32, z = y13 + Int32.ofInt (-1) := ⟨_, rfl⟩
                  have hk63 := k_ls hk61 (show x62 = y13 + (-1) from ex62)
                  refine g_iinc cx x62 [(2, .int x62), (0, .ref (ad 47)), (1, .int y5)] 2 e_X6_next_77 rfl ex62.symm (by decide) rfl ?_
                  have zx62 := jv_add 1 3 (show x62 = y13 + (-1) from ex62) p51 (jv_k (x := (-1)) (-1) (by decide)) (by decide)
                  refine g_goto cx 55 e_X6_next_80 (by decide) ?_
                  refine g_lsub [1, 2, 0] [(0, .ref (ad 47)), (1, .int y5), (2, .int x62)] rfl ?_
                  exact ih55 x62 (jv_w zx62.2 (by decide)) (hk63.trans (by rw [hb55])) (Nat.lt_of_lt_of_le (show (x62.toInt + 2147483648).toNat < (y13.toInt + 2147483648).toNat from by have q0 := (jv_k (x := (-1)) (-1) (by decide)).1; have q1 := (jv_k (x := (-1)) (-1) (by decide)).2; have q2 := (jv_k (x := 0) 0 (by decide)).1; have q3 := (jv_k (x := 0) 0 (by decide)).2; have q4 := (jv_k (x := 1) 1 (by decide)).1; have q5 := (jv_k (x := 1) 1 (by decide)).2; have q6 := (jv_k (x := 2) 2 (by decide)).1; have q7 := (jv_k (x := 2) 2 (by decide)).2; have q8 := (jv_k (x := 5) 5 (by decide)).1; have q9 := (jv_k (x := 5) 5 (by decide)).2; have q10 := (g_ok_g hI 9 rfl).1; have q11 := (g_ok_g hI 9 rfl).2; have q12 := px1.1; have q13 := px1.2; have q14 := zx11.2.1; have q15 := zx11.2.2; have q16 := p49.1; have q17 := p49.2; have q18 := zx3.2.1; have q19 := zx3.2.2; have q20 := zx62.2.1; have q21 := zx62.2.2; have q22 := px9.1; have q23 := px9.2; have q24 := p51.1; have q25 := p51.2; have q26 := p50.1; have q27 := p50.2; have q28 := (g_min1 ex1); have q29 := (g_min2 ex1); have q30 := (g_eq0 zx3.1); have q31 := (gc_le zc6); have q32 := (g_min1 ex9); have q33 := (g_min2 ex9); have q34 := (g_eq0 zx11.1); have q35 := (g_eq0 zx14.1); have q36 := (gc_nle zc47); have q37 := (g_eq0 zx62.1); omega) (Nat.le_of_lt_succ hm55))
          refine g_lsub [1, 2, 0] [(0, .ref (ad 47)), (1, .int y5), (2, .int x11)] rfl ?_
          exact J55 8589934592 x11 zx11.2 hk12 (show (x11.toInt + 2147483648).toNat < 8589934592 from by have q0 := zx11.2.1; have q1 := zx11.2.2; omega)
        · have p64 := gn_lt (-2) (-1) (gc_nle zc6) py5 (jv_k (x := 0) 0 (by decide)) (by decide)
          have hk65 := hkJ38.trans (if_neg zc6)
          refine g_iconst cx 0 (by decide) e_X6_next_42 ?_
          exact hret e_X6_next_43 (Nat.le_of_ble_eq_true rfl) (Nat.le_of_ble_eq_true rfl) rfl ⟨F, R, rfl, hI, hA, (g_fr_rf F), (g_fr_rf R), (jv_w (jv_k (x := 0) 0 (by decide)) (by decide)), (hk65.symm.trans hSP)⟩
      refine g_if_lt cx 38 e_X6_next_12 (by decide) (fun zc66 => ?_) (fun zc66 => ?_)
      · have p67 := gn_lt (-2) (-1) (gc_lt zc66) py5 (jv_k (x := 0) 0 (by decide)) (by decide)
        have hk68 := hkK11.trans (if_pos zc66)
        exact J38  hk68
      · have p69 := gn_ge 0 3 (gc_nlt zc66) py5 (jv_k (x := 0) 0 (by decide)) (by decide)
        have hk70 := hkK11.trans (if_neg zc66)
        refine g_aload_n cx 0 rfl e_X6_next_15 ?_
        refine g_get cx cl_X6 fl_X6_15 47 (.ref (ad 49)) e_X6_next_16 rfl rfl ?_
        refine g_iload_n cx 1 rfl e_X6_next_19 ?_
        refine g_iald cx 49 e_X6_next_20 rfl (jv_ix 5 p69 (by decide)) ?_
        refine g_topi (fun x71 ex71 => ?_)
        have hk72 := k_ls hk70 ex71
        refine g_aload_n cx 0 rfl e_X6_next_21 ?_
        refine g_get cx cl_X6 fl_X6_15 47 (.ref (ad 49)) e_X6_next_22 rfl rfl ?_
        refine g_iload_n cx 1 rfl e_X6_next_25 ?_
        refine g_iconst cx 1 (by decide) e_X6_next_26 ?_
        refine g_iadd cx e_X6_next_27 ?_
        refine g_topi (fun x73 ex73 => ?_)
        have hk74 := k_ls hk72 ex73
        have zx73 := jv_add 1 4 ex73 p69 (jv_k (x := 1) 1 (by decide)) (by decide)
        refine g_iald cx 49 e_X6_next_28 rfl (jv_ix 5 zx73.2 (by decide)) ?_
        refine g_topi (fun x75 ex75 => ?_)
        have hk76 := k_ls hk74 ex75
        refine g_icmp_le cx 38 e_X6_next_29 (by decide) (fun zc77 => ?_) (fun zc77 => ?_)
        · have hk78 := hk76.trans (if_pos zc77)
          exact J38  hk78
        · have p79 := gn_lt (-2147483648) 2147483646 (gc_nle zc77) (jv_t x75) (jv_t x71) (by decide)
          have p80 := gn_gt (-2147483647) 2147483647 (gc_nle zc77) (jv_t x71) (jv_t x75) (by decide)
          have hk81 := hk76.trans (if_neg zc77)
          obtain ⟨x82, ex82⟩ : ∃ z : Int32, z = y5 + Int32.ofInt (-1) := ⟨_, rfl⟩
          have hk83 := k_ls hk81 (show x82 = y5 + (-1) from ex82)
          refine g_iinc cx x82 [(1, .int x82), (0, .ref (ad 47))] 1 e_X6_next_32 rfl ex82.symm (by decide) rfl ?_
          have zx82 := jv_add (-1) 2 (show x82 = y5 + (-1) from ex82) p69 (jv_k (x := (-1)) (-1) (by decide)) (by decide)
          refine g_goto cx 11 e_X6_next_35 (by decide) ?_
          refine g_lsub [1, 0] [(0, .ref (ad 47)), (1, .int x82)] rfl ?_
          exact ih11 x82 (jv_w zx82.2 (by decide)) (hk83.trans (by rw [hb11])) (Nat.lt_of_lt_of_le (show (x82.toInt + 2147483648).toNat < (y5.toInt + 2147483648).toNat from by have q0 := (jv_k (x := (-1)) (-1) (by decide)).1; have q1 := (jv_k (x := (-1)) (-1) (by decide)).2; have q2 := (jv_k (x := 0) 0 (by decide)).1; have q3 := (jv_k (x := 0) 0 (by decide)).2; have q4 := (jv_k (x := 1) 1 (by decide)).1; have q5 := (jv_k (x := 1) 1 (by decide)).2; have q6 := zx73.2.1; have q7 := zx73.2.2; have q8 := zx82.2.1; have q9 := zx82.2.2; have q10 := p69.1; have q11 := p69.2; have q12 := (gc_nlt zc66); have q13 := (g_eq0 zx73.1); have q14 := (g_eq0 zx82.1); omega) (Nat.le_of_lt_succ hm11))
  refine g_lsub [1, 0] [(0, .ref (ad 47)), (1, .int x3)] rfl ?_
  exact J11 8589934592 x3 zx3.2 hk4 (show (x3.toInt + 2147483648).toNat < 8589934592 from by have q0 := zx3.2.1; have q1 := zx3.2.2; omega)
def sp_X6_markBest (F : Nat → Int32) (R : Nat → Nat → Int32) : (Nat → Int32) × (Nat → Nat → Int32) :=
  k_lt (g_u R 50 (va_cpy (R 49) (R 50) 0 0 5)) (fun R1 => (F, R1))
theorem e_X6_markBest_0 : g_dc cX6_markBest 0 (.aload_n 0) 1 1 := ⟨by decide +kernel, rfl⟩
theorem e_X6_markBest_1 : g_dc cX6_markBest 1 (.getfield 15) 3 4 := ⟨by decide +kernel, rfl⟩
theorem e_X6_markBest_4 : g_dc cX6_markBest 4 (.iconst 0) 1 5 := ⟨by decide +kernel, rfl⟩
theorem e_X6_markBest_5 : g_dc cX6_markBest 5 (.aload_n 0) 1 6 := ⟨by decide +kernel, rfl⟩
theorem e_X6_markBest_6 : g_dc cX6_markBest 6 (.getfield 18) 3 9 := ⟨by decide +kernel, rfl⟩
theorem e_X6_markBest_9 : g_dc cX6_markBest 9 (.iconst 0) 1 10 := ⟨by decide +kernel, rfl⟩
theorem e_X6_markBest_10 : g_dc cX6_markBest 10 (.iconst 5) 1 11 := ⟨by decide +kernel, rfl⟩
theorem e_X6_markBest_11 : g_dc cX6_markBest 11 (.invokestatic 45) 3 14 := ⟨by decide +kernel, rfl⟩
theorem e_X6_markBest_14 : g_dc cX6_markBest 14 (.return_) 1 15 := ⟨by decide +kernel, rfl⟩
def md_X6_markBest : List Nat := []
def mr_X6_markBest : List Nat := [50]
set_option maxHeartbeats 4000000 in
set_option maxRecDepth 100000 in
theorem w_X6_markBest (l : Launch) (X : gX) (ad : Nat → Nat) (F : Nat → Int32) (R : Nat → Nat → Int32) (hI : g_ok LK_wX F) (hA : g_okR LA_wX R) : g_Cv l X yX6_markBest cX6_markBest 1 1 0 0 [.ref (ad 47)] (wX X ad F R) (fun w => ∃ (F' : Nat → Int32) (R' : Nat → Nat → Int32), w = wX X ad F' R' ∧ g_ok LK_wX F' ∧ g_okR LA_wX R' ∧ g_fr md_X6_markBest F F' ∧ g_fr mr_X6_markBest R R' ∧ (F', R') = sp_X6_markBest F R) := by
  refine g_mv (by decide +kernel) (Nat.le_of_ble_eq_true rfl) (fun E cx hret => ?_)
  obtain ⟨SP, hSP⟩ : ∃ z, z = sp_X6_markBest F R := ⟨_, rfl⟩
  have hk0 := hSP
  unfold sp_X6_markBest at hk0
  refine g_aload_n cx 0 rfl e_X6_markBest_0 ?_
  refine g_get cx cl_X6 fl_X6_15 47 (.ref (ad 49)) e_X6_markBest_1 rfl rfl ?_
  refine g_iconst cx 0 (by decide) e_X6_markBest_4 ?_
  refine g_aload_n cx 0 rfl e_X6_markBest_5 ?_
  refine g_get cx cl_X6 fl_X6_18 47 (.ref (ad 50)) e_X6_markBest_6 rfl rfl ?_
  refine g_iconst cx 0 (by decide) e_X6_markBest_9 ?_
  refine g_iconst cx 5 (by decide) e_X6_markBest_10 ?_
  refine g_copy cx 49 50 (wX X ad F (g_u R 50 (va_cpy (R 49) (R 50) 0 0 5))) ml_X6_45 e_X6_markBest_11 rfl rfl (by decide) (by decide) (by decide) (by decide) rfl ?_
  obtain ⟨R1, hR1⟩ : ∃ z, z = g_u R 50 (va_cpy (R 49) (R 50) 0 0 5) := ⟨_, rfl⟩
  rw [← hR1]
  have hk2 := k_ls hk0 hR1
  have oR1 : g_okR LA_wX R1 := by rw [hR1]; exact g_okR_u hA rfl
  have fR1 : g_fr mr_X6_markBest R R1 := by rw [hR1]; exact g_fr_r (g_fr_rf R) rfl
  exact hret e_X6_markBest_14 (Nat.le_of_ble_eq_true rfl) (Nat.le_of_ble_eq_true rfl) ⟨F, R1, rfl, hI, oR1, (g_fr_rf F), fR1, (hk2.symm.trans hSP)⟩
def K_X7_bestRow_r47_r1_68 (F5 : Nat → Int32) (R6 : Nat → Nat → Int32)  : (Nat → Int32) × (Nat → Nat → Int32) :=
  k_lt2 (sp_X8_copy_5_r1 F5 R6) (fun F11 R12 => (F11, R12))
def K_X7_bestRow_r47_r1_57 (b19 : (Nat → Int32) → (Nat → Nat → Int32) → (Int32) → (Int32) → (Nat → Int32) × (Nat → Nat → Int32)) (y4 : Int32) (F45 : Nat → Int32) (R46 : Nat → Nat → Int32) : (Nat → Int32) × (Nat → Nat → Int32) :=
  k_lt3 (sp_X6_next F45 R46) (fun r47 F51 R52 => k_lt (y4 + 1) (fun x54 => b19 F51 R52 r47 x54))
def KB_X7_bestRow_r47_r1_19 (b19 : (Nat → Int32) → (Nat → Nat → Int32) → (Int32) → (Int32) → (Nat → Int32) × (Nat → Nat → Int32))  (F5 : Nat → Int32) (R6 : Nat → Nat → Int32) (y3 : Int32) (y4 : Int32) : (Nat → Int32) × (Nat → Nat → Int32) :=
  if 120 ≤ y4 then K_X7_bestRow_r47_r1_68 F5 R6 else if y3 = 0 then K_X7_bestRow_r47_r1_68 F5 R6 else k_lt2 (sp_X6_change_r5_r1 F5 R6) (fun F28 R29 => k_lt2 (sp_X0_run F28 R29) (fun F35 R36 => k_lt3 (sp_X7_improves F35 R36) (fun r38 F42 R43 => if r38 = 0 then K_X7_bestRow_r47_r1_57 b19 y4 F42 R43 else k_lt2 (sp_X6_markBest F42 R43) (fun F65 R66 => K_X7_bestRow_r47_r1_57 b19 y4 F65 R66))))
def K_X7_bestRow_r47_r1_19  : Nat → (Nat → Int32) → (Nat → Nat → Int32) → (Int32) → (Int32) → (Nat → Int32) × (Nat → Nat → Int32)
  | 0 => fun F5 R6 _ _ => (F5, R6)
  | n + 1 => KB_X7_bestRow_r47_r1_19 (K_X7_bestRow_r47_r1_19 n)
def sp_X7_bestRow_r47_r1 (F : Nat → Int32) (R : Nat → Nat → Int32) : (Nat → Int32) × (Nat → Nat → Int32) :=
  k_lt (upd F 564 (-1)) (fun F1 => K_X7_bestRow_r47_r1_19 8589934592 F1 R 1 0)
theorem e_X7_bestRow_0 : g_dc cX7_bestRow 0 (.aload_n 1) 1 1 := ⟨by decide +kernel, rfl⟩
theorem e_X7_bestRow_1 : g_dc cX7_bestRow 1 (.ifnull 7) 3 4 := ⟨by decide +kernel, rfl⟩
theorem e_X7_bestRow_4 : g_dc cX7_bestRow 4 (.aload_n 2) 1 5 := ⟨by decide +kernel, rfl⟩
theorem e_X7_bestRow_5 : g_dc cX7_bestRow 5 (.ifnonnull 4) 3 8 := ⟨by decide +kernel, rfl⟩
theorem e_X7_bestRow_9 : g_dc cX7_bestRow 9 (.aload_n 0) 1 10 := ⟨by decide +kernel, rfl⟩
theorem e_X7_bestRow_10 : g_dc cX7_bestRow 10 (.iconst (-1)) 1 11 := ⟨by decide +kernel, rfl⟩
theorem e_X7_bestRow_11 : g_dc cX7_bestRow 11 (.putfield 9) 3 14 := ⟨by decide +kernel, rfl⟩
theorem e_X7_bestRow_14 : g_dc cX7_bestRow 14 (.iconst 1) 1 15 := ⟨by decide +kernel, rfl⟩
theorem e_X7_bestRow_15 : g_dc cX7_bestRow 15 (.istore_n 3) 1 16 := ⟨by decide +kernel, rfl⟩
theorem e_X7_bestRow_16 : g_dc cX7_bestRow 16 (.iconst 0) 1 17 := ⟨by decide +kernel, rfl⟩
theorem e_X7_bestRow_17 : g_dc cX7_bestRow 17 (.istore 4) 2 19 := ⟨by decide +kernel, rfl⟩
theorem e_X7_bestRow_19 : g_dc cX7_bestRow 19 (.iload 4) 2 21 := ⟨by decide +kernel, rfl⟩
theorem e_X7_bestRow_21 : g_dc cX7_bestRow 21 (.bipush 120) 2 23 := ⟨by decide +kernel, rfl⟩
theorem e_X7_bestRow_23 : g_dc cX7_bestRow 23 (.if_icmp .ge 45) 3 26 := ⟨by decide +kernel, rfl⟩
theorem e_X7_bestRow_26 : g_dc cX7_bestRow 26 (.iload_n 3) 1 27 := ⟨by decide +kernel, rfl⟩
theorem e_X7_bestRow_27 : g_dc cX7_bestRow 27 (.ifCond .eq 41) 3 30 := ⟨by decide +kernel, rfl⟩
theorem e_X7_bestRow_30 : g_dc cX7_bestRow 30 (.aload_n 1) 1 31 := ⟨by decide +kernel, rfl⟩
theorem e_X7_bestRow_31 : g_dc cX7_bestRow 31 (.aload_n 0) 1 32 := ⟨by decide +kernel, rfl⟩
theorem e_X7_bestRow_32 : g_dc cX7_bestRow 32 (.getfield 53) 3 35 := ⟨by decide +kernel, rfl⟩
theorem e_X7_bestRow_35 : g_dc cX7_bestRow 35 (.aload_n 2) 1 36 := ⟨by decide +kernel, rfl⟩
theorem e_X7_bestRow_36 : g_dc cX7_bestRow 36 (.invokevirtual 123) 3 39 := ⟨by decide +kernel, rfl⟩
theorem e_X7_bestRow_39 : g_dc cX7_bestRow 39 (.aload_n 0) 1 40 := ⟨by decide +kernel, rfl⟩
theorem e_X7_bestRow_40 : g_dc cX7_bestRow 40 (.getfield 46) 3 43 := ⟨by decide +kernel, rfl⟩
theorem e_X7_bestRow_43 : g_dc cX7_bestRow 43 (.invokevirtual 89) 3 46 := ⟨by decide +kernel, rfl⟩
theorem e_X7_bestRow_46 : g_dc cX7_bestRow 46 (.aload_n 0) 1 47 := ⟨by decide +kernel, rfl⟩
theorem e_X7_bestRow_47 : g_dc cX7_bestRow 47 (.invokevirtual 120) 3 50 := ⟨by decide +kernel, rfl⟩
theorem e_X7_bestRow_50 : g_dc cX7_bestRow 50 (.ifCond .eq 7) 3 53 := ⟨by decide +kernel, rfl⟩
theorem e_X7_bestRow_53 : g_dc cX7_bestRow 53 (.aload_n 1) 1 54 := ⟨by decide +kernel, rfl⟩
theorem e_X7_bestRow_54 : g_dc cX7_bestRow 54 (.invokevirtual 129) 3 57 := ⟨by decide +kernel, rfl⟩
theorem e_X7_bestRow_57 : g_dc cX7_bestRow 57 (.aload_n 1) 1 58 := ⟨by decide +kernel, rfl⟩
theorem e_X7_bestRow_58 : g_dc cX7_bestRow 58 (.invokevirtual 132) 3 61 := ⟨by decide +kernel, rfl⟩
theorem e_X7_bestRow_61 : g_dc cX7_bestRow 61 (.istore_n 3) 1 62 := ⟨by decide +kernel, rfl⟩
theorem e_X7_bestRow_62 : g_dc cX7_bestRow 62 (.iinc 4 1) 3 65 := ⟨by decide +kernel, rfl⟩
theorem e_X7_bestRow_65 : g_dc cX7_bestRow 65 (.goto (-46)) 3 68 := ⟨by decide +kernel, rfl⟩
theorem e_X7_bestRow_68 : g_dc cX7_bestRow 68 (.aload_n 0) 1 69 := ⟨by decide +kernel, rfl⟩
theorem e_X7_bestRow_69 : g_dc cX7_bestRow 69 (.getfield 53) 3 72 := ⟨by decide +kernel, rfl⟩
theorem e_X7_bestRow_72 : g_dc cX7_bestRow 72 (.aload_n 2) 1 73 := ⟨by decide +kernel, rfl⟩
theorem e_X7_bestRow_73 : g_dc cX7_bestRow 73 (.invokevirtual 64) 3 76 := ⟨by decide +kernel, rfl⟩
theorem e_X7_bestRow_76 : g_dc cX7_bestRow 76 (.return_) 1 77 := ⟨by decide +kernel, rfl⟩
def md_X7_bestRow_r47_r1 : List Nat := [80, 81, 82, 83, 84, 564, 565, 601, 602, 603, 604, 605, 606, 673, 675, 691, 692, 693, 694, 695, 696, 697, 698]
def mr_X7_bestRow_r47_r1 : List Nat := [6, 23, 24, 38, 39, 40, 41, 44, 45, 46, 49, 50]
set_option maxHeartbeats 4000000 in
set_option maxRecDepth 100000 in
theorem w_X7_bestRow_r47_r1 (l : Launch) (X : gX) (ad : Nat → Nat) (F : Nat → Int32) (R : Nat → Nat → Int32) (hI : g_ok LK_wX F) (hA : g_okR LA_wX R) : g_Cv l X yX7_bestRow cX7_bestRow 5 7 0 0 [.ref (ad 35), .ref (ad 47), .ref (ad 1)] (wX X ad F R) (fun w => ∃ (F' : Nat → Int32) (R' : Nat → Nat → Int32), w = wX X ad F' R' ∧ g_ok LK_wX F' ∧ g_okR LA_wX R' ∧ g_fr md_X7_bestRow_r47_r1 F F' ∧ g_fr mr_X7_bestRow_r47_r1 R R' ∧ (F', R') = sp_X7_bestRow_r47_r1 F R) := by
  refine g_mv (by decide +kernel) (Nat.le_of_ble_eq_true rfl) (fun E cx hret => ?_)
  obtain ⟨SP, hSP⟩ : ∃ z, z = sp_X7_bestRow_r47_r1 F R := ⟨_, rfl⟩
  have hk0 := hSP
  unfold sp_X7_bestRow_r47_r1 at hk0
  refine g_aload_n cx 1 rfl e_X7_bestRow_0 ?_
  refine g_ifnull cx e_X7_bestRow_1 ?_
  refine g_aload_n cx 2 rfl e_X7_bestRow_4 ?_
  refine g_ifnonnull cx 9 e_X7_bestRow_5 (by decide) ?_
  refine g_aload_n cx 0 rfl e_X7_bestRow_9 ?_
  refine g_iconst cx (-1) (by decide) e_X7_bestRow_10 ?_
  refine g_put cx cl_X7 fl_X7_9 35 (wX X ad (upd F 564 (-1)) R) e_X7_bestRow_11 rfl rfl rfl rfl (Nat.le_of_ble_eq_true rfl) rfl ?_
  obtain ⟨F1, hF1⟩ : ∃ z, z = upd F 564 (-1) := ⟨_, rfl⟩
  rw [← hF1]
  have hk2 := k_ls hk0 hF1
  have oF1 : g_ok LK_wX F1 := by rw [hF1]; exact g_ok_u hI rfl
  have fF1 : g_fr md_X7_bestRow_r47_r1 F F1 := by rw [hF1]; exact g_fr_u (g_fr_rf F) rfl
  refine g_iconst cx 1 (by decide) e_X7_bestRow_14 ?_
  refine g_istore_n cx [(3, .int 1), (0, .ref (ad 35)), (1, .ref (ad 47)), (2, .ref (ad 1))] e_X7_bestRow_15 (by decide) rfl ?_
  refine g_iconst cx 0 (by decide) e_X7_bestRow_16 ?_
  refine g_istore cx [(4, .int 0), (3, .int 1), (0, .ref (ad 35)), (1, .ref (ad 47)), (2, .ref (ad 1))] e_X7_bestRow_17 (by decide) rfl ?_
  have J19 : ∀ (N : Nat) (F5 : Nat → Int32) (R6 : Nat → Nat → Int32) (y3 : Int32) (y4 : Int32), (g_ok LK_wX F5) → (g_fr md_X7_bestRow_r47_r1 F F5) → (g_okR LA_wX R6) → (g_fr mr_X7_bestRow_r47_r1 R R6) → (jv 0 1 y3) → (jv 0 120 y4) → (SP = K_X7_bestRow_r47_r1_19 N F5 R6 y3 y4) → (2147483647 - y4.toInt).toNat < N → G X E 5 0 0 (wX X ad F5 R6) [(0, .ref (ad 35)), (1, .ref (ad 47)), (2, .ref (ad 1)), (3, .int y3), (4, .int y4)] 19 [] := by
    intro N
    induction N with
    | zero => intro F5 R6 y3 y4 oF5 fF5 oR6 fR6 py3 py4 hkJ19 hm; exact absurd hm (Nat.not_lt_zero _)
    | succ N ih19 =>
      intro F5 R6 y3 y4 oF5 fF5 oR6 fR6 py3 py4 hkJ19 hm19
      have hkK19 : SP = KB_X7_bestRow_r47_r1_19 (K_X7_bestRow_r47_r1_19 N) F5 R6 y3 y4 := hkJ19
      obtain ⟨b19, hb19⟩ : ∃ z, z = K_X7_bestRow_r47_r1_19 N := ⟨_, rfl⟩
      rw [← hb19] at hkK19
      unfold KB_X7_bestRow_r47_r1_19 at hkK19
      refine g_iload cx 4 rfl e_X7_bestRow_19 ?_
      refine g_bipush cx 120 (by decide) e_X7_bestRow_21 ?_
      have J68 : (SP = K_X7_bestRow_r47_r1_68 F5 R6) → G X E 5 0 0 (wX X ad F5 R6) [(0, .ref (ad 35)), (2, .ref (ad 1))] 68 [] := by
        intro   hkJ68
        unfold K_X7_bestRow_r47_r1_68 at hkJ68
        refine g_aload_n cx 0 rfl e_X7_bestRow_68 ?_
        refine g_get cx cl_X7 fl_X7_53 35 (.ref (ad 5)) e_X7_bestRow_69 rfl rfl ?_
        refine g_aload_n cx 1 rfl e_X7_bestRow_72 ?_
        refine g_cVvW cx [.ref (ad 1)] [] (w_X8_copy_5_r1 l X ad F5 R6 oF5 oR6) ml_X7_64 yV_X8_copy e_X7_bestRow_73 (by unfold g_rr; decide) (by decide) 5 rfl rfl rfl (Nat.le_of_ble_eq_true rfl) (fun w8 h9 => ?_)
        obtain ⟨F11, R12, rfl, oF11, oR12, cF11, cR12, hx10⟩ := h9
        have hk13 := k_ls2 hkJ68 hx10
        have fF11 : g_fr md_X7_bestRow_r47_r1 F F11 := g_fr_c fF5 cF11 rfl
        have fR12 : g_fr mr_X7_bestRow_r47_r1 R R12 := g_fr_c fR6 cR12 rfl
        exact hret e_X7_bestRow_76 (Nat.le_of_ble_eq_true rfl) (Nat.le_of_ble_eq_true rfl) ⟨F11, R12, rfl, oF11, oR12, fF11, fR12, (hk13.symm.trans hSP)⟩
      refine g_icmp_ge cx 68 e_X7_bestRow_23 (by decide) (fun zc14 => ?_) (fun zc14 => ?_)
      · have p15 := gn_ge 120 120 (gc_le zc14) py4 (jv_k (x := 120) 120 (by decide)) (by decide)
        have hk16 := hkK19.trans (if_pos zc14)
        refine g_lsub [0, 2] [(0, .ref (ad 35)), (2, .ref (ad 1))] rfl ?_
        exact J68  hk16
      · have p17 := gn_lt 0 119 (gc_nle zc14) py4 (jv_k (x := 120) 120 (by decide)) (by decide)
        have hk18 := hkK19.trans (if_neg zc14)
        refine g_iload_n cx 3 rfl e_X7_bestRow_26 ?_
        refine g_if_eq cx 68 e_X7_bestRow_27 (by decide) (fun zc19 => ?_) (fun zc19 => ?_)
        · have p20 := gn_eq 0 0 (gc_eq zc19) py3 (jv_k (x := 0) 0 (by decide)) (by decide)
          have hk21 := hk18.trans (if_pos zc19)
          refine g_lsub [0, 2] [(0, .ref (ad 35)), (2, .ref (ad 1))] rfl ?_
          exact J68  hk21
        · have p22 := gn_neL 1 1 (gc_ne zc19) py3 (jv_k (x := 0) 0 (by decide)) (by decide)
          have hk23 := hk18.trans (if_neg zc19)
          refine g_aload_n cx 1 rfl e_X7_bestRow_30 ?_
          refine g_aload_n cx 0 rfl e_X7_bestRow_31 ?_
          refine g_get cx cl_X7 fl_X7_53 35 (.ref (ad 5)) e_X7_bestRow_32 rfl rfl ?_
          refine g_aload_n cx 2 rfl e_X7_bestRow_35 ?_
          refine g_cVvW cx [.ref (ad 5), .ref (ad 1)] [] (w_X6_change_r5_r1 l X ad F5 R6 oF5 oR6) ml_X7_123 yV_X6_change e_X7_bestRow_36 (by unfold g_rr; decide) (by decide) 47 rfl rfl rfl (Nat.le_of_ble_eq_true rfl) (fun w25 h26 => ?_)
          obtain ⟨F28, R29, rfl, oF28, oR29, cF28, cR29, hx27⟩ := h26
          have hk30 := k_ls2 hk23 hx27
          have fF28 : g_fr md_X7_bestRow_r47_r1 F F28 := g_fr_c fF5 cF28 rfl
          have fR29 : g_fr mr_X7_bestRow_r47_r1 R R29 := g_fr_c fR6 cR29 rfl
          refine g_aload_n cx 0 rfl e_X7_bestRow_39 ?_
          refine g_get cx cl_X7 fl_X7_46 35 (.ref (ad 37)) e_X7_bestRow_40 rfl rfl ?_
          refine g_cVvW cx [] [] (w_X0_run l X ad F28 R29 oF28 oR29) ml_X7_89 yV_X0_run e_X7_bestRow_43 (by unfold g_rr; decide) (by decide) 37 rfl rfl rfl (Nat.le_of_ble_eq_true rfl) (fun w32 h33 => ?_)
          obtain ⟨F35, R36, rfl, oF35, oR36, cF35, cR36, hx34⟩ := h33
          have hk37 := k_ls2 hk30 hx34
          have fF35 : g_fr md_X7_bestRow_r47_r1 F F35 := g_fr_c fF28 cF35 rfl
          have fR36 : g_fr mr_X7_bestRow_r47_r1 R R36 := g_fr_c fR29 cR36 rfl
          refine g_aload_n cx 0 rfl e_X7_bestRow_46 ?_
          refine g_cViW cx [] [] (w_X7_improves l X ad F35 R36 oF35 oR36) ml_X7_120 yV_X7_improves e_X7_bestRow_47 (by unfold g_rr; decide) (by decide) 35 rfl rfl rfl (Nat.le_of_ble_eq_true rfl) (fun r38 w39 h40 => ?_)
          obtain ⟨F42, R43, rfl, oF42, oR43, cF42, cR43, pr38, hx41⟩ := h40
          have hk44 := k_ls3 hk37 hx41
          have fF42 : g_fr md_X7_bestRow_r47_r1 F F42 := g_fr_c fF35 cF42 rfl
          have fR43 : g_fr mr_X7_bestRow_r47_r1 R R43 := g_fr_c fR36 cR43 rfl
          have J57 : ∀ (F45 : Nat → Int32) (R46 : Nat → Nat → Int32), (g_ok LK_wX F45) → (g_fr md_X7_bestRow_r47_r1 F F45) → (g_okR LA_wX R46) → (g_fr mr_X7_bestRow_r47_r1 R R46) → (SP = K_X7_bestRow_r47_r1_57 b19 y4 F45 R46) → G X E 5 0 0 (wX X ad F45 R46) [(0, .ref (ad 35)), (1, .ref (ad 47)), (2, .ref (ad 1)), (4, .int y4)] 57 [] := by
            intro F45 R46 oF45 fF45 oR46 fR46 hkJ57
            unfold K_X7_bestRow_r47_r1_57 at hkJ57
            refine g_aload_n cx 1 rfl e_X7_bestRow_57 ?_
            refine g_cViW cx [] [] (w_X6_next l X ad F45 R46 oF45 oR46) ml_X7_132 yV_X6_next e_X7_bestRow_58 (by unfold g_rr; decide) (by decide) 47 rfl rfl rfl (Nat.le_of_ble_eq_true rfl) (fun r47 w48 h49 => ?_)
            obtain ⟨F51, R52, rfl, oF51, oR52, cF51, cR52, pr47, hx50⟩ := h49
            have hk53 := k_ls3 hkJ57 hx50
            have fF51 : g_fr md_X7_bestRow_r47_r1 F F51 := g_fr_c fF45 cF51 rfl
            have fR52 : g_fr mr_X7_bestRow_r47_r1 R R52 := g_fr_c fR46 cR52 rfl
            refine g_istore_n cx [(3, .int r47), (0, .ref (ad 35)), (1, .ref (ad 47)), (2, .ref (ad 1)), (4, .int y4)] e_X7_bestRow_61 (by decide) rfl ?_
            obtain ⟨x54, ex54⟩ : ∃ z : Int32, z = y4 + Int32.ofInt 1 := ⟨_, rfl⟩
            have hk55 := k_ls hk53 (show x54 = y4 + 1 from ex54)
            refine g_iinc cx x54 [(4, .int x54), (3, .int r47), (0, .ref (ad 35)), (1, .ref (ad 47)), (2, .ref (ad 1))] 4 e_X7_bestRow_62 rfl ex54.symm (by decide) rfl ?_
            have zx54 := jv_add 1 120 (show x54 = y4 + 1 from ex54) p17 (jv_k (x := 1) 1 (by decide)) (by decide)
            refine g_goto cx 19 e_X7_bestRow_65 (by decide) ?_
            refine g_lsub [2, 3, 4, 1, 0] [(0, .ref (ad 35)), (1, .ref (ad 47)), (2, .ref (ad 1)), (3, .int r47), (4, .int x54)] rfl ?_
            exact ih19 F51 R52 r47 x54 oF51 fF51 oR52 fR52 pr47 (jv_w zx54.2 (by decide)) (hk55.trans (by rw [hb19])) (Nat.lt_of_lt_of_le (show (2147483647 - x54.toInt).toNat < (2147483647 - y4.toInt).toNat from by have q0 := (jv_k (x := 1) 1 (by decide)).1; have q1 := (jv_k (x := 1) 1 (by decide)).2; have q2 := (jv_k (x := 120) 120 (by decide)).1; have q3 := (jv_k (x := 120) 120 (by decide)).2; have q4 := zx54.2.1; have q5 := zx54.2.2; have q6 := p17.1; have q7 := p17.2; have q8 := (gc_nle zc14); have q9 := (g_eq0 zx54.1); omega) (Nat.le_of_lt_succ hm19))
          refine g_if_eq cx 57 e_X7_bestRow_50 (by decide) (fun zc56 => ?_) (fun zc56 => ?_)
          · have p57 := gn_eq 0 0 (gc_eq zc56) pr38 (jv_k (x := 0) 0 (by decide)) (by decide)
            have hk58 := hk44.trans (if_pos zc56)
            refine g_lsub [0, 1, 2, 4] [(0, .ref (ad 35)), (1, .ref (ad 47)), (2, .ref (ad 1)), (4, .int y4)] rfl ?_
            exact J57 F42 R43 oF42 fF42 oR43 fR43 hk58
          · have p59 := gn_neL 1 1 (gc_ne zc56) pr38 (jv_k (x := 0) 0 (by decide)) (by decide)
            have hk60 := hk44.trans (if_neg zc56)
            refine g_aload_n cx 1 rfl e_X7_bestRow_53 ?_
            refine g_cVvW cx [] [] (w_X6_markBest l X ad F42 R43 oF42 oR43) ml_X7_129 yV_X6_markBest e_X7_bestRow_54 (by unfold g_rr; decide) (by decide) 47 rfl rfl rfl (Nat.le_of_ble_eq_true rfl) (fun w62 h63 => ?_)
            obtain ⟨F65, R66, rfl, oF65, oR66, cF65, cR66, hx64⟩ := h63
            have hk67 := k_ls2 hk60 hx64
            have fF65 : g_fr md_X7_bestRow_r47_r1 F F65 := g_fr_c fF42 cF65 rfl
            have fR66 : g_fr mr_X7_bestRow_r47_r1 R R66 := g_fr_c fR43 cR66 rfl
            refine g_lsub [0, 1, 2, 4] [(0, .ref (ad 35)), (1, .ref (ad 47)), (2, .ref (ad 1)), (4, .int y4)] rfl ?_
            exact J57 F65 R66 oF65 fF65 oR66 fR66 hk67
  refine g_lsub [2, 3, 4, 1, 0] [(0, .ref (ad 35)), (1, .ref (ad 47)), (2, .ref (ad 1)), (3, .int 1), (4, .int 0)] rfl ?_
  exact J19 8589934592 F1 R 1 0 oF1 fF1 hA (g_fr_rf R) (jv_w (jv_k (x := 1) 1 (by decide)) (by decide)) (jv_w (jv_k (x := 0) 0 (by decide)) (by decide)) hk2 (show (2147483647 - (0 : Int32).toInt).toNat < 8589934592 from by have q0 := (jv_k (x := 0) 0 (by decide)).1; have q1 := (jv_k (x := 0) 0 (by decide)).2; omega)
def sp_X6_chooseBest (F : Nat → Int32) (R : Nat → Nat → Int32) : (Nat → Int32) × (Nat → Nat → Int32) :=
  k_lt (g_u R 49 (va_cpy (R 50) (R 49) 0 0 5)) (fun R1 => (F, R1))
theorem e_X6_chooseBest_0 : g_dc cX6_chooseBest 0 (.aload_n 0) 1 1 := ⟨by decide +kernel, rfl⟩
theorem e_X6_chooseBest_1 : g_dc cX6_chooseBest 1 (.getfield 18) 3 4 := ⟨by decide +kernel, rfl⟩
theorem e_X6_chooseBest_4 : g_dc cX6_chooseBest 4 (.iconst 0) 1 5 := ⟨by decide +kernel, rfl⟩
theorem e_X6_chooseBest_5 : g_dc cX6_chooseBest 5 (.aload_n 0) 1 6 := ⟨by decide +kernel, rfl⟩
theorem e_X6_chooseBest_6 : g_dc cX6_chooseBest 6 (.getfield 15) 3 9 := ⟨by decide +kernel, rfl⟩
theorem e_X6_chooseBest_9 : g_dc cX6_chooseBest 9 (.iconst 0) 1 10 := ⟨by decide +kernel, rfl⟩
theorem e_X6_chooseBest_10 : g_dc cX6_chooseBest 10 (.iconst 5) 1 11 := ⟨by decide +kernel, rfl⟩
theorem e_X6_chooseBest_11 : g_dc cX6_chooseBest 11 (.invokestatic 45) 3 14 := ⟨by decide +kernel, rfl⟩
theorem e_X6_chooseBest_14 : g_dc cX6_chooseBest 14 (.return_) 1 15 := ⟨by decide +kernel, rfl⟩
def md_X6_chooseBest : List Nat := []
def mr_X6_chooseBest : List Nat := [49]
set_option maxHeartbeats 4000000 in
set_option maxRecDepth 100000 in
theorem w_X6_chooseBest (l : Launch) (X : gX) (ad : Nat → Nat) (F : Nat → Int32) (R : Nat → Nat → Int32) (hI : g_ok LK_wX F) (hA : g_okR LA_wX R) : g_Cv l X yX6_chooseBest cX6_chooseBest 1 1 0 0 [.ref (ad 47)] (wX X ad F R) (fun w => ∃ (F' : Nat → Int32) (R' : Nat → Nat → Int32), w = wX X ad F' R' ∧ g_ok LK_wX F' ∧ g_okR LA_wX R' ∧ g_fr md_X6_chooseBest F F' ∧ g_fr mr_X6_chooseBest R R' ∧ (F', R') = sp_X6_chooseBest F R) := by
  refine g_mv (by decide +kernel) (Nat.le_of_ble_eq_true rfl) (fun E cx hret => ?_)
  obtain ⟨SP, hSP⟩ : ∃ z, z = sp_X6_chooseBest F R := ⟨_, rfl⟩
  have hk0 := hSP
  unfold sp_X6_chooseBest at hk0
  refine g_aload_n cx 0 rfl e_X6_chooseBest_0 ?_
  refine g_get cx cl_X6 fl_X6_18 47 (.ref (ad 50)) e_X6_chooseBest_1 rfl rfl ?_
  refine g_iconst cx 0 (by decide) e_X6_chooseBest_4 ?_
  refine g_aload_n cx 0 rfl e_X6_chooseBest_5 ?_
  refine g_get cx cl_X6 fl_X6_15 47 (.ref (ad 49)) e_X6_chooseBest_6 rfl rfl ?_
  refine g_iconst cx 0 (by decide) e_X6_chooseBest_9 ?_
  refine g_iconst cx 5 (by decide) e_X6_chooseBest_10 ?_
  refine g_copy cx 50 49 (wX X ad F (g_u R 49 (va_cpy (R 50) (R 49) 0 0 5))) ml_X6_45 e_X6_chooseBest_11 rfl rfl (by decide) (by decide) (by decide) (by decide) rfl ?_
  obtain ⟨R1, hR1⟩ : ∃ z, z = g_u R 49 (va_cpy (R 50) (R 49) 0 0 5) := ⟨_, rfl⟩
  rw [← hR1]
  have hk2 := k_ls hk0 hR1
  have oR1 : g_okR LA_wX R1 := by rw [hR1]; exact g_okR_u hA rfl
  have fR1 : g_fr mr_X6_chooseBest R R1 := by rw [hR1]; exact g_fr_r (g_fr_rf R) rfl
  exact hret e_X6_chooseBest_14 (Nat.le_of_ble_eq_true rfl) (Nat.le_of_ble_eq_true rfl) ⟨F, R1, rfl, hI, oR1, (g_fr_rf F), fR1, (hk2.symm.trans hSP)⟩
def KB_X6_change_r1_r5_2 (b2 : (Nat → Int32) → (Nat → Nat → Int32) → (Int32) → (Nat → Int32) × (Nat → Nat → Int32)) (F : Nat → Int32) (F2 : Nat → Int32) (R3 : Nat → Nat → Int32) (y1 : Int32) : (Nat → Int32) × (Nat → Nat → Int32) :=
  if (F 755) ≤ y1 then (F2, R3) else k_lt (R3 48 (Int32.toNatClampNeg y1)) (fun x10 => k_lt (R3 49 (Int32.toNatClampNeg y1)) (fun x12 => k_lt (sp_X8_side_5 F2 R3 x12 1) (fun r14 => k_lt2 (sp_X8_change_1 F2 R3 x10 1 r14) (fun F23 R24 => k_lt (y1 + 1) (fun x26 => b2 F23 R24 x26)))))
def K_X6_change_r1_r5_2 (F : Nat → Int32) : Nat → (Nat → Int32) → (Nat → Nat → Int32) → (Int32) → (Nat → Int32) × (Nat → Nat → Int32)
  | 0 => fun F2 R3 _ => (F2, R3)
  | n + 1 => KB_X6_change_r1_r5_2 (K_X6_change_r1_r5_2 F n) F
def sp_X6_change_r1_r5 (F : Nat → Int32) (R : Nat → Nat → Int32) : (Nat → Int32) × (Nat → Nat → Int32) :=
  K_X6_change_r1_r5_2 F 8589934592 F R 0
def md_X6_change_r1_r5 : List Nat := []
def mr_X6_change_r1_r5 : List Nat := [2]
set_option maxHeartbeats 4000000 in
set_option maxRecDepth 100000 in
theorem w_X6_change_r1_r5 (l : Launch) (X : gX) (ad : Nat → Nat) (F : Nat → Int32) (R : Nat → Nat → Int32) (hI : g_ok LK_wX F) (hA : g_okR LA_wX R) : g_Cv l X yX6_change cX6_change 4 3 0 0 [.ref (ad 47), .ref (ad 1), .ref (ad 5)] (wX X ad F R) (fun w => ∃ (F' : Nat → Int32) (R' : Nat → Nat → Int32), w = wX X ad F' R' ∧ g_ok LK_wX F' ∧ g_okR LA_wX R' ∧ g_fr md_X6_change_r1_r5 F F' ∧ g_fr mr_X6_change_r1_r5 R R' ∧ (F', R') = sp_X6_change_r1_r5 F R) := by
  refine g_mv (by decide +kernel) (Nat.le_of_ble_eq_true rfl) (fun E cx hret => ?_)
  obtain ⟨SP, hSP⟩ : ∃ z, z = sp_X6_change_r1_r5 F R := ⟨_, rfl⟩
  have hk0 := hSP
  unfold sp_X6_change_r1_r5 at hk0
  refine g_iconst cx 0 (by decide) e_X6_change_0 ?_
  refine g_istore_n cx [(3, .int 0), (0, .ref (ad 47)), (1, .ref (ad 1)), (2, .ref (ad 5))] e_X6_change_1 (by decide) rfl ?_
  have J2 : ∀ (N : Nat) (F2 : Nat → Int32) (R3 : Nat → Nat → Int32) (y1 : Int32), (g_ok LK_wX F2) → (g_fr md_X6_change_r1_r5 F F2) → (g_okR LA_wX R3) → (g_fr mr_X6_change_r1_r5 R R3) → (jv 0 5 y1) → (SP = K_X6_change_r1_r5_2 F N F2 R3 y1) → (2147483647 - y1.toInt).toNat < N → G X E 4 0 0 (wX X ad F2 R3) [(0, .ref (ad 47)), (1, .ref (ad 1)), (2, .ref (ad 5)), (3, .int y1)] 2 [] := by
    intro N
    induction N with
    | zero => intro F2 R3 y1 oF2 fF2 oR3 fR3 py1 hkJ2 hm; exact absurd hm (Nat.not_lt_zero _)
    | succ N ih2 =>
      intro F2 R3 y1 oF2 fF2 oR3 fR3 py1 hkJ2 hm2
      have hkK2 : SP = KB_X6_change_r1_r5_2 (K_X6_change_r1_r5_2 F N) F F2 R3 y1 := hkJ2
      obtain ⟨b2, hb2⟩ : ∃ z, z = K_X6_change_r1_r5_2 F N := ⟨_, rfl⟩
      rw [← hb2] at hkK2
      unfold KB_X6_change_r1_r5_2 at hkK2
      refine g_iload_n cx 3 rfl e_X6_change_2 ?_
      refine g_aload_n cx 0 rfl e_X6_change_3 ?_
      refine g_get cx cl_X6 fl_X6_21 47 (.int (F2 755)) e_X6_change_4 rfl rfl ?_
      refine g_toi (F 755) (fF2 755 rfl) ?_
      refine g_icmp_ge cx 51 e_X6_change_7 (by decide) (fun zc4 => ?_) (fun zc4 => ?_)
      · have hk5 := hkK2.trans (if_pos zc4)
        exact hret e_X6_change_51 (Nat.le_of_ble_eq_true rfl) (Nat.le_of_ble_eq_true rfl) ⟨F2, R3, rfl, oF2, oR3, fF2, fR3, (hk5.symm.trans hSP)⟩
      · have p6 := gn_lt 0 4 (gc_nle zc4) py1 (g_ok_g hI 9 rfl) (by decide)
        have p7 := gn_gt 1 5 (gc_nle zc4) (g_ok_g hI 9 rfl) py1 (by decide)
        have hk8 := hkK2.trans (if_neg zc4)
        refine g_iload_n cx 3 rfl e_X6_change_10 ?_
        refine g_iconst cx 5 (by decide) e_X6_change_11 ?_
        refine g_icmp_ge cx 51 e_X6_change_12 (by decide) (fun zc9 => ?_) (fun zc9 => ?_)
        · exact (gf_le (gc_le zc9) (jv_k (x := 5) 5 (by decide)) p6 (by decide)).elim
        · refine g_aload_n cx 1 rfl e_X6_change_15 ?_
          refine g_ifnull cx e_X6_change_16 ?_
          refine g_aload_n cx 2 rfl e_X6_change_19 ?_
          refine g_ifnull cx e_X6_change_20 ?_
          refine g_aload_n cx 1 rfl e_X6_change_23 ?_
          refine g_aload_n cx 0 rfl e_X6_change_24 ?_
          refine g_get cx cl_X6 fl_X6_11 47 (.ref (ad 48)) e_X6_change_25 rfl rfl ?_
          refine g_iload_n cx 3 rfl e_X6_change_28 ?_
          refine g_iald cx 48 e_X6_change_29 rfl (jv_ix 5 p6 (by decide)) ?_
          refine g_topi (fun x10 ex10 => ?_)
          have hk11 := k_ls hk8 ex10
          refine g_iconst cx 1 (by decide) e_X6_change_30 ?_
          refine g_aload_n cx 2 rfl e_X6_change_31 ?_
          refine g_aload_n cx 0 rfl e_X6_change_32 ?_
          refine g_get cx cl_X6 fl_X6_15 47 (.ref (ad 49)) e_X6_change_33 rfl rfl ?_
          refine g_iload_n cx 3 rfl e_X6_change_36 ?_
          refine g_iald cx 49 e_X6_change_37 rfl (jv_ix 5 p6 (by decide)) ?_
          refine g_topi (fun x12 ex12 => ?_)
          have hk13 := k_ls hk11 ex12
          refine g_iconst cx 1 (by decide) e_X6_change_38 ?_
          refine g_cViW cx [.int x12, .int 1] [.int 1, .int x10, .ref (ad 1)] (w_X8_side_5 l X ad F2 R3 oF2 oR3 x12 1) ml_X6_35 yV_X8_side e_X6_change_39 (by unfold g_rr; decide) (by decide) 5 rfl rfl rfl (Nat.le_of_ble_eq_true rfl) (fun r14 w15 h16 => ?_)
          obtain ⟨rfl, pr14, hx17⟩ := h16
          have hk18 := k_ls hk13 hx17
          refine g_cVvW cx [.int x10, .int 1, .int r14] [] (w_X8_change_1 l X ad F2 R3 oF2 oR3 x10 1 r14) ml_X6_41 yV_X8_change e_X6_change_42 (by unfold g_rr; decide) (by decide) 1 rfl rfl rfl (Nat.le_of_ble_eq_true rfl) (fun w20 h21 => ?_)
          obtain ⟨F23, R24, rfl, oF23, oR24, cF23, cR24, hx22⟩ := h21
          have hk25 := k_ls2 hk18 hx22
          have fF23 : g_fr md_X6_change_r1_r5 F F23 := g_fr_c fF2 cF23 rfl
          have fR24 : g_fr mr_X6_change_r1_r5 R R24 := g_fr_c fR3 cR24 rfl
          obtain ⟨x26, ex26⟩ : ∃ z : Int32, z = y1 + Int32.ofInt 1 := ⟨_, rfl⟩
          have hk27 := k_ls hk25 (show x26 = y1 + 1 from ex26)
          refine g_iinc cx x26 [(3, .int x26), (0, .ref (ad 47)), (1, .ref (ad 1)), (2, .ref (ad 5))] 3 e_X6_change_45 rfl ex26.symm (by decide) rfl ?_
          have zx26 := jv_add 1 5 (show x26 = y1 + 1 from ex26) p6 (jv_k (x := 1) 1 (by decide)) (by decide)
          refine g_goto cx 2 e_X6_change_48 (by decide) ?_
          refine g_lsub [1, 2, 3, 0] [(0, .ref (ad 47)), (1, .ref (ad 1)), (2, .ref (ad 5)), (3, .int x26)] rfl ?_
          exact ih2 F23 R24 x26 oF23 fF23 oR24 fR24 (jv_w zx26.2 (by decide)) (hk27.trans (by rw [hb2])) (Nat.lt_of_lt_of_le (show (2147483647 - x26.toInt).toNat < (2147483647 - y1.toInt).toNat from by have q0 := (jv_k (x := 1) 1 (by decide)).1; have q1 := (jv_k (x := 1) 1 (by decide)).2; have q2 := (jv_k (x := 5) 5 (by decide)).1; have q3 := (jv_k (x := 5) 5 (by decide)).2; have q4 := p7.1; have q5 := p7.2; have q6 := zx26.2.1; have q7 := zx26.2.2; have q8 := p6.1; have q9 := p6.2; have q10 := (gc_nle zc4); have q11 := (gc_nle zc9); have q12 := (g_eq0 zx26.1); omega) (Nat.le_of_lt_succ hm2))
  refine g_lsub [1, 2, 3, 0] [(0, .ref (ad 47)), (1, .ref (ad 1)), (2, .ref (ad 5)), (3, .int 0)] rfl ?_
  exact J2 8589934592 F R 0 hI (g_fr_rf F) hA (g_fr_rf R) (jv_w (jv_k (x := 0) 0 (by decide)) (by decide)) hk0 (show (2147483647 - (0 : Int32).toInt).toNat < 8589934592 from by have q0 := (jv_k (x := 0) 0 (by decide)).1; have q1 := (jv_k (x := 0) 0 (by decide)).2; omega)
def KB_X6_whose_2 (b2 : (Int32) → Int32) (F : Nat → Int32) (R : Nat → Nat → Int32) (a0 : Int32) (y1 : Int32) : Int32 :=
  if (F 755) ≤ y1 then (-1) else k_lt (R 48 (Int32.toNatClampNeg y1)) (fun x8 => if x8 = a0 then k_lt (R 50 (Int32.toNatClampNeg y1)) (fun x15 => x15) else k_lt (y1 + 1) (fun x12 => b2 x12))
def K_X6_whose_2 (F : Nat → Int32) (R : Nat → Nat → Int32) (a0 : Int32) : Nat → (Int32) → Int32
  | 0 => fun _ => 0
  | n + 1 => KB_X6_whose_2 (K_X6_whose_2 F R a0 n) F R a0
def sp_X6_whose (F : Nat → Int32) (R : Nat → Nat → Int32) (a0 : Int32) : Int32 :=
  K_X6_whose_2 F R a0 8589934592 0
theorem e_X6_whose_0 : g_dc cX6_whose 0 (.iconst 0) 1 1 := ⟨by decide +kernel, rfl⟩
theorem e_X6_whose_1 : g_dc cX6_whose 1 (.istore_n 2) 1 2 := ⟨by decide +kernel, rfl⟩
theorem e_X6_whose_2 : g_dc cX6_whose 2 (.iload_n 2) 1 3 := ⟨by decide +kernel, rfl⟩
theorem e_X6_whose_3 : g_dc cX6_whose 3 (.aload_n 0) 1 4 := ⟨by decide +kernel, rfl⟩
theorem e_X6_whose_4 : g_dc cX6_whose 4 (.getfield 21) 3 7 := ⟨by decide +kernel, rfl⟩
theorem e_X6_whose_7 : g_dc cX6_whose 7 (.if_icmp .ge 31) 3 10 := ⟨by decide +kernel, rfl⟩
theorem e_X6_whose_10 : g_dc cX6_whose 10 (.iload_n 2) 1 11 := ⟨by decide +kernel, rfl⟩
theorem e_X6_whose_11 : g_dc cX6_whose 11 (.iconst 5) 1 12 := ⟨by decide +kernel, rfl⟩
theorem e_X6_whose_12 : g_dc cX6_whose 12 (.if_icmp .ge 26) 3 15 := ⟨by decide +kernel, rfl⟩
theorem e_X6_whose_15 : g_dc cX6_whose 15 (.aload_n 0) 1 16 := ⟨by decide +kernel, rfl⟩
theorem e_X6_whose_16 : g_dc cX6_whose 16 (.getfield 11) 3 19 := ⟨by decide +kernel, rfl⟩
theorem e_X6_whose_19 : g_dc cX6_whose 19 (.iload_n 2) 1 20 := ⟨by decide +kernel, rfl⟩
theorem e_X6_whose_20 : g_dc cX6_whose 20 (.iaload) 1 21 := ⟨by decide +kernel, rfl⟩
theorem e_X6_whose_21 : g_dc cX6_whose 21 (.iload_n 1) 1 22 := ⟨by decide +kernel, rfl⟩
theorem e_X6_whose_22 : g_dc cX6_whose 22 (.if_icmp .ne 10) 3 25 := ⟨by decide +kernel, rfl⟩
theorem e_X6_whose_25 : g_dc cX6_whose 25 (.aload_n 0) 1 26 := ⟨by decide +kernel, rfl⟩
theorem e_X6_whose_26 : g_dc cX6_whose 26 (.getfield 18) 3 29 := ⟨by decide +kernel, rfl⟩
theorem e_X6_whose_29 : g_dc cX6_whose 29 (.iload_n 2) 1 30 := ⟨by decide +kernel, rfl⟩
theorem e_X6_whose_30 : g_dc cX6_whose 30 (.iaload) 1 31 := ⟨by decide +kernel, rfl⟩
theorem e_X6_whose_31 : g_dc cX6_whose 31 (.ireturn) 1 32 := ⟨by decide +kernel, rfl⟩
theorem e_X6_whose_32 : g_dc cX6_whose 32 (.iinc 2 1) 3 35 := ⟨by decide +kernel, rfl⟩
theorem e_X6_whose_35 : g_dc cX6_whose 35 (.goto (-33)) 3 38 := ⟨by decide +kernel, rfl⟩
theorem e_X6_whose_38 : g_dc cX6_whose 38 (.iconst (-1)) 1 39 := ⟨by decide +kernel, rfl⟩
theorem e_X6_whose_39 : g_dc cX6_whose 39 (.ireturn) 1 40 := ⟨by decide +kernel, rfl⟩
set_option maxHeartbeats 4000000 in
set_option maxRecDepth 100000 in
theorem w_X6_whose (l : Launch) (X : gX) (ad : Nat → Nat) (F : Nat → Int32) (R : Nat → Nat → Int32) (hI : g_ok LK_wX F) (hA : g_okR LA_wX R) (a0 : Int32) : g_Ci l X yX6_whose cX6_whose 3 (some .int) 1 0 0 [.ref (ad 47), .int a0] (wX X ad F R) (fun r w => w = wX X ad F R ∧ jv (-2147483648) 2147483647 r ∧ r = sp_X6_whose F R a0) := by
  refine g_mi (by decide +kernel) (Nat.le_of_ble_eq_true rfl) (fun E cx hret => ?_)
  obtain ⟨SP, hSP⟩ : ∃ z, z = sp_X6_whose F R a0 := ⟨_, rfl⟩
  have hk0 := hSP
  unfold sp_X6_whose at hk0
  refine g_iconst cx 0 (by decide) e_X6_whose_0 ?_
  refine g_istore_n cx [(2, .int 0), (0, .ref (ad 47)), (1, .int a0)] e_X6_whose_1 (by decide) rfl ?_
  have J2 : ∀ (N : Nat) (y1 : Int32), (jv 0 5 y1) → (SP = K_X6_whose_2 F R a0 N y1) → (2147483647 - y1.toInt).toNat < N → G X E 3 0 0 (wX X ad F R) [(0, .ref (ad 47)), (1, .int a0), (2, .int y1)] 2 [] := by
    intro N
    induction N with
    | zero => intro y1 py1 hkJ2 hm; exact absurd hm (Nat.not_lt_zero _)
    | succ N ih2 =>
      intro y1 py1 hkJ2 hm2
      have hkK2 : SP = KB_X6_whose_2 (K_X6_whose_2 F R a0 N) F R a0 y1 := hkJ2
      obtain ⟨b2, hb2⟩ : ∃ z, z = K_X6_whose_2 F R a0 N := ⟨_, rfl⟩
      rw [← hb2] at hkK2
      unfold KB_X6_whose_2 at hkK2
      refine g_iload_n cx 2 rfl e_X6_whose_2 ?_
      refine g_aload_n cx 0 rfl e_X6_whose_3 ?_
      refine g_get cx cl_X6 fl_X6_21 47 (.int (F 755)) e_X6_whose_4 rfl rfl ?_
      refine g_icmp_ge cx 38 e_X6_whose_7 (by decide) (fun zc2 => ?_) (fun zc2 => ?_)
      · have hk3 := hkK2.trans (if_pos zc2)
        refine g_iconst cx (-1) (by decide) e_X6_whose_38 ?_
        exact hret e_X6_whose_39 (Nat.le_of_ble_eq_true rfl) (Nat.le_of_ble_eq_true rfl) rfl ⟨rfl, (jv_w (jv_k (x := (-1)) (-1) (by decide)) (by decide)), (hk3.symm.trans hSP)⟩
      · have p4 := gn_lt 0 4 (gc_nle zc2) py1 (g_ok_g hI 9 rfl) (by decide)
        have p5 := gn_gt 1 5 (gc_nle zc2) (g_ok_g hI 9 rfl) py1 (by decide)
        have hk6 := hkK2.trans (if_neg zc2)
        refine g_iload_n cx 2 rfl e_X6_whose_10 ?_
        refine g_iconst cx 5 (by decide) e_X6_whose_11 ?_
        refine g_icmp_ge cx 38 e_X6_whose_12 (by decide) (fun zc7 => ?_) (fun zc7 => ?_)
        · exact (gf_le (gc_le zc7) (jv_k (x := 5) 5 (by decide)) p4 (by decide)).elim
        · refine g_aload_n cx 0 rfl e_X6_whose_15 ?_
          refine g_get cx cl_X6 fl_X6_11 47 (.ref (ad 48)) e_X6_whose_16 rfl rfl ?_
          refine g_iload_n cx 2 rfl e_X6_whose_19 ?_
          refine g_iald cx 48 e_X6_whose_20 rfl (jv_ix 5 p4 (by decide)) ?_
          refine g_topi (fun x8 ex8 => ?_)
          have hk9 := k_ls hk6 ex8
          refine g_iload_n cx 1 rfl e_X6_whose_21 ?_
          refine g_icmp_ne cx 32 e_X6_whose_22 (by decide) (fun zc10 => ?_) (fun zc10 => ?_)
          · have hk11 := hk9.trans (if_neg zc10)
            obtain ⟨x12, ex12⟩ : ∃ z : Int32, z = y1 + Int32.ofInt 1 := ⟨_, rfl⟩
            have hk13 := k_ls hk11 (show x12 = y1 + 1 from ex12)
            refine g_iinc cx x12 [(2, .int x12), (0, .ref (ad 47)), (1, .int a0)] 2 e_X6_whose_32 rfl ex12.symm (by decide) rfl ?_
            have zx12 := jv_add 1 5 (show x12 = y1 + 1 from ex12) p4 (jv_k (x := 1) 1 (by decide)) (by decide)
            refine g_goto cx 2 e_X6_whose_35 (by decide) ?_
            refine g_lsub [1, 2, 0] [(0, .ref (ad 47)), (1, .int a0), (2, .int x12)] rfl ?_
            exact ih2 x12 (jv_w zx12.2 (by decide)) (hk13.trans (by rw [hb2])) (Nat.lt_of_lt_of_le (show (2147483647 - x12.toInt).toNat < (2147483647 - y1.toInt).toNat from by have q0 := (jv_k (x := 1) 1 (by decide)).1; have q1 := (jv_k (x := 1) 1 (by decide)).2; have q2 := (jv_k (x := 5) 5 (by decide)).1; have q3 := (jv_k (x := 5) 5 (by decide)).2; have q4 := p5.1; have q5 := p5.2; have q6 := zx12.2.1; have q7 := zx12.2.2; have q8 := p4.1; have q9 := p4.2; have q10 := (gc_nle zc2); have q11 := (gc_nle zc7); have q12 := (g_eq0 zx12.1); omega) (Nat.le_of_lt_succ hm2))
          · have hk14 := hk9.trans (if_pos zc10)
            refine g_aload_n cx 0 rfl e_X6_whose_25 ?_
            refine g_get cx cl_X6 fl_X6_18 47 (.ref (ad 50)) e_X6_whose_26 rfl rfl ?_
            refine g_iload_n cx 2 rfl e_X6_whose_29 ?_
            refine g_iald cx 50 e_X6_whose_30 rfl (jv_ix 5 p4 (by decide)) ?_
            refine g_topi (fun x15 ex15 => ?_)
            have hk16 := k_ls hk14 ex15
            exact hret e_X6_whose_31 (Nat.le_of_ble_eq_true rfl) (Nat.le_of_ble_eq_true rfl) rfl ⟨rfl, (jv_t x15), (hk16.symm.trans hSP)⟩
  refine g_lsub [1, 2, 0] [(0, .ref (ad 47)), (1, .int a0), (2, .int 0)] rfl ?_
  exact J2 8589934592 0 (jv_w (jv_k (x := 0) 0 (by decide)) (by decide)) hk0 (show (2147483647 - (0 : Int32).toInt).toNat < 8589934592 from by have q0 := (jv_k (x := 0) 0 (by decide)).1; have q1 := (jv_k (x := 0) 0 (by decide)).2; omega)
def K_X10_put_57 (F10 : Nat → Int32) (R11 : Nat → Nat → Int32)  : Int32 × (Nat → Int32) × (Nat → Nat → Int32) :=
  ((-1), F10, R11)
def K_X10_put_149  (F37 : Nat → Int32) (R38 : Nat → Nat → Int32) : Int32 × (Nat → Int32) × (Nat → Nat → Int32) :=
  (F37 564, F37, R38)
def K_X10_put_59 (F10 : Nat → Int32) (R11 : Nat → Nat → Int32) (a1 : Int32)  : Int32 × (Nat → Int32) × (Nat → Nat → Int32) :=
  k_lt2 (sp_X7_lay_r1_r11 F10 R11) (fun F22 R23 => k_lt2 (sp_X7_bestRow_r47_r1 F22 R23) (fun F29 R30 => if a1 = 11 then (F29 565, F29, R30) else if 10 ≤ a1 then if a1 = 12 then k_lt2 (sp_X6_chooseBest F29 R30) (fun F47 R48 => k_lt2 (sp_X6_change_r1_r5 F47 R48) (fun F54 R55 => K_X10_put_149 F54 R55)) else K_X10_put_149 F29 R30 else k_lt (sp_X6_whose F29 R30 a1) (fun r59 => (r59, F29, R30))))
def K_X10_put_23 (F : Nat → Int32) (R : Nat → Nat → Int32) (a0 : Int32) (a1 : Int32) (y5 : Int32) : Int32 × (Nat → Int32) × (Nat → Nat → Int32) :=
  k_lt3 (sp_X6_take F R a0 (F 19)) (fun r6 F10 R11 => if r6 = 0 then K_X10_put_57 F10 R11 else if y5 = 0 then k_lt (g_in a1 10 12) (fun r71 => if r71 = 0 then K_X10_put_57 F10 R11 else K_X10_put_59 F10 R11 a1) else K_X10_put_59 F10 R11 a1)
def K_X10_put_22 (F : Nat → Int32) (R : Nat → Nat → Int32) (a0 : Int32) (a1 : Int32)  : Int32 × (Nat → Int32) × (Nat → Nat → Int32) :=
  K_X10_put_23 F R a0 a1 0
def sp_X10_put (F : Nat → Int32) (R : Nat → Nat → Int32) (a0 : Int32) (a1 : Int32) : Int32 × (Nat → Int32) × (Nat → Nat → Int32) :=
  k_lt (g_in a1 0 9) (fun r1 => if r1 = 0 then K_X10_put_22 F R a0 a1 else k_lt (1 <<< (a1 &&& 31)) (fun x87 => k_lt (a0 &&& x87) (fun x89 => if x89 = 0 then K_X10_put_22 F R a0 a1 else K_X10_put_23 F R a0 a1 1)))
theorem e_X10_put_0 : g_dc cX10_put 0 (.iload_n 2) 1 1 := ⟨by decide +kernel, rfl⟩
theorem e_X10_put_1 : g_dc cX10_put 1 (.iconst 0) 1 2 := ⟨by decide +kernel, rfl⟩
theorem e_X10_put_2 : g_dc cX10_put 2 (.bipush 9) 2 4 := ⟨by decide +kernel, rfl⟩
theorem e_X10_put_4 : g_dc cX10_put 4 (.invokestatic 82) 3 7 := ⟨by decide +kernel, rfl⟩
theorem e_X10_put_7 : g_dc cX10_put 7 (.ifCond .eq 15) 3 10 := ⟨by decide +kernel, rfl⟩
theorem e_X10_put_10 : g_dc cX10_put 10 (.iload_n 1) 1 11 := ⟨by decide +kernel, rfl⟩
theorem e_X10_put_11 : g_dc cX10_put 11 (.iconst 1) 1 12 := ⟨by decide +kernel, rfl⟩
theorem e_X10_put_12 : g_dc cX10_put 12 (.iload_n 2) 1 13 := ⟨by decide +kernel, rfl⟩
theorem e_X10_put_13 : g_dc cX10_put 13 (.ishl) 1 14 := ⟨by decide +kernel, rfl⟩
theorem e_X10_put_14 : g_dc cX10_put 14 (.iand) 1 15 := ⟨by decide +kernel, rfl⟩
theorem e_X10_put_15 : g_dc cX10_put 15 (.ifCond .eq 7) 3 18 := ⟨by decide +kernel, rfl⟩
theorem e_X10_put_18 : g_dc cX10_put 18 (.iconst 1) 1 19 := ⟨by decide +kernel, rfl⟩
theorem e_X10_put_19 : g_dc cX10_put 19 (.goto 4) 3 22 := ⟨by decide +kernel, rfl⟩
theorem e_X10_put_22 : g_dc cX10_put 22 (.iconst 0) 1 23 := ⟨by decide +kernel, rfl⟩
theorem e_X10_put_23 : g_dc cX10_put 23 (.istore_n 3) 1 24 := ⟨by decide +kernel, rfl⟩
theorem e_X10_put_24 : g_dc cX10_put 24 (.aload_n 0) 1 25 := ⟨by decide +kernel, rfl⟩
theorem e_X10_put_25 : g_dc cX10_put 25 (.getfield 70) 3 28 := ⟨by decide +kernel, rfl⟩
theorem e_X10_put_28 : g_dc cX10_put 28 (.iload_n 1) 1 29 := ⟨by decide +kernel, rfl⟩
theorem e_X10_put_29 : g_dc cX10_put 29 (.aload_n 0) 1 30 := ⟨by decide +kernel, rfl⟩
theorem e_X10_put_30 : g_dc cX10_put 30 (.getfield 10) 3 33 := ⟨by decide +kernel, rfl⟩
theorem e_X10_put_33 : g_dc cX10_put 33 (.getfield 95) 3 36 := ⟨by decide +kernel, rfl⟩
theorem e_X10_put_36 : g_dc cX10_put 36 (.invokevirtual 186) 3 39 := ⟨by decide +kernel, rfl⟩
theorem e_X10_put_39 : g_dc cX10_put 39 (.ifCond .eq 18) 3 42 := ⟨by decide +kernel, rfl⟩
theorem e_X10_put_42 : g_dc cX10_put 42 (.iload_n 3) 1 43 := ⟨by decide +kernel, rfl⟩
theorem e_X10_put_43 : g_dc cX10_put 43 (.ifCond .ne 16) 3 46 := ⟨by decide +kernel, rfl⟩
theorem e_X10_put_46 : g_dc cX10_put 46 (.iload_n 2) 1 47 := ⟨by decide +kernel, rfl⟩
theorem e_X10_put_47 : g_dc cX10_put 47 (.bipush 10) 2 49 := ⟨by decide +kernel, rfl⟩
theorem e_X10_put_49 : g_dc cX10_put 49 (.bipush 12) 2 51 := ⟨by decide +kernel, rfl⟩
theorem e_X10_put_51 : g_dc cX10_put 51 (.invokestatic 82) 3 54 := ⟨by decide +kernel, rfl⟩
theorem e_X10_put_54 : g_dc cX10_put 54 (.ifCond .ne 5) 3 57 := ⟨by decide +kernel, rfl⟩
theorem e_X10_put_57 : g_dc cX10_put 57 (.iconst (-1)) 1 58 := ⟨by decide +kernel, rfl⟩
theorem e_X10_put_58 : g_dc cX10_put 58 (.ireturn) 1 59 := ⟨by decide +kernel, rfl⟩
theorem e_X10_put_59 : g_dc cX10_put 59 (.aload_n 0) 1 60 := ⟨by decide +kernel, rfl⟩
theorem e_X10_put_60 : g_dc cX10_put 60 (.getfield 58) 3 63 := ⟨by decide +kernel, rfl⟩
theorem e_X10_put_63 : g_dc cX10_put 63 (.aload_n 0) 1 64 := ⟨by decide +kernel, rfl⟩
theorem e_X10_put_64 : g_dc cX10_put 64 (.getfield 10) 3 67 := ⟨by decide +kernel, rfl⟩
theorem e_X10_put_67 : g_dc cX10_put 67 (.aload_n 0) 1 68 := ⟨by decide +kernel, rfl⟩
theorem e_X10_put_68 : g_dc cX10_put 68 (.getfield 29) 3 71 := ⟨by decide +kernel, rfl⟩
theorem e_X10_put_71 : g_dc cX10_put 71 (.invokevirtual 148) 3 74 := ⟨by decide +kernel, rfl⟩
theorem e_X10_put_74 : g_dc cX10_put 74 (.aload_n 0) 1 75 := ⟨by decide +kernel, rfl⟩
theorem e_X10_put_75 : g_dc cX10_put 75 (.getfield 58) 3 78 := ⟨by decide +kernel, rfl⟩
theorem e_X10_put_78 : g_dc cX10_put 78 (.aload_n 0) 1 79 := ⟨by decide +kernel, rfl⟩
theorem e_X10_put_79 : g_dc cX10_put 79 (.getfield 70) 3 82 := ⟨by decide +kernel, rfl⟩
theorem e_X10_put_82 : g_dc cX10_put 82 (.aload_n 0) 1 83 := ⟨by decide +kernel, rfl⟩
theorem e_X10_put_83 : g_dc cX10_put 83 (.getfield 10) 3 86 := ⟨by decide +kernel, rfl⟩
theorem e_X10_put_86 : g_dc cX10_put 86 (.invokevirtual 189) 3 89 := ⟨by decide +kernel, rfl⟩
theorem e_X10_put_89 : g_dc cX10_put 89 (.iload_n 2) 1 90 := ⟨by decide +kernel, rfl⟩
theorem e_X10_put_90 : g_dc cX10_put 90 (.bipush 11) 2 92 := ⟨by decide +kernel, rfl⟩
theorem e_X10_put_92 : g_dc cX10_put 92 (.if_icmp .ne 11) 3 95 := ⟨by decide +kernel, rfl⟩
theorem e_X10_put_95 : g_dc cX10_put 95 (.aload_n 0) 1 96 := ⟨by decide +kernel, rfl⟩
theorem e_X10_put_96 : g_dc cX10_put 96 (.getfield 58) 3 99 := ⟨by decide +kernel, rfl⟩
theorem e_X10_put_99 : g_dc cX10_put 99 (.getfield 193) 3 102 := ⟨by decide +kernel, rfl⟩
theorem e_X10_put_102 : g_dc cX10_put 102 (.ireturn) 1 103 := ⟨by decide +kernel, rfl⟩
theorem e_X10_put_103 : g_dc cX10_put 103 (.iload_n 2) 1 104 := ⟨by decide +kernel, rfl⟩
theorem e_X10_put_104 : g_dc cX10_put 104 (.bipush 10) 2 106 := ⟨by decide +kernel, rfl⟩
theorem e_X10_put_106 : g_dc cX10_put 106 (.if_icmp .ge 12) 3 109 := ⟨by decide +kernel, rfl⟩
theorem e_X10_put_109 : g_dc cX10_put 109 (.aload_n 0) 1 110 := ⟨by decide +kernel, rfl⟩
theorem e_X10_put_110 : g_dc cX10_put 110 (.getfield 70) 3 113 := ⟨by decide +kernel, rfl⟩
theorem e_X10_put_113 : g_dc cX10_put 113 (.iload_n 2) 1 114 := ⟨by decide +kernel, rfl⟩
theorem e_X10_put_114 : g_dc cX10_put 114 (.invokevirtual 196) 3 117 := ⟨by decide +kernel, rfl⟩
theorem e_X10_put_117 : g_dc cX10_put 117 (.ireturn) 1 118 := ⟨by decide +kernel, rfl⟩
theorem e_X10_put_118 : g_dc cX10_put 118 (.iload_n 2) 1 119 := ⟨by decide +kernel, rfl⟩
theorem e_X10_put_119 : g_dc cX10_put 119 (.bipush 12) 2 121 := ⟨by decide +kernel, rfl⟩
theorem e_X10_put_121 : g_dc cX10_put 121 (.if_icmp .ne 28) 3 124 := ⟨by decide +kernel, rfl⟩
theorem e_X10_put_124 : g_dc cX10_put 124 (.aload_n 0) 1 125 := ⟨by decide +kernel, rfl⟩
theorem e_X10_put_125 : g_dc cX10_put 125 (.getfield 70) 3 128 := ⟨by decide +kernel, rfl⟩
theorem e_X10_put_128 : g_dc cX10_put 128 (.invokevirtual 199) 3 131 := ⟨by decide +kernel, rfl⟩
theorem e_X10_put_131 : g_dc cX10_put 131 (.aload_n 0) 1 132 := ⟨by decide +kernel, rfl⟩
theorem e_X10_put_132 : g_dc cX10_put 132 (.getfield 70) 3 135 := ⟨by decide +kernel, rfl⟩
theorem e_X10_put_135 : g_dc cX10_put 135 (.aload_n 0) 1 136 := ⟨by decide +kernel, rfl⟩
theorem e_X10_put_136 : g_dc cX10_put 136 (.getfield 10) 3 139 := ⟨by decide +kernel, rfl⟩
theorem e_X10_put_139 : g_dc cX10_put 139 (.aload_n 0) 1 140 := ⟨by decide +kernel, rfl⟩
theorem e_X10_put_140 : g_dc cX10_put 140 (.getfield 58) 3 143 := ⟨by decide +kernel, rfl⟩
theorem e_X10_put_143 : g_dc cX10_put 143 (.getfield 202) 3 146 := ⟨by decide +kernel, rfl⟩
theorem e_X10_put_146 : g_dc cX10_put 146 (.invokevirtual 203) 3 149 := ⟨by decide +kernel, rfl⟩
theorem e_X10_put_149 : g_dc cX10_put 149 (.aload_n 0) 1 150 := ⟨by decide +kernel, rfl⟩
theorem e_X10_put_150 : g_dc cX10_put 150 (.getfield 58) 3 153 := ⟨by decide +kernel, rfl⟩
theorem e_X10_put_153 : g_dc cX10_put 153 (.getfield 206) 3 156 := ⟨by decide +kernel, rfl⟩
theorem e_X10_put_156 : g_dc cX10_put 156 (.ireturn) 1 157 := ⟨by decide +kernel, rfl⟩
def md_X10_put : List Nat := [80, 81, 82, 83, 84, 241, 564, 565, 601, 602, 603, 604, 605, 606, 672, 673, 674, 675, 691, 692, 693, 694, 695, 696, 697, 698, 755]
def mr_X10_put : List Nat := [2, 6, 16, 23, 24, 38, 39, 40, 41, 44, 45, 46, 48, 49, 50]
set_option maxHeartbeats 4000000 in
set_option maxRecDepth 100000 in
theorem w_X10_put (l : Launch) (X : gX) (ad : Nat → Nat) (F : Nat → Int32) (R : Nat → Nat → Int32) (hI : g_ok LK_wX F) (hA : g_okR LA_wX R) (a0 : Int32) (a1 : Int32) : g_Ci l X yX10_put cX10_put 4 (some .int) 8 0 0 [.ref (ad 0), .int a0, .int a1] (wX X ad F R) (fun r w => ∃ (F' : Nat → Int32) (R' : Nat → Nat → Int32), w = wX X ad F' R' ∧ g_ok LK_wX F' ∧ g_okR LA_wX R' ∧ g_fr md_X10_put F F' ∧ g_fr mr_X10_put R R' ∧ jv (-2147483648) 2147483647 r ∧ (r, F', R') = sp_X10_put F R a0 a1) := by
  refine g_mi (by decide +kernel) (Nat.le_of_ble_eq_true rfl) (fun E cx hret => ?_)
  obtain ⟨SP, hSP⟩ : ∃ z, z = sp_X10_put F R a0 a1 := ⟨_, rfl⟩
  have hk0 := hSP
  unfold sp_X10_put at hk0
  refine g_iload_n cx 2 rfl e_X10_put_0 ?_
  refine g_iconst cx 0 (by decide) e_X10_put_1 ?_
  refine g_bipush cx 9 (by decide) e_X10_put_2 ?_
  refine g_cSiW cx [.int a1, .int 0, .int 9] [] (c_X10_within l X (wX X ad F R) a1 0 9) ml_X10_82 yS_X10_within rfl e_X10_put_4 (by unfold g_rr; decide) (by decide) rfl (Nat.le_of_ble_eq_true rfl) (fun r1 w2 h3 => ?_)
  obtain ⟨rfl, hr1⟩ := h3
  have pr1 : jv 0 1 r1 := by rw [hr1]; exact gi_01 _ _ _
  have hk4 := k_ls hk0 hr1
  have J23 : ∀ (y5 : Int32), (jv 0 1 y5) → (SP = K_X10_put_23 F R a0 a1 y5) → G X E 4 0 0 (wX X ad F R) [(0, .ref (ad 0)), (1, .int a0), (2, .int a1)] 23 [.int y5] := by
    intro y5 py5 hkJ23
    unfold K_X10_put_23 at hkJ23
    refine g_istore_n cx [(3, .int y5), (0, .ref (ad 0)), (1, .int a0), (2, .int a1)] e_X10_put_23 (by decide) rfl ?_
    refine g_aload_n cx 1 rfl e_X10_put_24 ?_
    refine g_get cx cl_X10 fl_X10_70 0 (.ref (ad 47)) e_X10_put_25 rfl rfl ?_
    refine g_iload_n cx 2 rfl e_X10_put_28 ?_
    refine g_aload_n cx 1 rfl e_X10_put_29 ?_
    refine g_get cx cl_X10 fl_X10_10 0 (.ref (ad 1)) e_X10_put_30 rfl rfl ?_
    refine g_getN cx cl_X8 fn_X10_95 1 (.int (F 19)) e_X10_put_33 rfl rfl ?_
    refine g_cViW cx [.int a0, .int (F 19)] [] (w_X6_take l X ad F R hI hA a0 (F 19)) ml_X10_186 yV_X6_take e_X10_put_36 (by unfold g_rr; decide) (by decide) 47 rfl rfl rfl (Nat.le_of_ble_eq_true rfl) (fun r6 w7 h8 => ?_)
    obtain ⟨F10, R11, rfl, oF10, oR11, cF10, cR11, pr6, hx9⟩ := h8
    have hk12 := k_ls3 hkJ23 hx9
    have fF10 : g_fr md_X10_put F F10 := g_fr_c (g_fr_rf F) cF10 rfl
    have fR11 : g_fr mr_X10_put R R11 := g_fr_c (g_fr_rf R) cR11 rfl
    have J57 : (SP = K_X10_put_57 F10 R11) → G X E 4 0 0 (wX X ad F10 R11) [] 57 [] := by
      intro   hkJ57
      unfold K_X10_put_57 at hkJ57
      refine g_iconst cx (-1) (by decide) e_X10_put_57 ?_
      exact hret e_X10_put_58 (Nat.le_of_ble_eq_true rfl) (Nat.le_of_ble_eq_true rfl) rfl ⟨F10, R11, rfl, oF10, oR11, fF10, fR11, (jv_w (jv_k (x := (-1)) (-1) (by decide)) (by decide)), (hkJ57.symm.trans hSP)⟩
    refine g_if_eq cx 57 e_X10_put_39 (by decide) (fun zc13 => ?_) (fun zc13 => ?_)
    · have p14 := gn_eq 0 0 (gc_eq zc13) pr6 (jv_k (x := 0) 0 (by decide)) (by decide)
      have hk15 := hk12.trans (if_pos zc13)
      refine g_lsub [] [] rfl ?_
      exact J57  hk15
    · have p16 := gn_neL 1 1 (gc_ne zc13) pr6 (jv_k (x := 0) 0 (by decide)) (by decide)
      have hk17 := hk12.trans (if_neg zc13)
      refine g_iload_n cx 0 rfl e_X10_put_42 ?_
      have J59 : (SP = K_X10_put_59 F10 R11 a1) → G X E 4 0 0 (wX X ad F10 R11) [(0, .ref (ad 0)), (2, .int a1)] 59 [] := by
        intro   hkJ59
        unfold K_X10_put_59 at hkJ59
        refine g_aload_n cx 0 rfl e_X10_put_59 ?_
        refine g_get cx cl_X10 fl_X10_58 0 (.ref (ad 35)) e_X10_put_60 rfl rfl ?_
        refine g_aload_n cx 0 rfl e_X10_put_63 ?_
        refine g_get cx cl_X10 fl_X10_10 0 (.ref (ad 1)) e_X10_put_64 rfl rfl ?_
        refine g_aload_n cx 0 rfl e_X10_put_67 ?_
        refine g_get cx cl_X10 fl_X10_29 0 (.ref (ad 11)) e_X10_put_68 rfl rfl ?_
        refine g_cVvW cx [.ref (ad 1), .ref (ad 11)] [] (w_X7_lay_r1_r11 l X ad F10 R11 oF10 oR11) ml_X10_148 yV_X7_lay e_X10_put_71 (by unfold g_rr; decide) (by decide) 35 rfl rfl rfl (Nat.le_of_ble_eq_true rfl) (fun w19 h20 => ?_)
        obtain ⟨F22, R23, rfl, oF22, oR23, cF22, cR23, hx21⟩ := h20
        have hk24 := k_ls2 hkJ59 hx21
        have fF22 : g_fr md_X10_put F F22 := g_fr_c fF10 cF22 rfl
        have fR23 : g_fr mr_X10_put R R23 := g_fr_c fR11 cR23 rfl
        refine g_aload_n cx 0 rfl e_X10_put_74 ?_
        refine g_get cx cl_X10 fl_X10_58 0 (.ref (ad 35)) e_X10_put_75 rfl rfl ?_
        refine g_aload_n cx 0 rfl e_X10_put_78 ?_
        refine g_get cx cl_X10 fl_X10_70 0 (.ref (ad 47)) e_X10_put_79 rfl rfl ?_
        refine g_aload_n cx 0 rfl e_X10_put_82 ?_
        refine g_get cx cl_X10 fl_X10_10 0 (.ref (ad 1)) e_X10_put_83 rfl rfl ?_
        refine g_cVvW cx [.ref (ad 47), .ref (ad 1)] [] (w_X7_bestRow_r47_r1 l X ad F22 R23 oF22 oR23) ml_X10_189 yV_X7_bestRow e_X10_put_86 (by unfold g_rr; decide) (by decide) 35 rfl rfl rfl (Nat.le_of_ble_eq_true rfl) (fun w26 h27 => ?_)
        obtain ⟨F29, R30, rfl, oF29, oR30, cF29, cR30, hx28⟩ := h27
        have hk31 := k_ls2 hk24 hx28
        have fF29 : g_fr md_X10_put F F29 := g_fr_c fF22 cF29 rfl
        have fR30 : g_fr mr_X10_put R R30 := g_fr_c fR23 cR30 rfl
        refine g_iload_n cx 1 rfl e_X10_put_89 ?_
        refine g_bipush cx 11 (by decide) e_X10_put_90 ?_
        refine g_icmp_ne cx 103 e_X10_put_92 (by decide) (fun zc32 => ?_) (fun zc32 => ?_)
        · have hk33 := hk31.trans (if_neg zc32)
          refine g_iload_n cx 1 rfl e_X10_put_103 ?_
          refine g_bipush cx 10 (by decide) e_X10_put_104 ?_
          refine g_icmp_ge cx 118 e_X10_put_106 (by decide) (fun zc34 => ?_) (fun zc34 => ?_)
          · have p35 := gn_ge 10 2147483647 (gc_le zc34) (jv_t a1) (jv_k (x := 10) 10 (by decide)) (by decide)
            have hk36 := hk33.trans (if_pos zc34)
            refine g_iload_n cx 1 rfl e_X10_put_118 ?_
            refine g_bipush cx 12 (by decide) e_X10_put_119 ?_
            have J149 : ∀ (F37 : Nat → Int32) (R38 : Nat → Nat → Int32), (g_ok LK_wX F37) → (g_fr md_X10_put F F37) → (g_okR LA_wX R38) → (g_fr mr_X10_put R R38) → (SP = K_X10_put_149 F37 R38) → G X E 4 0 0 (wX X ad F37 R38) [(0, .ref (ad 0))] 149 [] := by
              intro F37 R38 oF37 fF37 oR38 fR38 hkJ149
              unfold K_X10_put_149 at hkJ149
              refine g_aload_n cx 0 rfl e_X10_put_149 ?_
              refine g_get cx cl_X10 fl_X10_58 0 (.ref (ad 35)) e_X10_put_150 rfl rfl ?_
              refine g_getN cx cl_X7 fn_X10_206 35 (.int (F37 564)) e_X10_put_153 rfl rfl ?_
              exact hret e_X10_put_156 (Nat.le_of_ble_eq_true rfl) (Nat.le_of_ble_eq_true rfl) rfl ⟨F37, R38, rfl, oF37, oR38, fF37, fR38, (jv_t (F37 564)), (hkJ149.symm.trans hSP)⟩
            refine g_icmp_ne cx 149 e_X10_put_121 (by decide) (fun zc39 => ?_) (fun zc39 => ?_)
            · have hk40 := hk36.trans (if_neg zc39)
              refine g_lsub [0] [(0, .ref (ad 0))] rfl ?_
              exact J149 F29 R30 oF29 fF29 oR30 fR30 hk40
            · have p41 := gn_eq 12 12 (gc_eq zc39) p35 (jv_k (x := 12) 12 (by decide)) (by decide)
              have hk42 := hk36.trans (if_pos zc39)
              refine g_aload_n cx 0 rfl e_X10_put_124 ?_
              refine g_get cx cl_X10 fl_X10_70 0 (.ref (ad 47)) e_X10_put_125 rfl rfl ?_
              refine g_cVvW cx [] [] (w_X6_chooseBest l X ad F29 R30 oF29 oR30) ml_X10_199 yV_X6_chooseBest e_X10_put_128 (by unfold g_rr; decide) (by decide) 47 rfl rfl rfl (Nat.le_of_ble_eq_true rfl) (fun w44 h45 => ?_)
              obtain ⟨F47, R48, rfl, oF47, oR48, cF47, cR48, hx46⟩ := h45
              have hk49 := k_ls2 hk42 hx46
              have fF47 : g_fr md_X10_put F F47 := g_fr_c fF29 cF47 rfl
              have fR48 : g_fr mr_X10_put R R48 := g_fr_c fR30 cR48 rfl
              refine g_aload_n cx 0 rfl e_X10_put_131 ?_
              refine g_get cx cl_X10 fl_X10_70 0 (.ref (ad 47)) e_X10_put_132 rfl rfl ?_
              refine g_aload_n cx 0 rfl e_X10_put_135 ?_
              refine g_get cx cl_X10 fl_X10_10 0 (.ref (ad 1)) e_X10_put_136 rfl rfl ?_
              refine g_aload_n cx 0 rfl e_X10_put_139 ?_
              refine g_get cx cl_X10 fl_X10_58 0 (.ref (ad 35)) e_X10_put_140 rfl rfl ?_
              refine g_getN cx cl_X7 fn_X10_202 35 (.ref (ad 5)) e_X10_put_143 rfl rfl ?_
              refine g_cVvW cx [.ref (ad 1), .ref (ad 5)] [] (w_X6_change_r1_r5 l X ad F47 R48 oF47 oR48) ml_X10_203 yV_X6_change e_X10_put_146 (by unfold g_rr; decide) (by decide) 47 rfl rfl rfl (Nat.le_of_ble_eq_true rfl) (fun w51 h52 => ?_)
              obtain ⟨F54, R55, rfl, oF54, oR55, cF54, cR55, hx53⟩ := h52
              have hk56 := k_ls2 hk49 hx53
              have fF54 : g_fr md_X10_put F F54 := g_fr_c fF47 cF54 rfl
              have fR55 : g_fr mr_X10_put R R55 := g_fr_c fR48 cR55 rfl
              refine g_lsub [0] [(0, .ref (ad 0))] rfl ?_
              exact J149 F54 R55 oF54 fF54 oR55 fR55 hk56
          · have p57 := gn_lt (-2147483648) 9 (gc_nle zc34) (jv_t a1) (jv_k (x := 10) 10 (by decide)) (by decide)
            have hk58 := hk33.trans (if_neg zc34)
            refine g_aload_n cx 0 rfl e_X10_put_109 ?_
            refine g_get cx cl_X10 fl_X10_70 0 (.ref (ad 47)) e_X10_put_110 rfl rfl ?_
            refine g_iload_n cx 1 rfl e_X10_put_113 ?_
            refine g_cViW cx [.int a1] [] (w_X6_whose l X ad F29 R30 oF29 oR30 a1) ml_X10_196 yV_X6_whose e_X10_put_114 (by unfold g_rr; decide) (by decide) 47 rfl rfl rfl (Nat.le_of_ble_eq_true rfl) (fun r59 w60 h61 => ?_)
            obtain ⟨rfl, pr59, hx62⟩ := h61
            have hk63 := k_ls hk58 hx62
            exact hret e_X10_put_117 (Nat.le_of_ble_eq_true rfl) (Nat.le_of_ble_eq_true rfl) rfl ⟨F29, R30, rfl, oF29, oR30, fF29, fR30, pr59, (hk63.symm.trans hSP)⟩
        · have p64 := gn_eq 11 11 (gc_eq zc32) (jv_t a1) (jv_k (x := 11) 11 (by decide)) (by decide)
          have hk65 := hk31.trans (if_pos zc32)
          refine g_aload_n cx 0 rfl e_X10_put_95 ?_
          refine g_get cx cl_X10 fl_X10_58 0 (.ref (ad 35)) e_X10_put_96 rfl rfl ?_
          refine g_getN cx cl_X7 fn_X10_193 35 (.int (F29 565)) e_X10_put_99 rfl rfl ?_
          exact hret e_X10_put_102 (Nat.le_of_ble_eq_true rfl) (Nat.le_of_ble_eq_true rfl) rfl ⟨F29, R30, rfl, oF29, oR30, fF29, fR30, (jv_t (F29 565)), (hk65.symm.trans hSP)⟩
      refine g_if_ne cx 59 e_X10_put_43 (by decide) (fun zc66 => ?_) (fun zc66 => ?_)
      · have p67 := gn_neL 1 1 (gc_ne zc66) py5 (jv_k (x := 0) 0 (by decide)) (by decide)
        have hk68 := hk17.trans (if_neg zc66)
        refine g_lsub [1, 3] [(0, .ref (ad 0)), (2, .int a1)] rfl ?_
        exact J59  hk68
      · have p69 := gn_eq 0 0 (gc_eq zc66) py5 (jv_k (x := 0) 0 (by decide)) (by decide)
        have hk70 := hk17.trans (if_pos zc66)
        refine g_iload_n cx 3 rfl e_X10_put_46 ?_
        refine g_bipush cx 10 (by decide) e_X10_put_47 ?_
        refine g_bipush cx 12 (by decide) e_X10_put_49 ?_
        refine g_cSiW cx [.int a1, .int 10, .int 12] [] (c_X10_within l X (wX X ad F10 R11) a1 10 12) ml_X10_82 yS_X10_within rfl e_X10_put_51 (by unfold g_rr; decide) (by decide) rfl (Nat.le_of_ble_eq_true rfl) (fun r71 w72 h73 => ?_)
        obtain ⟨rfl, hr71⟩ := h73
        have pr71 : jv 0 1 r71 := by rw [hr71]; exact gi_01 _ _ _
        have hk74 := k_ls hk70 hr71
        refine g_if_ne cx 59 e_X10_put_54 (by decide) (fun zc75 => ?_) (fun zc75 => ?_)
        · have p76 := gn_neL 1 1 (gc_ne zc75) pr71 (jv_k (x := 0) 0 (by decide)) (by decide)
          have p77 := jv_i 10 12 (jv_t a1) (gi_in (A := 10) (B := 12) hr71 zc75 (by decide) (by decide)) (by decide)
          have hk78 := hk74.trans (if_neg zc75)
          refine g_lsub [1, 3] [(0, .ref (ad 0)), (2, .int a1)] rfl ?_
          exact J59  hk78
        · have p79 := gn_eq 0 0 (gc_eq zc75) pr71 (jv_k (x := 0) 0 (by decide)) (by decide)
          have hk80 := hk74.trans (if_pos zc75)
          refine g_lsub [] [] rfl ?_
          exact J57  hk80
  have J22 : (SP = K_X10_put_22 F R a0 a1) → G X E 4 0 0 (wX X ad F R) [(0, .ref (ad 0)), (1, .int a0), (2, .int a1)] 22 [] := by
    intro   hkJ22
    unfold K_X10_put_22 at hkJ22
    refine g_iconst cx 0 (by decide) e_X10_put_22 ?_
    exact J23 0 (jv_w (jv_k (x := 0) 0 (by decide)) (by decide)) hkJ22
  refine g_if_eq cx 22 e_X10_put_7 (by decide) (fun zc81 => ?_) (fun zc81 => ?_)
  · have p82 := gn_eq 0 0 (gc_eq zc81) pr1 (jv_k (x := 0) 0 (by decide)) (by decide)
    have hk83 := hk4.trans (if_pos zc81)
    exact J22  hk83
  · have p84 := gn_neL 1 1 (gc_ne zc81) pr1 (jv_k (x := 0) 0 (by decide)) (by decide)
    have p85 := jv_i 0 9 (jv_t a1) (gi_in (A := 0) (B := 9) hr1 zc81 (by decide) (by decide)) (by decide)
    have hk86 := hk4.trans (if_neg zc81)
    refine g_iload_n cx 1 rfl e_X10_put_10 ?_
    refine g_iconst cx 1 (by decide) e_X10_put_11 ?_
    refine g_iload_n cx 2 rfl e_X10_put_12 ?_
    refine g_ishl cx e_X10_put_13 ?_
    refine g_topi (fun x87 ex87 => ?_)
    have hk88 := k_ls hk86 ex87
    refine g_iand cx e_X10_put_14 ?_
    refine g_topi (fun x89 ex89 => ?_)
    have hk90 := k_ls hk88 ex89
    refine g_if_eq cx 22 e_X10_put_15 (by decide) (fun zc91 => ?_) (fun zc91 => ?_)
    · have p92 := gn_eq 0 0 (gc_eq zc91) (jv_t x89) (jv_k (x := 0) 0 (by decide)) (by decide)
      have hk93 := hk90.trans (if_pos zc91)
      exact J22  hk93
    · have hk94 := hk90.trans (if_neg zc91)
      refine g_iconst cx 1 (by decide) e_X10_put_18 ?_
      refine g_goto cx 23 e_X10_put_19 (by decide) ?_
      exact J23 1 (jv_w (jv_k (x := 1) 1 (by decide)) (by decide)) hk94
def K_X7_largestStanding_69 (b12 : (Nat → Int32) → (Nat → Nat → Int32) → (Int32) → (Int32) → Int32 × (Nat → Int32) × (Nat → Nat → Int32)) (y2 : Int32) (F17 : Nat → Int32) (R18 : Nat → Nat → Int32) (y16 : Int32) : Int32 × (Nat → Int32) × (Nat → Nat → Int32) :=
  k_lt (y2 + 1) (fun x19 => b12 F17 R18 y16 x19)
def K_X7_largestStanding_68 (b12 : (Nat → Int32) → (Nat → Nat → Int32) → (Int32) → (Int32) → Int32 × (Nat → Int32) × (Nat → Nat → Int32)) (F45 : Nat → Int32) (R46 : Nat → Nat → Int32) (y2 : Int32) (y53 : Int32) : Int32 × (Nat → Int32) × (Nat → Nat → Int32) :=
  K_X7_largestStanding_69 b12 y2 F45 R46 y53
def KB_X7_largestStanding_12 (b12 : (Nat → Int32) → (Nat → Nat → Int32) → (Int32) → (Int32) → Int32 × (Nat → Int32) × (Nat → Nat → Int32)) (F : Nat → Int32) (F3 : Nat → Int32) (R4 : Nat → Nat → Int32) (y1 : Int32) (y2 : Int32) : Int32 × (Nat → Int32) × (Nat → Nat → Int32) :=
  if 1024 ≤ y2 then k_lt (upd F3 83 (F 83)) (fun F8 => (y1, F8, R4)) else k_lt ((F 83) ^^^ (-1)) (fun x12 => k_lt (y2 &&& x12) (fun x14 => if x14 = 0 then k_lt (sp_J6_bitCount_0f7a4_s0 y2) (fun r26 => k_lt (sp_J6_bitCount_0f7a4_s0 y1) (fun r30 => if r26 ≤ r30 then K_X7_largestStanding_69 b12 y2 F3 R4 y1 else k_lt (upd F3 83 y2) (fun F39 => k_lt2 (sp_X0_run F39 R4) (fun F45 R46 => k_lt (sp_X4_allStand F45 R46) (fun r48 => if r48 = 0 then K_X7_largestStanding_68 b12 F45 R46 y2 y1 else K_X7_largestStanding_68 b12 F45 R46 y2 y2))))) else K_X7_largestStanding_69 b12 y2 F3 R4 y1))
def K_X7_largestStanding_12 (F : Nat → Int32) : Nat → (Nat → Int32) → (Nat → Nat → Int32) → (Int32) → (Int32) → Int32 × (Nat → Int32) × (Nat → Nat → Int32)
  | 0 => fun F3 R4 _ _ => (0, F3, R4)
  | n + 1 => KB_X7_largestStanding_12 (K_X7_largestStanding_12 F n) F
def sp_X7_largestStanding (F : Nat → Int32) (R : Nat → Nat → Int32) : Int32 × (Nat → Int32) × (Nat → Nat → Int32) :=
  K_X7_largestStanding_12 F 8589934592 F R 0 1
theorem e_X7_largestStanding_0 : g_dc cX7_largestStanding 0 (.aload_n 0) 1 1 := ⟨by decide +kernel, rfl⟩
theorem e_X7_largestStanding_1 : g_dc cX7_largestStanding 1 (.getfield 53) 3 4 := ⟨by decide +kernel, rfl⟩
theorem e_X7_largestStanding_4 : g_dc cX7_largestStanding 4 (.getfield 135) 3 7 := ⟨by decide +kernel, rfl⟩
theorem e_X7_largestStanding_7 : g_dc cX7_largestStanding 7 (.istore_n 1) 1 8 := ⟨by decide +kernel, rfl⟩
theorem e_X7_largestStanding_8 : g_dc cX7_largestStanding 8 (.iconst 0) 1 9 := ⟨by decide +kernel, rfl⟩
theorem e_X7_largestStanding_9 : g_dc cX7_largestStanding 9 (.istore_n 2) 1 10 := ⟨by decide +kernel, rfl⟩
theorem e_X7_largestStanding_10 : g_dc cX7_largestStanding 10 (.iconst 1) 1 11 := ⟨by decide +kernel, rfl⟩
theorem e_X7_largestStanding_11 : g_dc cX7_largestStanding 11 (.istore_n 3) 1 12 := ⟨by decide +kernel, rfl⟩
theorem e_X7_largestStanding_12 : g_dc cX7_largestStanding 12 (.iload_n 3) 1 13 := ⟨by decide +kernel, rfl⟩
theorem e_X7_largestStanding_13 : g_dc cX7_largestStanding 13 (.sipush 1024) 3 16 := ⟨by decide +kernel, rfl⟩
theorem e_X7_largestStanding_16 : g_dc cX7_largestStanding 16 (.if_icmp .ge 59) 3 19 := ⟨by decide +kernel, rfl⟩
theorem e_X7_largestStanding_19 : g_dc cX7_largestStanding 19 (.iload_n 3) 1 20 := ⟨by decide +kernel, rfl⟩
theorem e_X7_largestStanding_20 : g_dc cX7_largestStanding 20 (.iload_n 1) 1 21 := ⟨by decide +kernel, rfl⟩
theorem e_X7_largestStanding_21 : g_dc cX7_largestStanding 21 (.iconst (-1)) 1 22 := ⟨by decide +kernel, rfl⟩
theorem e_X7_largestStanding_22 : g_dc cX7_largestStanding 22 (.ixor) 1 23 := ⟨by decide +kernel, rfl⟩
theorem e_X7_largestStanding_23 : g_dc cX7_largestStanding 23 (.iand) 1 24 := ⟨by decide +kernel, rfl⟩
theorem e_X7_largestStanding_24 : g_dc cX7_largestStanding 24 (.ifCond .ne 45) 3 27 := ⟨by decide +kernel, rfl⟩
theorem e_X7_largestStanding_27 : g_dc cX7_largestStanding 27 (.iload_n 3) 1 28 := ⟨by decide +kernel, rfl⟩
theorem e_X7_largestStanding_28 : g_dc cX7_largestStanding 28 (.invokestatic 138) 3 31 := ⟨by decide +kernel, rfl⟩
theorem e_X7_largestStanding_31 : g_dc cX7_largestStanding 31 (.iload_n 2) 1 32 := ⟨by decide +kernel, rfl⟩
theorem e_X7_largestStanding_32 : g_dc cX7_largestStanding 32 (.invokestatic 138) 3 35 := ⟨by decide +kernel, rfl⟩
theorem e_X7_largestStanding_35 : g_dc cX7_largestStanding 35 (.if_icmp .le 34) 3 38 := ⟨by decide +kernel, rfl⟩
theorem e_X7_largestStanding_38 : g_dc cX7_largestStanding 38 (.aload_n 0) 1 39 := ⟨by decide +kernel, rfl⟩
theorem e_X7_largestStanding_39 : g_dc cX7_largestStanding 39 (.getfield 53) 3 42 := ⟨by decide +kernel, rfl⟩
theorem e_X7_largestStanding_42 : g_dc cX7_largestStanding 42 (.iload_n 3) 1 43 := ⟨by decide +kernel, rfl⟩
theorem e_X7_largestStanding_43 : g_dc cX7_largestStanding 43 (.putfield 135) 3 46 := ⟨by decide +kernel, rfl⟩
theorem e_X7_largestStanding_46 : g_dc cX7_largestStanding 46 (.aload_n 0) 1 47 := ⟨by decide +kernel, rfl⟩
theorem e_X7_largestStanding_47 : g_dc cX7_largestStanding 47 (.getfield 46) 3 50 := ⟨by decide +kernel, rfl⟩
theorem e_X7_largestStanding_50 : g_dc cX7_largestStanding 50 (.invokevirtual 89) 3 53 := ⟨by decide +kernel, rfl⟩
theorem e_X7_largestStanding_53 : g_dc cX7_largestStanding 53 (.aload_n 0) 1 54 := ⟨by decide +kernel, rfl⟩
theorem e_X7_largestStanding_54 : g_dc cX7_largestStanding 54 (.getfield 63) 3 57 := ⟨by decide +kernel, rfl⟩
theorem e_X7_largestStanding_57 : g_dc cX7_largestStanding 57 (.invokevirtual 92) 3 60 := ⟨by decide +kernel, rfl⟩
theorem e_X7_largestStanding_60 : g_dc cX7_largestStanding 60 (.ifCond .eq 7) 3 63 := ⟨by decide +kernel, rfl⟩
theorem e_X7_largestStanding_63 : g_dc cX7_largestStanding 63 (.iload_n 3) 1 64 := ⟨by decide +kernel, rfl⟩
theorem e_X7_largestStanding_64 : g_dc cX7_largestStanding 64 (.goto 4) 3 67 := ⟨by decide +kernel, rfl⟩
theorem e_X7_largestStanding_67 : g_dc cX7_largestStanding 67 (.iload_n 2) 1 68 := ⟨by decide +kernel, rfl⟩
theorem e_X7_largestStanding_68 : g_dc cX7_largestStanding 68 (.istore_n 2) 1 69 := ⟨by decide +kernel, rfl⟩
theorem e_X7_largestStanding_69 : g_dc cX7_largestStanding 69 (.iinc 3 1) 3 72 := ⟨by decide +kernel, rfl⟩
theorem e_X7_largestStanding_72 : g_dc cX7_largestStanding 72 (.goto (-60)) 3 75 := ⟨by decide +kernel, rfl⟩
theorem e_X7_largestStanding_75 : g_dc cX7_largestStanding 75 (.aload_n 0) 1 76 := ⟨by decide +kernel, rfl⟩
theorem e_X7_largestStanding_76 : g_dc cX7_largestStanding 76 (.getfield 53) 3 79 := ⟨by decide +kernel, rfl⟩
theorem e_X7_largestStanding_79 : g_dc cX7_largestStanding 79 (.iload_n 1) 1 80 := ⟨by decide +kernel, rfl⟩
theorem e_X7_largestStanding_80 : g_dc cX7_largestStanding 80 (.putfield 135) 3 83 := ⟨by decide +kernel, rfl⟩
theorem e_X7_largestStanding_83 : g_dc cX7_largestStanding 83 (.iload_n 2) 1 84 := ⟨by decide +kernel, rfl⟩
theorem e_X7_largestStanding_84 : g_dc cX7_largestStanding 84 (.ireturn) 1 85 := ⟨by decide +kernel, rfl⟩
def md_X7_largestStanding : List Nat := [83, 601, 602, 603, 604, 605, 606, 673, 675, 691, 692, 693, 694, 695, 696, 697, 698]
def mr_X7_largestStanding : List Nat := [23, 24, 38, 39, 40, 41, 44, 45, 46]
set_option maxHeartbeats 4000000 in
set_option maxRecDepth 100000 in
theorem w_X7_largestStanding (l : Launch) (X : gX) (ad : Nat → Nat) (F : Nat → Int32) (R : Nat → Nat → Int32) (hI : g_ok LK_wX F) (hA : g_okR LA_wX R) : g_Ci l X yX7_largestStanding cX7_largestStanding 4 (some .int) 7 0 0 [.ref (ad 35)] (wX X ad F R) (fun r w => ∃ (F' : Nat → Int32) (R' : Nat → Nat → Int32), w = wX X ad F' R' ∧ g_ok LK_wX F' ∧ g_okR LA_wX R' ∧ g_fr md_X7_largestStanding F F' ∧ g_fr mr_X7_largestStanding R R' ∧ jv 0 1023 r ∧ (r, F', R') = sp_X7_largestStanding F R) := by
  refine g_mi (by decide +kernel) (Nat.le_of_ble_eq_true rfl) (fun E cx hret => ?_)
  obtain ⟨SP, hSP⟩ : ∃ z, z = sp_X7_largestStanding F R := ⟨_, rfl⟩
  have hk0 := hSP
  unfold sp_X7_largestStanding at hk0
  refine g_aload_n cx 0 rfl e_X7_largestStanding_0 ?_
  refine g_get cx cl_X7 fl_X7_53 35 (.ref (ad 5)) e_X7_largestStanding_1 rfl rfl ?_
  refine g_getN cx cl_X8 fn_X7_135 5 (.int (F 83)) e_X7_largestStanding_4 rfl rfl ?_
  refine g_istore_n cx [(1, .int (F 83)), (0, .ref (ad 35))] e_X7_largestStanding_7 (by decide) rfl ?_
  refine g_iconst cx 0 (by decide) e_X7_largestStanding_8 ?_
  refine g_istore_n cx [(2, .int 0), (1, .int (F 83)), (0, .ref (ad 35))] e_X7_largestStanding_9 (by decide) rfl ?_
  refine g_iconst cx 1 (by decide) e_X7_largestStanding_10 ?_
  refine g_istore_n cx [(3, .int 1), (2, .int 0), (1, .int (F 83)), (0, .ref (ad 35))] e_X7_largestStanding_11 (by decide) rfl ?_
  have J12 : ∀ (N : Nat) (F3 : Nat → Int32) (R4 : Nat → Nat → Int32) (y1 : Int32) (y2 : Int32), (g_ok LK_wX F3) → (g_fr md_X7_largestStanding F F3) → (g_okR LA_wX R4) → (g_fr mr_X7_largestStanding R R4) → (jv 0 1023 y1) → (jv 1 1024 y2) → (SP = K_X7_largestStanding_12 F N F3 R4 y1 y2) → (2147483647 - y2.toInt).toNat < N → G X E 4 0 0 (wX X ad F3 R4) [(0, .ref (ad 35)), (1, .int (F 83)), (2, .int y1), (3, .int y2)] 12 [] := by
    intro N
    induction N with
    | zero => intro F3 R4 y1 y2 oF3 fF3 oR4 fR4 py1 py2 hkJ12 hm; exact absurd hm (Nat.not_lt_zero _)
    | succ N ih12 =>
      intro F3 R4 y1 y2 oF3 fF3 oR4 fR4 py1 py2 hkJ12 hm12
      have hkK12 : SP = KB_X7_largestStanding_12 (K_X7_largestStanding_12 F N) F F3 R4 y1 y2 := hkJ12
      obtain ⟨b12, hb12⟩ : ∃ z, z = K_X7_largestStanding_12 F N := ⟨_, rfl⟩
      rw [← hb12] at hkK12
      unfold KB_X7_largestStanding_12 at hkK12
      refine g_iload_n cx 3 rfl e_X7_largestStanding_12 ?_
      refine g_sipush cx 1024 (by decide) e_X7_largestStanding_13 ?_
      refine g_icmp_ge cx 75 e_X7_largestStanding_16 (by decide) (fun zc5 => ?_) (fun zc5 => ?_)
      · have p6 := gn_ge 1024 1024 (gc_le zc5) py2 (jv_k (x := 1024) 1024 (by decide)) (by decide)
        have hk7 := hkK12.trans (if_pos zc5)
        refine g_aload_n cx 0 rfl e_X7_largestStanding_75 ?_
        refine g_get cx cl_X7 fl_X7_53 35 (.ref (ad 5)) e_X7_largestStanding_76 rfl rfl ?_
        refine g_iload_n cx 1 rfl e_X7_largestStanding_79 ?_
        refine g_putN cx cl_X8 fn_X7_135 5 (wX X ad (upd F3 83 (F 83)) R4) e_X7_largestStanding_80 rfl rfl rfl rfl (Nat.le_of_ble_eq_true rfl) rfl ?_
        obtain ⟨F8, hF8⟩ : ∃ z, z = upd F3 83 (F 83) := ⟨_, rfl⟩
        rw [← hF8]
        have hk9 := k_ls hk7 hF8
        have oF8 : g_ok LK_wX F8 := by rw [hF8]; exact g_ok_u oF3 rfl
        have fF8 : g_fr md_X7_largestStanding F F8 := by rw [hF8]; exact g_fr_u fF3 rfl
        refine g_iload_n cx 2 rfl e_X7_largestStanding_83 ?_
        exact hret e_X7_largestStanding_84 (Nat.le_of_ble_eq_true rfl) (Nat.le_of_ble_eq_true rfl) rfl ⟨F8, R4, rfl, oF8, oR4, fF8, fR4, py1, (hk9.symm.trans hSP)⟩
      · have p10 := gn_lt 1 1023 (gc_nle zc5) py2 (jv_k (x := 1024) 1024 (by decide)) (by decide)
        have hk11 := hkK12.trans (if_neg zc5)
        refine g_iload_n cx 3 rfl e_X7_largestStanding_19 ?_
        refine g_iload_n cx 1 rfl e_X7_largestStanding_20 ?_
        refine g_iconst cx (-1) (by decide) e_X7_largestStanding_21 ?_
        refine g_ixor cx e_X7_largestStanding_22 ?_
        refine g_topi (fun x12 ex12 => ?_)
        have hk13 := k_ls hk11 ex12
        refine g_iand cx e_X7_largestStanding_23 ?_
        refine g_topi (fun x14 ex14 => ?_)
        have hk15 := k_ls hk13 ex14
        have px14 := jv_andL 0 1023 ex14 p10 (by decide)
        have J69 : ∀ (F17 : Nat → Int32) (R18 : Nat → Nat → Int32) (y16 : Int32), (g_ok LK_wX F17) → (g_fr md_X7_largestStanding F F17) → (g_okR LA_wX R18) → (g_fr mr_X7_largestStanding R R18) → (jv 0 1023 y16) → (SP = K_X7_largestStanding_69 b12 y2 F17 R18 y16) → G X E 4 0 0 (wX X ad F17 R18) [(0, .ref (ad 35)), (1, .int (F 83)), (2, .int y16), (3, .int y2)] 69 [] := by
          intro F17 R18 y16 oF17 fF17 oR18 fR18 py16 hkJ69
          unfold K_X7_largestStanding_69 at hkJ69
          obtain ⟨x19, ex19⟩ : ∃ z : Int32, z = y2 + Int32.ofInt 1 := ⟨_, rfl⟩
          have hk20 := k_ls hkJ69 (show x19 = y2 + 1 from ex19)
          refine g_iinc cx x19 [(3, .int x19), (0, .ref (ad 35)), (1, .int (F 83)), (2, .int y16)] 3 e_X7_largestStanding_69 rfl ex19.symm (by decide) rfl ?_
          have zx19 := jv_add 2 1024 (show x19 = y2 + 1 from ex19) p10 (jv_k (x := 1) 1 (by decide)) (by decide)
          refine g_goto cx 12 e_X7_largestStanding_72 (by decide) ?_
          refine g_lsub [1, 2, 3, 0] [(0, .ref (ad 35)), (1, .int (F 83)), (2, .int y16), (3, .int x19)] rfl ?_
          exact ih12 F17 R18 y16 x19 oF17 fF17 oR18 fR18 py16 (jv_w zx19.2 (by decide)) (hk20.trans (by rw [hb12])) (Nat.lt_of_lt_of_le (show (2147483647 - x19.toInt).toNat < (2147483647 - y2.toInt).toNat from by have q0 := (jv_k (x := 1) 1 (by decide)).1; have q1 := (jv_k (x := 1) 1 (by decide)).2; have q2 := (jv_k (x := 1024) 1024 (by decide)).1; have q3 := (jv_k (x := 1024) 1024 (by decide)).2; have q4 := zx19.2.1; have q5 := zx19.2.2; have q6 := p10.1; have q7 := p10.2; have q8 := (gc_nle zc5); have q9 := (g_eq0 zx19.1); omega) (Nat.le_of_lt_succ hm12))
        refine g_if_ne cx 69 e_X7_largestStanding_24 (by decide) (fun zc21 => ?_) (fun zc21 => ?_)
        · have p22 := gn_neL 1 1023 (gc_ne zc21) px14 (jv_k (x := 0) 0 (by decide)) (by decide)
          have hk23 := hk15.trans (if_neg zc21)
          exact J69 F3 R4 y1 oF3 fF3 oR4 fR4 py1 hk23
        · have p24 := gn_eq 0 0 (gc_eq zc21) px14 (jv_k (x := 0) 0 (by decide)) (by decide)
          have hk25 := hk15.trans (if_pos zc21)
          refine g_iload_n cx 3 rfl e_X7_largestStanding_27 ?_
          refine g_cOiW cx [.int y2] [] (w_J6_bitCount_0f7a4_s0 l X (wX X ad F3 R4) y2) ml_X7_138 yS_J6_bitCount_0f7a4 e_X7_largestStanding_28 (by unfold g_rr; decide) (by decide) rfl (Nat.le_of_ble_eq_true rfl) (fun r26 w27 h28 => ?_)
          obtain ⟨rfl, pr26, hr26⟩ := h28
          have hk29 := k_ls hk25 hr26
          refine g_iload_n cx 2 rfl e_X7_largestStanding_31 ?_
          refine g_cOiW cx [.int y1] [.int r26] (w_J6_bitCount_0f7a4_s0 l X (wX X ad F3 R4) y1) ml_X7_138 yS_J6_bitCount_0f7a4 e_X7_largestStanding_32 (by unfold g_rr; decide) (by decide) rfl (Nat.le_of_ble_eq_true rfl) (fun r30 w31 h32 => ?_)
          obtain ⟨rfl, pr30, hr30⟩ := h32
          have hk33 := k_ls hk29 hr30
          refine g_icmp_le cx 69 e_X7_largestStanding_35 (by decide) (fun zc34 => ?_) (fun zc34 => ?_)
          · have hk35 := hk33.trans (if_pos zc34)
            exact J69 F3 R4 y1 oF3 fF3 oR4 fR4 py1 hk35
          · have p36 := gn_lt 0 62 (gc_nle zc34) pr30 pr26 (by decide)
            have p37 := gn_gt 1 63 (gc_nle zc34) pr26 pr30 (by decide)
            have hk38 := hk33.trans (if_neg zc34)
            refine g_aload_n cx 0 rfl e_X7_largestStanding_38 ?_
            refine g_get cx cl_X7 fl_X7_53 35 (.ref (ad 5)) e_X7_largestStanding_39 rfl rfl ?_
            refine g_iload_n cx 3 rfl e_X7_largestStanding_42 ?_
            refine g_putN cx cl_X8 fn_X7_135 5 (wX X ad (upd F3 83 y2) R4) e_X7_largestStanding_43 rfl rfl rfl rfl (Nat.le_of_ble_eq_true rfl) rfl ?_
            obtain ⟨F39, hF39⟩ : ∃ z, z = upd F3 83 y2 := ⟨_, rfl⟩
            rw [← hF39]
            have hk40 := k_ls hk38 hF39
            have oF39 : g_ok LK_wX F39 := by rw [hF39]; exact g_ok_u oF3 rfl
            have fF39 : g_fr md_X7_largestStanding F F39 := by rw [hF39]; exact g_fr_u fF3 rfl
            refine g_aload_n cx 0 rfl e_X7_largestStanding_46 ?_
            refine g_get cx cl_X7 fl_X7_46 35 (.ref (ad 37)) e_X7_largestStanding_47 rfl rfl ?_
            refine g_cVvW cx [] [] (w_X0_run l X ad F39 R4 oF39 oR4) ml_X7_89 yV_X0_run e_X7_largestStanding_50 (by unfold g_rr; decide) (by decide) 37 rfl rfl rfl (Nat.le_of_ble_eq_true rfl) (fun w42 h43 => ?_)
            obtain ⟨F45, R46, rfl, oF45, oR46, cF45, cR46, hx44⟩ := h43
            have hk47 := k_ls2 hk40 hx44
            have fF45 : g_fr md_X7_largestStanding F F45 := g_fr_c fF39 cF45 rfl
            have fR46 : g_fr mr_X7_largestStanding R R46 := g_fr_c fR4 cR46 rfl
            refine g_aload_n cx 0 rfl e_X7_largestStanding_53 ?_
            refine g_get cx cl_X7 fl_X7_63 35 (.ref (ad 43)) e_X7_largestStanding_54 rfl rfl ?_
            refine g_cViW cx [] [] (w_X4_allStand l X ad F45 R46 oF45 oR46) ml_X7_92 yV_X4_allStand e_X7_largestStanding_57 (by unfold g_rr; decide) (by decide) 43 rfl rfl rfl (Nat.le_of_ble_eq_true rfl) (fun r48 w49 h50 => ?_)
            obtain ⟨rfl, pr48, hx51⟩ := h50
            have hk52 := k_ls hk47 hx51
            have J68 : ∀ (y53 : Int32), (jv 0 1023 y53) → (SP = K_X7_largestStanding_68 b12 F45 R46 y2 y53) → G X E 4 0 0 (wX X ad F45 R46) [(0, .ref (ad 35)), (1, .int (F 83)), (3, .int y2)] 68 [.int y53] := by
              intro y53 py53 hkJ68
              unfold K_X7_largestStanding_68 at hkJ68
              refine g_istore_n cx [(2, .int y53), (0, .ref (ad 35)), (1, .int (F 83)), (3, .int y2)] e_X7_largestStanding_68 (by decide) rfl ?_
              refine g_lsub [1, 2, 0, 3] [(0, .ref (ad 35)), (1, .int (F 83)), (2, .int y53), (3, .int y2)] rfl ?_
              exact J69 F45 R46 y53 oF45 fF45 oR46 fR46 py53 hkJ68
            refine g_if_eq cx 67 e_X7_largestStanding_60 (by decide) (fun zc54 => ?_) (fun zc54 => ?_)
            · have p55 := gn_eq 0 0 (gc_eq zc54) pr48 (jv_k (x := 0) 0 (by decide)) (by decide)
              have hk56 := hk52.trans (if_pos zc54)
              refine g_iload_n cx 2 rfl e_X7_largestStanding_67 ?_
              refine g_lsub [0, 1, 3] [(0, .ref (ad 35)), (1, .int (F 83)), (3, .int y2)] rfl ?_
              exact J68 y1 py1 hk56
            · have p57 := gn_neL 1 1 (gc_ne zc54) pr48 (jv_k (x := 0) 0 (by decide)) (by decide)
              have hk58 := hk52.trans (if_neg zc54)
              refine g_iload_n cx 3 rfl e_X7_largestStanding_63 ?_
              refine g_goto cx 68 e_X7_largestStanding_64 (by decide) ?_
              refine g_lsub [0, 1, 3] [(0, .ref (ad 35)), (1, .int (F 83)), (3, .int y2)] rfl ?_
              exact J68 y2 (jv_w p10 (by decide)) hk58
  refine g_lsub [3, 2, 1, 0] [(0, .ref (ad 35)), (1, .int (F 83)), (2, .int 0), (3, .int 1)] rfl ?_
  exact J12 8589934592 F R 0 1 hI (g_fr_rf F) hA (g_fr_rf R) (jv_w (jv_k (x := 0) 0 (by decide)) (by decide)) (jv_w (jv_k (x := 1) 1 (by decide)) (by decide)) hk0 (show (2147483647 - (1 : Int32).toInt).toNat < 8589934592 from by have q0 := (jv_k (x := 1) 1 (by decide)).1; have q1 := (jv_k (x := 1) 1 (by decide)).2; omega)
def K_X10_most_46 (F20 : Nat → Int32) (R21 : Nat → Nat → Int32) (y23 : Int32) : Int32 × (Nat → Int32) × (Nat → Nat → Int32) :=
  (y23, F20, R21)
def sp_X10_most (F : Nat → Int32) (R : Nat → Nat → Int32) (a0 : Int32) : Int32 × (Nat → Int32) × (Nat → Nat → Int32) :=
  k_lt (g_in a0 0 1) (fun r1 => if r1 = 0 then ((-1), F, R) else k_lt2 (sp_X7_lay_r1_r11 F R) (fun F13 R14 => k_lt3 (sp_X7_largestStanding F13 R14) (fun r16 F20 R21 => if a0 = 0 then k_lt (sp_J6_bitCount_0f7a4_s0 r16) (fun r29 => K_X10_most_46 F20 R21 r29) else K_X10_most_46 F20 R21 r16)))
theorem e_X10_most_0 : g_dc cX10_most 0 (.iload_n 1) 1 1 := ⟨by decide +kernel, rfl⟩
theorem e_X10_most_1 : g_dc cX10_most 1 (.iconst 0) 1 2 := ⟨by decide +kernel, rfl⟩
theorem e_X10_most_2 : g_dc cX10_most 2 (.iconst 1) 1 3 := ⟨by decide +kernel, rfl⟩
theorem e_X10_most_3 : g_dc cX10_most 3 (.invokestatic 82) 3 6 := ⟨by decide +kernel, rfl⟩
theorem e_X10_most_6 : g_dc cX10_most 6 (.ifCond .ne 5) 3 9 := ⟨by decide +kernel, rfl⟩
theorem e_X10_most_9 : g_dc cX10_most 9 (.iconst (-1)) 1 10 := ⟨by decide +kernel, rfl⟩
theorem e_X10_most_10 : g_dc cX10_most 10 (.ireturn) 1 11 := ⟨by decide +kernel, rfl⟩
theorem e_X10_most_11 : g_dc cX10_most 11 (.aload_n 0) 1 12 := ⟨by decide +kernel, rfl⟩
theorem e_X10_most_12 : g_dc cX10_most 12 (.getfield 58) 3 15 := ⟨by decide +kernel, rfl⟩
theorem e_X10_most_15 : g_dc cX10_most 15 (.aload_n 0) 1 16 := ⟨by decide +kernel, rfl⟩
theorem e_X10_most_16 : g_dc cX10_most 16 (.getfield 10) 3 19 := ⟨by decide +kernel, rfl⟩
theorem e_X10_most_19 : g_dc cX10_most 19 (.aload_n 0) 1 20 := ⟨by decide +kernel, rfl⟩
theorem e_X10_most_20 : g_dc cX10_most 20 (.getfield 29) 3 23 := ⟨by decide +kernel, rfl⟩
theorem e_X10_most_23 : g_dc cX10_most 23 (.invokevirtual 148) 3 26 := ⟨by decide +kernel, rfl⟩
theorem e_X10_most_26 : g_dc cX10_most 26 (.aload_n 0) 1 27 := ⟨by decide +kernel, rfl⟩
theorem e_X10_most_27 : g_dc cX10_most 27 (.getfield 58) 3 30 := ⟨by decide +kernel, rfl⟩
theorem e_X10_most_30 : g_dc cX10_most 30 (.invokevirtual 208) 3 33 := ⟨by decide +kernel, rfl⟩
theorem e_X10_most_33 : g_dc cX10_most 33 (.istore_n 2) 1 34 := ⟨by decide +kernel, rfl⟩
theorem e_X10_most_34 : g_dc cX10_most 34 (.iload_n 1) 1 35 := ⟨by decide +kernel, rfl⟩
theorem e_X10_most_35 : g_dc cX10_most 35 (.ifCond .ne 10) 3 38 := ⟨by decide +kernel, rfl⟩
theorem e_X10_most_38 : g_dc cX10_most 38 (.iload_n 2) 1 39 := ⟨by decide +kernel, rfl⟩
theorem e_X10_most_39 : g_dc cX10_most 39 (.invokestatic 211) 3 42 := ⟨by decide +kernel, rfl⟩
theorem e_X10_most_42 : g_dc cX10_most 42 (.goto 4) 3 45 := ⟨by decide +kernel, rfl⟩
theorem e_X10_most_45 : g_dc cX10_most 45 (.iload_n 2) 1 46 := ⟨by decide +kernel, rfl⟩
theorem e_X10_most_46 : g_dc cX10_most 46 (.ireturn) 1 47 := ⟨by decide +kernel, rfl⟩
def md_X10_most : List Nat := [80, 81, 82, 83, 84, 241, 601, 602, 603, 604, 605, 606, 672, 673, 674, 675, 691, 692, 693, 694, 695, 696, 697, 698]
def mr_X10_most : List Nat := [6, 16, 23, 24, 38, 39, 40, 41, 44, 45, 46]
set_option maxHeartbeats 4000000 in
set_option maxRecDepth 100000 in
theorem w_X10_most (l : Launch) (X : gX) (ad : Nat → Nat) (F : Nat → Int32) (R : Nat → Nat → Int32) (hI : g_ok LK_wX F) (hA : g_okR LA_wX R) (a0 : Int32) : g_Ci l X yX10_most cX10_most 3 (some .int) 8 0 0 [.ref (ad 0), .int a0] (wX X ad F R) (fun r w => ∃ (F' : Nat → Int32) (R' : Nat → Nat → Int32), w = wX X ad F' R' ∧ g_ok LK_wX F' ∧ g_okR LA_wX R' ∧ g_fr md_X10_most F F' ∧ g_fr mr_X10_most R R' ∧ jv (-1) 1023 r ∧ (r, F', R') = sp_X10_most F R a0) := by
  refine g_mi (by decide +kernel) (Nat.le_of_ble_eq_true rfl) (fun E cx hret => ?_)
  obtain ⟨SP, hSP⟩ : ∃ z, z = sp_X10_most F R a0 := ⟨_, rfl⟩
  have hk0 := hSP
  unfold sp_X10_most at hk0
  refine g_iload_n cx 1 rfl e_X10_most_0 ?_
  refine g_iconst cx 0 (by decide) e_X10_most_1 ?_
  refine g_iconst cx 1 (by decide) e_X10_most_2 ?_
  refine g_cSiW cx [.int a0, .int 0, .int 1] [] (c_X10_within l X (wX X ad F R) a0 0 1) ml_X10_82 yS_X10_within rfl e_X10_most_3 (by unfold g_rr; decide) (by decide) rfl (Nat.le_of_ble_eq_true rfl) (fun r1 w2 h3 => ?_)
  obtain ⟨rfl, hr1⟩ := h3
  have pr1 : jv 0 1 r1 := by rw [hr1]; exact gi_01 _ _ _
  have hk4 := k_ls hk0 hr1
  refine g_if_ne cx 11 e_X10_most_6 (by decide) (fun zc5 => ?_) (fun zc5 => ?_)
  · have p6 := gn_neL 1 1 (gc_ne zc5) pr1 (jv_k (x := 0) 0 (by decide)) (by decide)
    have p7 := jv_i 0 1 (jv_t a0) (gi_in (A := 0) (B := 1) hr1 zc5 (by decide) (by decide)) (by decide)
    have hk8 := hk4.trans (if_neg zc5)
    refine g_aload_n cx 0 rfl e_X10_most_11 ?_
    refine g_get cx cl_X10 fl_X10_58 0 (.ref (ad 35)) e_X10_most_12 rfl rfl ?_
    refine g_aload_n cx 0 rfl e_X10_most_15 ?_
    refine g_get cx cl_X10 fl_X10_10 0 (.ref (ad 1)) e_X10_most_16 rfl rfl ?_
    refine g_aload_n cx 0 rfl e_X10_most_19 ?_
    refine g_get cx cl_X10 fl_X10_29 0 (.ref (ad 11)) e_X10_most_20 rfl rfl ?_
    refine g_cVvW cx [.ref (ad 1), .ref (ad 11)] [] (w_X7_lay_r1_r11 l X ad F R hI hA) ml_X10_148 yV_X7_lay e_X10_most_23 (by unfold g_rr; decide) (by decide) 35 rfl rfl rfl (Nat.le_of_ble_eq_true rfl) (fun w10 h11 => ?_)
    obtain ⟨F13, R14, rfl, oF13, oR14, cF13, cR14, hx12⟩ := h11
    have hk15 := k_ls2 hk8 hx12
    have fF13 : g_fr md_X10_most F F13 := g_fr_c (g_fr_rf F) cF13 rfl
    have fR14 : g_fr mr_X10_most R R14 := g_fr_c (g_fr_rf R) cR14 rfl
    refine g_aload_n cx 0 rfl e_X10_most_26 ?_
    refine g_get cx cl_X10 fl_X10_58 0 (.ref (ad 35)) e_X10_most_27 rfl rfl ?_
    refine g_cViW cx [] [] (w_X7_largestStanding l X ad F13 R14 oF13 oR14) ml_X10_208 yV_X7_largestStanding e_X10_most_30 (by unfold g_rr; decide) (by decide) 35 rfl rfl rfl (Nat.le_of_ble_eq_true rfl) (fun r16 w17 h18 => ?_)
    obtain ⟨F20, R21, rfl, oF20, oR21, cF20, cR21, pr16, hx19⟩ := h18
    have hk22 := k_ls3 hk15 hx19
    have fF20 : g_fr md_X10_most F F20 := g_fr_c fF13 cF20 rfl
    have fR21 : g_fr mr_X10_most R R21 := g_fr_c fR14 cR21 rfl
    refine g_istore_n cx [(2, .int r16), (0, .ref (ad 0)), (1, .int a0)] e_X10_most_33 (by decide) rfl ?_
    refine g_iload_n cx 2 rfl e_X10_most_34 ?_
    have J46 : ∀ (y23 : Int32), (jv 0 1023 y23) → (SP = K_X10_most_46 F20 R21 y23) → G X E 3 0 0 (wX X ad F20 R21) [] 46 [.int y23] := by
      intro y23 py23 hkJ46
      unfold K_X10_most_46 at hkJ46
      exact hret e_X10_most_46 (Nat.le_of_ble_eq_true rfl) (Nat.le_of_ble_eq_true rfl) rfl ⟨F20, R21, rfl, oF20, oR21, fF20, fR21, (jv_w py23 (by decide)), (hkJ46.symm.trans hSP)⟩
    refine g_if_ne cx 45 e_X10_most_35 (by decide) (fun zc24 => ?_) (fun zc24 => ?_)
    · have p25 := gn_neL 1 1 (gc_ne zc24) p7 (jv_k (x := 0) 0 (by decide)) (by decide)
      have hk26 := hk22.trans (if_neg zc24)
      refine g_iload_n cx 0 rfl e_X10_most_45 ?_
      refine g_lsub [] [] rfl ?_
      exact J46 r16 pr16 hk26
    · have p27 := gn_eq 0 0 (gc_eq zc24) p7 (jv_k (x := 0) 0 (by decide)) (by decide)
      have hk28 := hk22.trans (if_pos zc24)
      refine g_iload_n cx 0 rfl e_X10_most_38 ?_
      refine g_cOiW cx [.int r16] [] (w_J6_bitCount_0f7a4_s0 l X (wX X ad F20 R21) r16) ml_X10_211 yS_J6_bitCount_0f7a4 e_X10_most_39 (by unfold g_rr; decide) (by decide) rfl (Nat.le_of_ble_eq_true rfl) (fun r29 w30 h31 => ?_)
      obtain ⟨rfl, pr29, hr29⟩ := h31
      have hk32 := k_ls hk28 hr29
      refine g_goto cx 46 e_X10_most_42 (by decide) ?_
      refine g_lsub [] [] rfl ?_
      exact J46 r29 (jv_w pr29 (by decide)) hk32
  · have p33 := gn_eq 0 0 (gc_eq zc5) pr1 (jv_k (x := 0) 0 (by decide)) (by decide)
    have hk34 := hk4.trans (if_pos zc5)
    refine g_iconst cx (-1) (by decide) e_X10_most_9 ?_
    exact hret e_X10_most_10 (Nat.le_of_ble_eq_true rfl) (Nat.le_of_ble_eq_true rfl) rfl ⟨F, R, rfl, hI, hA, (g_fr_rf F), (g_fr_rf R), (jv_w (jv_k (x := (-1)) (-1) (by decide)) (by decide)), (hk34.symm.trans hSP)⟩
def sp_X8_foldPlace_1 (F : Nat → Int32) (R : Nat → Nat → Int32) (a0 : Int32) : Int32 :=
  k_lt (a0 * (F 16)) (fun x1 => k_lt (x1 / 6) (fun x3 => x3))
set_option maxHeartbeats 4000000 in
set_option maxRecDepth 100000 in
theorem w_X8_foldPlace_1 (l : Launch) (X : gX) (ad : Nat → Nat) (F : Nat → Int32) (R : Nat → Nat → Int32) (hI : g_ok LK_wX F) (hA : g_okR LA_wX R) (a0 : Int32) : g_Ci l X yX8_foldPlace cX8_foldPlace 2 (some .int) 1 0 0 [.ref (ad 1), .int a0] (wX X ad F R) (fun r w => w = wX X ad F R ∧ jv (-2147483648) 2147483647 r ∧ r = sp_X8_foldPlace_1 F R a0) := by
  refine g_mi (by decide +kernel) (Nat.le_of_ble_eq_true rfl) (fun E cx hret => ?_)
  obtain ⟨SP, hSP⟩ : ∃ z, z = sp_X8_foldPlace_1 F R a0 := ⟨_, rfl⟩
  have hk0 := hSP
  unfold sp_X8_foldPlace_1 at hk0
  refine g_iload_n cx 1 rfl e_X8_foldPlace_0 ?_
  refine g_aload_n cx 0 rfl e_X8_foldPlace_1 ?_
  refine g_get cx cl_X8 fl_X8_9 1 (.int (F 16)) e_X8_foldPlace_2 rfl rfl ?_
  refine g_imul cx e_X8_foldPlace_5 ?_
  refine g_topi (fun x1 ex1 => ?_)
  have hk2 := k_ls hk0 ex1
  refine g_bipush cx 6 (by decide) e_X8_foldPlace_6 ?_
  refine g_idiv cx (by decide) e_X8_foldPlace_8 ?_
  refine g_topi (fun x3 ex3 => ?_)
  have hk4 := k_ls hk2 ex3
  exact hret e_X8_foldPlace_9 (Nat.le_of_ble_eq_true rfl) (Nat.le_of_ble_eq_true rfl) rfl ⟨rfl, (jv_t x3), (hk4.symm.trans hSP)⟩
def K_X8_hasFold_1_37  (y5 : Int32) : Int32 :=
  y5
def K_X8_hasFold_1_36   : Int32 :=
  K_X8_hasFold_1_37 0
def sp_X8_hasFold_1 (F : Nat → Int32) (R : Nat → Nat → Int32) (a0 : Int32) : Int32 :=
  k_lt (g_in a0 0 5) (fun r1 => if r1 = 0 then K_X8_hasFold_1_36 else k_lt (1 <<< (a0 &&& 31)) (fun x12 => k_lt ((F 18) &&& x12) (fun x14 => if x14 = 0 then K_X8_hasFold_1_36 else k_lt (sp_X8_foldPlace_1 F R a0) (fun r20 => if (F 17) ≤ r20 then K_X8_hasFold_1_36 else K_X8_hasFold_1_37 1))))
set_option maxHeartbeats 4000000 in
set_option maxRecDepth 100000 in
theorem w_X8_hasFold_1 (l : Launch) (X : gX) (ad : Nat → Nat) (F : Nat → Int32) (R : Nat → Nat → Int32) (hI : g_ok LK_wX F) (hA : g_okR LA_wX R) (a0 : Int32) : g_Ci l X yX8_hasFold cX8_hasFold 2 (some .boolean) 2 0 0 [.ref (ad 1), .int a0] (wX X ad F R) (fun r w => w = wX X ad F R ∧ jv 0 1 r ∧ r = sp_X8_hasFold_1 F R a0) := by
  refine g_mi (by decide +kernel) (Nat.le_of_ble_eq_true rfl) (fun E cx hret => ?_)
  obtain ⟨SP, hSP⟩ : ∃ z, z = sp_X8_hasFold_1 F R a0 := ⟨_, rfl⟩
  have hk0 := hSP
  unfold sp_X8_hasFold_1 at hk0
  refine g_iload_n cx 1 rfl e_X8_hasFold_0 ?_
  refine g_iconst cx 0 (by decide) e_X8_hasFold_1 ?_
  refine g_iconst cx 5 (by decide) e_X8_hasFold_2 ?_
  refine g_cNiW cx [.int a0, .int 0, .int 5] [] (c_X10_within l X (wX X ad F R) a0 0 5) mn_X8_31 yS_X10_within e_X8_hasFold_3 (by unfold g_rr; decide) (by decide) rfl (Nat.le_of_ble_eq_true rfl) (fun r1 w2 h3 => ?_)
  obtain ⟨rfl, hr1⟩ := h3
  have pr1 : jv 0 1 r1 := by rw [hr1]; exact gi_01 _ _ _
  have hk4 := k_ls hk0 hr1
  have J37 : ∀ (y5 : Int32), (jv 0 1 y5) → (SP = K_X8_hasFold_1_37 y5) → G X E 2 0 0 (wX X ad F R) [] 37 [.int y5] := by
    intro y5 py5 hkJ37
    unfold K_X8_hasFold_1_37 at hkJ37
    exact hret e_X8_hasFold_37 (Nat.le_of_ble_eq_true rfl) (Nat.le_of_ble_eq_true rfl) (g_narb py5) ⟨rfl, py5, (hkJ37.symm.trans hSP)⟩
  have J36 : (SP = K_X8_hasFold_1_36) → G X E 2 0 0 (wX X ad F R) [] 36 [] := by
    intro   hkJ36
    unfold K_X8_hasFold_1_36 at hkJ36
    refine g_iconst cx 0 (by decide) e_X8_hasFold_36 ?_
    exact J37 0 (jv_w (jv_k (x := 0) 0 (by decide)) (by decide)) hkJ36
  refine g_if_eq cx 36 e_X8_hasFold_6 (by decide) (fun zc6 => ?_) (fun zc6 => ?_)
  · have p7 := gn_eq 0 0 (gc_eq zc6) pr1 (jv_k (x := 0) 0 (by decide)) (by decide)
    have hk8 := hk4.trans (if_pos zc6)
    refine g_lsub [] [] rfl ?_
    exact J36  hk8
  · have p9 := gn_neL 1 1 (gc_ne zc6) pr1 (jv_k (x := 0) 0 (by decide)) (by decide)
    have p10 := jv_i 0 5 (jv_t a0) (gi_in (A := 0) (B := 5) hr1 zc6 (by decide) (by decide)) (by decide)
    have hk11 := hk4.trans (if_neg zc6)
    refine g_aload_n cx 0 rfl e_X8_hasFold_9 ?_
    refine g_get cx cl_X8 fl_X8_18 1 (.int (F 18)) e_X8_hasFold_10 rfl rfl ?_
    refine g_iconst cx 1 (by decide) e_X8_hasFold_13 ?_
    refine g_iload_n cx 1 rfl e_X8_hasFold_14 ?_
    refine g_ishl cx e_X8_hasFold_15 ?_
    refine g_topi (fun x12 ex12 => ?_)
    have hk13 := k_ls hk11 ex12
    refine g_iand cx e_X8_hasFold_16 ?_
    refine g_topi (fun x14 ex14 => ?_)
    have hk15 := k_ls hk13 ex14
    refine g_if_eq cx 36 e_X8_hasFold_17 (by decide) (fun zc16 => ?_) (fun zc16 => ?_)
    · have p17 := gn_eq 0 0 (gc_eq zc16) (jv_t x14) (jv_k (x := 0) 0 (by decide)) (by decide)
      have hk18 := hk15.trans (if_pos zc16)
      refine g_lsub [] [] rfl ?_
      exact J36  hk18
    · have hk19 := hk15.trans (if_neg zc16)
      refine g_aload_n cx 0 rfl e_X8_hasFold_20 ?_
      refine g_iload_n cx 1 rfl e_X8_hasFold_21 ?_
      refine g_cViW cx [.int a0] [] (w_X8_foldPlace_1 l X ad F R hI hA a0) ml_X8_35 yV_X8_foldPlace e_X8_hasFold_22 (by unfold g_rr; decide) (by decide) 1 rfl rfl rfl (Nat.le_of_ble_eq_true rfl) (fun r20 w21 h22 => ?_)
      obtain ⟨rfl, pr20, hx23⟩ := h22
      have hk24 := k_ls hk19 hx23
      refine g_aload_n cx 0 rfl e_X8_hasFold_25 ?_
      refine g_get cx cl_X8 fl_X8_15 1 (.int (F 17)) e_X8_hasFold_26 rfl rfl ?_
      refine g_icmp_ge cx 36 e_X8_hasFold_29 (by decide) (fun zc25 => ?_) (fun zc25 => ?_)
      · have hk26 := hk24.trans (if_pos zc25)
        refine g_lsub [] [] rfl ?_
        exact J36  hk26
      · have p27 := gn_lt (-2147483648) 2147483646 (gc_nle zc25) pr20 (jv_t (F 17)) (by decide)
        have p28 := gn_gt (-2147483647) 2147483647 (gc_nle zc25) (jv_t (F 17)) pr20 (by decide)
        have hk29 := hk24.trans (if_neg zc25)
        refine g_iconst cx 1 (by decide) e_X8_hasFold_32 ?_
        refine g_goto cx 37 e_X8_hasFold_33 (by decide) ?_
        refine g_lsub [] [] rfl ?_
        exact J37 1 (jv_w (jv_k (x := 1) 1 (by decide)) (by decide)) hk29
def K_X10_worth_220 (F41 : Nat → Int32) (R42 : Nat → Nat → Int32) (y45 : Int32) : Int32 × (Nat → Int32) × (Nat → Nat → Int32) :=
  (y45, F41, R42)
def K_X10_worth_184 (F41 : Nat → Int32) (R42 : Nat → Nat → Int32) (r25 : Int32) (r30 : Int32) (y44 : Int32) : Int32 × (Nat → Int32) × (Nat → Nat → Int32) :=
  if y44 = 0 then k_lt (sp_X4_inches F41 R42) (fun r49 => k_lt (r30 - r49) (fun x54 => K_X10_worth_220 F41 R42 x54)) else k_lt (sp_X4_standing F41 R42) (fun r58 => k_lt (r58 - r25) (fun x63 => K_X10_worth_220 F41 R42 x63))
def K_X10_worth_179 (F41 : Nat → Int32) (R42 : Nat → Nat → Int32) (r25 : Int32) (r30 : Int32)  : Int32 × (Nat → Int32) × (Nat → Nat → Int32) :=
  K_X10_worth_184 F41 R42 r25 r30 1
def K_X10_worth_163 (a1 : Int32) (r25 : Int32) (r30 : Int32) (F35 : Nat → Int32) (R36 : Nat → Nat → Int32) : Int32 × (Nat → Int32) × (Nat → Nat → Int32) :=
  k_lt2 (sp_X0_run F35 R36) (fun F41 R42 => if a1 = 0 then K_X10_worth_179 F41 R42 r25 r30 else if a1 = 2 then K_X10_worth_179 F41 R42 r25 r30 else K_X10_worth_184 F41 R42 r25 r30 0)
def K_X10_worth_77 (F : Nat → Int32) (R : Nat → Nat → Int32) (a0 : Int32) (a1 : Int32) (y5 : Int32)  : Int32 × (Nat → Int32) × (Nat → Nat → Int32) :=
  k_lt2 (sp_X7_lay_r1_r11 F R) (fun F15 R16 => k_lt2 (sp_X0_run F15 R16) (fun F22 R23 => k_lt (sp_X4_standing F22 R23) (fun r25 => k_lt (sp_X4_inches F22 R23) (fun r30 => if y5 = 0 then k_lt2 (sp_X8_change_5 F22 R23 a0 5 0) (fun F80 R81 => K_X10_worth_163 a1 r25 r30 F80 R81) else k_lt (1 <<< (a0 &&& 31)) (fun x85 => k_lt (x85 ^^^ (-1)) (fun x87 => k_lt ((F15 82) &&& x87) (fun x89 => k_lt (upd F22 82 x89) (fun F91 => K_X10_worth_163 a1 r25 r30 F91 R23))))))))
def K_X10_worth_63 (F : Nat → Int32) (R : Nat → Nat → Int32) (a0 : Int32) (a1 : Int32) (y5 : Int32) (y10 : Int32) : Int32 × (Nat → Int32) × (Nat → Nat → Int32) :=
  if y5 = 0 then if y10 = 0 then ((-100000), F, R) else K_X10_worth_77 F R a0 a1 y5 else K_X10_worth_77 F R a0 a1 y5
def K_X10_worth_62 (F : Nat → Int32) (R : Nat → Nat → Int32) (a0 : Int32) (a1 : Int32) (y5 : Int32)  : Int32 × (Nat → Int32) × (Nat → Nat → Int32) :=
  K_X10_worth_63 F R a0 a1 y5 0
def K_X10_worth_25 (F : Nat → Int32) (R : Nat → Nat → Int32) (a0 : Int32) (a1 : Int32) (y5 : Int32) : Int32 × (Nat → Int32) × (Nat → Nat → Int32) :=
  k_lt (g_in a1 2 3) (fun r6 => if r6 = 0 then K_X10_worth_62 F R a0 a1 y5 else k_lt (sp_X8_has_1 F R a0) (fun r109 => if r109 = 0 then K_X10_worth_62 F R a0 a1 y5 else k_lt (sp_X8_side_1 F R a0 5) (fun r119 => if r119 = 0 then K_X10_worth_62 F R a0 a1 y5 else K_X10_worth_63 F R a0 a1 y5 1)))
def K_X10_worth_24 (F : Nat → Int32) (R : Nat → Nat → Int32) (a0 : Int32) (a1 : Int32)  : Int32 × (Nat → Int32) × (Nat → Nat → Int32) :=
  K_X10_worth_25 F R a0 a1 0
def sp_X10_worth (F : Nat → Int32) (R : Nat → Nat → Int32) (a0 : Int32) (a1 : Int32) : Int32 × (Nat → Int32) × (Nat → Nat → Int32) :=
  k_lt (g_in a1 0 1) (fun r1 => if r1 = 0 then K_X10_worth_24 F R a0 a1 else k_lt (sp_X8_hasFold_1 F R a0) (fun r134 => if r134 = 0 then K_X10_worth_24 F R a0 a1 else K_X10_worth_25 F R a0 a1 1))
theorem e_X10_worth_0 : g_dc cX10_worth 0 (.iload_n 2) 1 1 := ⟨by decide +kernel, rfl⟩
theorem e_X10_worth_1 : g_dc cX10_worth 1 (.iconst 0) 1 2 := ⟨by decide +kernel, rfl⟩
theorem e_X10_worth_2 : g_dc cX10_worth 2 (.iconst 1) 1 3 := ⟨by decide +kernel, rfl⟩
theorem e_X10_worth_3 : g_dc cX10_worth 3 (.invokestatic 82) 3 6 := ⟨by decide +kernel, rfl⟩
theorem e_X10_worth_6 : g_dc cX10_worth 6 (.ifCond .eq 18) 3 9 := ⟨by decide +kernel, rfl⟩
theorem e_X10_worth_9 : g_dc cX10_worth 9 (.aload_n 0) 1 10 := ⟨by decide +kernel, rfl⟩
theorem e_X10_worth_10 : g_dc cX10_worth 10 (.getfield 10) 3 13 := ⟨by decide +kernel, rfl⟩
theorem e_X10_worth_13 : g_dc cX10_worth 13 (.iload_n 1) 1 14 := ⟨by decide +kernel, rfl⟩
theorem e_X10_worth_14 : g_dc cX10_worth 14 (.invokevirtual 216) 3 17 := ⟨by decide +kernel, rfl⟩
theorem e_X10_worth_17 : g_dc cX10_worth 17 (.ifCond .eq 7) 3 20 := ⟨by decide +kernel, rfl⟩
theorem e_X10_worth_20 : g_dc cX10_worth 20 (.iconst 1) 1 21 := ⟨by decide +kernel, rfl⟩
theorem e_X10_worth_21 : g_dc cX10_worth 21 (.goto 4) 3 24 := ⟨by decide +kernel, rfl⟩
theorem e_X10_worth_24 : g_dc cX10_worth 24 (.iconst 0) 1 25 := ⟨by decide +kernel, rfl⟩
theorem e_X10_worth_25 : g_dc cX10_worth 25 (.istore_n 3) 1 26 := ⟨by decide +kernel, rfl⟩
theorem e_X10_worth_26 : g_dc cX10_worth 26 (.iload_n 2) 1 27 := ⟨by decide +kernel, rfl⟩
theorem e_X10_worth_27 : g_dc cX10_worth 27 (.iconst 2) 1 28 := ⟨by decide +kernel, rfl⟩
theorem e_X10_worth_28 : g_dc cX10_worth 28 (.iconst 3) 1 29 := ⟨by decide +kernel, rfl⟩
theorem e_X10_worth_29 : g_dc cX10_worth 29 (.invokestatic 82) 3 32 := ⟨by decide +kernel, rfl⟩
theorem e_X10_worth_32 : g_dc cX10_worth 32 (.ifCond .eq 30) 3 35 := ⟨by decide +kernel, rfl⟩
theorem e_X10_worth_35 : g_dc cX10_worth 35 (.aload_n 0) 1 36 := ⟨by decide +kernel, rfl⟩
theorem e_X10_worth_36 : g_dc cX10_worth 36 (.getfield 10) 3 39 := ⟨by decide +kernel, rfl⟩
theorem e_X10_worth_39 : g_dc cX10_worth 39 (.iload_n 1) 1 40 := ⟨by decide +kernel, rfl⟩
theorem e_X10_worth_40 : g_dc cX10_worth 40 (.invokevirtual 102) 3 43 := ⟨by decide +kernel, rfl⟩
theorem e_X10_worth_43 : g_dc cX10_worth 43 (.ifCond .eq 19) 3 46 := ⟨by decide +kernel, rfl⟩
theorem e_X10_worth_46 : g_dc cX10_worth 46 (.aload_n 0) 1 47 := ⟨by decide +kernel, rfl⟩
theorem e_X10_worth_47 : g_dc cX10_worth 47 (.getfield 10) 3 50 := ⟨by decide +kernel, rfl⟩
theorem e_X10_worth_50 : g_dc cX10_worth 50 (.iload_n 1) 1 51 := ⟨by decide +kernel, rfl⟩
theorem e_X10_worth_51 : g_dc cX10_worth 51 (.iconst 5) 1 52 := ⟨by decide +kernel, rfl⟩
theorem e_X10_worth_52 : g_dc cX10_worth 52 (.invokevirtual 173) 3 55 := ⟨by decide +kernel, rfl⟩
theorem e_X10_worth_55 : g_dc cX10_worth 55 (.ifCond .eq 7) 3 58 := ⟨by decide +kernel, rfl⟩
theorem e_X10_worth_58 : g_dc cX10_worth 58 (.iconst 1) 1 59 := ⟨by decide +kernel, rfl⟩
theorem e_X10_worth_59 : g_dc cX10_worth 59 (.goto 4) 3 62 := ⟨by decide +kernel, rfl⟩
theorem e_X10_worth_62 : g_dc cX10_worth 62 (.iconst 0) 1 63 := ⟨by decide +kernel, rfl⟩
theorem e_X10_worth_63 : g_dc cX10_worth 63 (.istore 4) 2 65 := ⟨by decide +kernel, rfl⟩
theorem e_X10_worth_65 : g_dc cX10_worth 65 (.iload_n 3) 1 66 := ⟨by decide +kernel, rfl⟩
theorem e_X10_worth_66 : g_dc cX10_worth 66 (.ifCond .ne 11) 3 69 := ⟨by decide +kernel, rfl⟩
theorem e_X10_worth_69 : g_dc cX10_worth 69 (.iload 4) 2 71 := ⟨by decide +kernel, rfl⟩
theorem e_X10_worth_71 : g_dc cX10_worth 71 (.ifCond .ne 6) 3 74 := ⟨by decide +kernel, rfl⟩
theorem e_X10_worth_74 : g_dc cX10_worth 74 (.ldc 219) 2 76 := ⟨by decide +kernel, rfl⟩
theorem e_X10_worth_76 : g_dc cX10_worth 76 (.ireturn) 1 77 := ⟨by decide +kernel, rfl⟩
theorem e_X10_worth_77 : g_dc cX10_worth 77 (.aload_n 0) 1 78 := ⟨by decide +kernel, rfl⟩
theorem e_X10_worth_78 : g_dc cX10_worth 78 (.getfield 58) 3 81 := ⟨by decide +kernel, rfl⟩
theorem e_X10_worth_81 : g_dc cX10_worth 81 (.aload_n 0) 1 82 := ⟨by decide +kernel, rfl⟩
theorem e_X10_worth_82 : g_dc cX10_worth 82 (.getfield 10) 3 85 := ⟨by decide +kernel, rfl⟩
theorem e_X10_worth_85 : g_dc cX10_worth 85 (.aload_n 0) 1 86 := ⟨by decide +kernel, rfl⟩
theorem e_X10_worth_86 : g_dc cX10_worth 86 (.getfield 29) 3 89 := ⟨by decide +kernel, rfl⟩
theorem e_X10_worth_89 : g_dc cX10_worth 89 (.invokevirtual 148) 3 92 := ⟨by decide +kernel, rfl⟩
theorem e_X10_worth_92 : g_dc cX10_worth 92 (.aload_n 0) 1 93 := ⟨by decide +kernel, rfl⟩
theorem e_X10_worth_93 : g_dc cX10_worth 93 (.getfield 66) 3 96 := ⟨by decide +kernel, rfl⟩
theorem e_X10_worth_96 : g_dc cX10_worth 96 (.invokevirtual 152) 3 99 := ⟨by decide +kernel, rfl⟩
theorem e_X10_worth_99 : g_dc cX10_worth 99 (.aload_n 0) 1 100 := ⟨by decide +kernel, rfl⟩
theorem e_X10_worth_100 : g_dc cX10_worth 100 (.getfield 66) 3 103 := ⟨by decide +kernel, rfl⟩
theorem e_X10_worth_103 : g_dc cX10_worth 103 (.getfield 136) 3 106 := ⟨by decide +kernel, rfl⟩
theorem e_X10_worth_106 : g_dc cX10_worth 106 (.invokevirtual 169) 3 109 := ⟨by decide +kernel, rfl⟩
theorem e_X10_worth_109 : g_dc cX10_worth 109 (.istore 5) 2 111 := ⟨by decide +kernel, rfl⟩
theorem e_X10_worth_111 : g_dc cX10_worth 111 (.aload_n 0) 1 112 := ⟨by decide +kernel, rfl⟩
theorem e_X10_worth_112 : g_dc cX10_worth 112 (.getfield 66) 3 115 := ⟨by decide +kernel, rfl⟩
theorem e_X10_worth_115 : g_dc cX10_worth 115 (.getfield 136) 3 118 := ⟨by decide +kernel, rfl⟩
theorem e_X10_worth_118 : g_dc cX10_worth 118 (.invokevirtual 220) 3 121 := ⟨by decide +kernel, rfl⟩
theorem e_X10_worth_121 : g_dc cX10_worth 121 (.istore 6) 2 123 := ⟨by decide +kernel, rfl⟩
theorem e_X10_worth_123 : g_dc cX10_worth 123 (.iload_n 3) 1 124 := ⟨by decide +kernel, rfl⟩
theorem e_X10_worth_124 : g_dc cX10_worth 124 (.ifCond .eq 26) 3 127 := ⟨by decide +kernel, rfl⟩
theorem e_X10_worth_127 : g_dc cX10_worth 127 (.aload_n 0) 1 128 := ⟨by decide +kernel, rfl⟩
theorem e_X10_worth_128 : g_dc cX10_worth 128 (.getfield 58) 3 131 := ⟨by decide +kernel, rfl⟩
theorem e_X10_worth_131 : g_dc cX10_worth 131 (.getfield 202) 3 134 := ⟨by decide +kernel, rfl⟩
theorem e_X10_worth_134 : g_dc cX10_worth 134 (.dup) 1 135 := ⟨by decide +kernel, rfl⟩
theorem e_X10_worth_135 : g_dc cX10_worth 135 (.getfield 92) 3 138 := ⟨by decide +kernel, rfl⟩
theorem e_X10_worth_138 : g_dc cX10_worth 138 (.iconst 1) 1 139 := ⟨by decide +kernel, rfl⟩
theorem e_X10_worth_139 : g_dc cX10_worth 139 (.iload_n 1) 1 140 := ⟨by decide +kernel, rfl⟩
theorem e_X10_worth_140 : g_dc cX10_worth 140 (.ishl) 1 141 := ⟨by decide +kernel, rfl⟩
theorem e_X10_worth_141 : g_dc cX10_worth 141 (.iconst (-1)) 1 142 := ⟨by decide +kernel, rfl⟩
theorem e_X10_worth_142 : g_dc cX10_worth 142 (.ixor) 1 143 := ⟨by decide +kernel, rfl⟩
theorem e_X10_worth_143 : g_dc cX10_worth 143 (.iand) 1 144 := ⟨by decide +kernel, rfl⟩
theorem e_X10_worth_144 : g_dc cX10_worth 144 (.putfield 92) 3 147 := ⟨by decide +kernel, rfl⟩
theorem e_X10_worth_147 : g_dc cX10_worth 147 (.goto 16) 3 150 := ⟨by decide +kernel, rfl⟩
theorem e_X10_worth_150 : g_dc cX10_worth 150 (.aload_n 0) 1 151 := ⟨by decide +kernel, rfl⟩
theorem e_X10_worth_151 : g_dc cX10_worth 151 (.getfield 58) 3 154 := ⟨by decide +kernel, rfl⟩
theorem e_X10_worth_154 : g_dc cX10_worth 154 (.getfield 202) 3 157 := ⟨by decide +kernel, rfl⟩
theorem e_X10_worth_157 : g_dc cX10_worth 157 (.iload_n 1) 1 158 := ⟨by decide +kernel, rfl⟩
theorem e_X10_worth_158 : g_dc cX10_worth 158 (.iconst 5) 1 159 := ⟨by decide +kernel, rfl⟩
theorem e_X10_worth_159 : g_dc cX10_worth 159 (.iconst 0) 1 160 := ⟨by decide +kernel, rfl⟩
theorem e_X10_worth_160 : g_dc cX10_worth 160 (.invokevirtual 98) 3 163 := ⟨by decide +kernel, rfl⟩
theorem e_X10_worth_163 : g_dc cX10_worth 163 (.aload_n 0) 1 164 := ⟨by decide +kernel, rfl⟩
theorem e_X10_worth_164 : g_dc cX10_worth 164 (.getfield 66) 3 167 := ⟨by decide +kernel, rfl⟩
theorem e_X10_worth_167 : g_dc cX10_worth 167 (.invokevirtual 152) 3 170 := ⟨by decide +kernel, rfl⟩
theorem e_X10_worth_170 : g_dc cX10_worth 170 (.iload_n 2) 1 171 := ⟨by decide +kernel, rfl⟩
theorem e_X10_worth_171 : g_dc cX10_worth 171 (.ifCond .eq 8) 3 174 := ⟨by decide +kernel, rfl⟩
theorem e_X10_worth_174 : g_dc cX10_worth 174 (.iload_n 2) 1 175 := ⟨by decide +kernel, rfl⟩
theorem e_X10_worth_175 : g_dc cX10_worth 175 (.iconst 2) 1 176 := ⟨by decide +kernel, rfl⟩
theorem e_X10_worth_176 : g_dc cX10_worth 176 (.if_icmp .ne 7) 3 179 := ⟨by decide +kernel, rfl⟩
theorem e_X10_worth_179 : g_dc cX10_worth 179 (.iconst 1) 1 180 := ⟨by decide +kernel, rfl⟩
theorem e_X10_worth_180 : g_dc cX10_worth 180 (.goto 4) 3 183 := ⟨by decide +kernel, rfl⟩
theorem e_X10_worth_183 : g_dc cX10_worth 183 (.iconst 0) 1 184 := ⟨by decide +kernel, rfl⟩
theorem e_X10_worth_184 : g_dc cX10_worth 184 (.istore 7) 2 186 := ⟨by decide +kernel, rfl⟩
theorem e_X10_worth_186 : g_dc cX10_worth 186 (.iload 7) 2 188 := ⟨by decide +kernel, rfl⟩
theorem e_X10_worth_188 : g_dc cX10_worth 188 (.ifCond .eq 19) 3 191 := ⟨by decide +kernel, rfl⟩
theorem e_X10_worth_191 : g_dc cX10_worth 191 (.aload_n 0) 1 192 := ⟨by decide +kernel, rfl⟩
theorem e_X10_worth_192 : g_dc cX10_worth 192 (.getfield 66) 3 195 := ⟨by decide +kernel, rfl⟩
theorem e_X10_worth_195 : g_dc cX10_worth 195 (.getfield 136) 3 198 := ⟨by decide +kernel, rfl⟩
theorem e_X10_worth_198 : g_dc cX10_worth 198 (.invokevirtual 169) 3 201 := ⟨by decide +kernel, rfl⟩
theorem e_X10_worth_201 : g_dc cX10_worth 201 (.iload 5) 2 203 := ⟨by decide +kernel, rfl⟩
theorem e_X10_worth_203 : g_dc cX10_worth 203 (.isub) 1 204 := ⟨by decide +kernel, rfl⟩
theorem e_X10_worth_204 : g_dc cX10_worth 204 (.goto 16) 3 207 := ⟨by decide +kernel, rfl⟩
theorem e_X10_worth_207 : g_dc cX10_worth 207 (.iload 6) 2 209 := ⟨by decide +kernel, rfl⟩
theorem e_X10_worth_209 : g_dc cX10_worth 209 (.aload_n 0) 1 210 := ⟨by decide +kernel, rfl⟩
theorem e_X10_worth_210 : g_dc cX10_worth 210 (.getfield 66) 3 213 := ⟨by decide +kernel, rfl⟩
theorem e_X10_worth_213 : g_dc cX10_worth 213 (.getfield 136) 3 216 := ⟨by decide +kernel, rfl⟩
theorem e_X10_worth_216 : g_dc cX10_worth 216 (.invokevirtual 220) 3 219 := ⟨by decide +kernel, rfl⟩
theorem e_X10_worth_219 : g_dc cX10_worth 219 (.isub) 1 220 := ⟨by decide +kernel, rfl⟩
theorem e_X10_worth_220 : g_dc cX10_worth 220 (.ireturn) 1 221 := ⟨by decide +kernel, rfl⟩
def md_X10_worth : List Nat := [80, 81, 82, 83, 84, 241, 601, 602, 603, 604, 605, 606, 672, 673, 674, 675, 691, 692, 693, 694, 695, 696, 697, 698]
def mr_X10_worth : List Nat := [6, 16, 23, 24, 38, 39, 40, 41, 44, 45, 46]
set_option maxHeartbeats 4000000 in
set_option maxRecDepth 100000 in
theorem w_X10_worth (l : Launch) (X : gX) (ad : Nat → Nat) (F : Nat → Int32) (R : Nat → Nat → Int32) (hI : g_ok LK_wX F) (hA : g_okR LA_wX R) (a0 : Int32) (a1 : Int32) : g_Ci l X yX10_worth cX10_worth 8 (some .int) 7 0 0 [.ref (ad 0), .int a0, .int a1] (wX X ad F R) (fun r w => ∃ (F' : Nat → Int32) (R' : Nat → Nat → Int32), w = wX X ad F' R' ∧ g_ok LK_wX F' ∧ g_okR LA_wX R' ∧ g_fr md_X10_worth F F' ∧ g_fr mr_X10_worth R R' ∧ jv (-2147483648) 2147483647 r ∧ (r, F', R') = sp_X10_worth F R a0 a1) := by
  refine g_mi (by decide +kernel) (Nat.le_of_ble_eq_true rfl) (fun E cx hret => ?_)
  obtain ⟨SP, hSP⟩ : ∃ z, z = sp_X10_worth F R a0 a1 := ⟨_, rfl⟩
  have hk0 := hSP
  unfold sp_X10_worth at hk0
  refine g_iload_n cx 2 rfl e_X10_worth_0 ?_
  refine g_iconst cx 0 (by decide) e_X10_worth_1 ?_
  refine g_iconst cx 1 (by decide) e_X10_worth_2 ?_
  refine g_cSiW cx [.int a1, .int 0, .int 1] [] (c_X10_within l X (wX X ad F R) a1 0 1) ml_X10_82 yS_X10_within rfl e_X10_worth_3 (by unfold g_rr; decide) (by decide) rfl (Nat.le_of_ble_eq_true rfl) (fun r1 w2 h3 => ?_)
  obtain ⟨rfl, hr1⟩ := h3
  have pr1 : jv 0 1 r1 := by rw [hr1]; exact gi_01 _ _ _
  have hk4 := k_ls hk0 hr1
  have J25 : ∀ (y5 : Int32), (jv 0 1 y5) → (SP = K_X10_worth_25 F R a0 a1 y5) → G X E 8 0 0 (wX X ad F R) [(0, .ref (ad 0)), (1, .int a0), (2, .int a1)] 25 [.int y5] := by
    intro y5 py5 hkJ25
    unfold K_X10_worth_25 at hkJ25
    refine g_istore_n cx [(3, .int y5), (0, .ref (ad 0)), (1, .int a0), (2, .int a1)] e_X10_worth_25 (by decide) rfl ?_
    refine g_iload_n cx 3 rfl e_X10_worth_26 ?_
    refine g_iconst cx 2 (by decide) e_X10_worth_27 ?_
    refine g_iconst cx 3 (by decide) e_X10_worth_28 ?_
    refine g_cSiW cx [.int a1, .int 2, .int 3] [] (c_X10_within l X (wX X ad F R) a1 2 3) ml_X10_82 yS_X10_within rfl e_X10_worth_29 (by unfold g_rr; decide) (by decide) rfl (Nat.le_of_ble_eq_true rfl) (fun r6 w7 h8 => ?_)
    obtain ⟨rfl, hr6⟩ := h8
    have pr6 : jv 0 1 r6 := by rw [hr6]; exact gi_01 _ _ _
    have hk9 := k_ls hkJ25 hr6
    have J63 : ∀ (y10 : Int32), (jv 0 1 y10) → (SP = K_X10_worth_63 F R a0 a1 y5 y10) → G X E 8 0 0 (wX X ad F R) [(0, .ref (ad 0)), (1, .int a0), (2, .int a1), (3, .int y5)] 63 [.int y10] := by
      intro y10 py10 hkJ63
      unfold K_X10_worth_63 at hkJ63
      refine g_istore cx [(4, .int y10), (0, .ref (ad 0)), (1, .int a0), (2, .int a1), (3, .int y5)] e_X10_worth_63 (by decide) rfl ?_
      refine g_iload_n cx 4 rfl e_X10_worth_65 ?_
      have J77 : (SP = K_X10_worth_77 F R a0 a1 y5) → G X E 8 0 0 (wX X ad F R) [(0, .ref (ad 0)), (1, .int a0), (2, .int a1), (3, .int y5)] 77 [] := by
        intro   hkJ77
        unfold K_X10_worth_77 at hkJ77
        refine g_aload_n cx 0 rfl e_X10_worth_77 ?_
        refine g_get cx cl_X10 fl_X10_58 0 (.ref (ad 35)) e_X10_worth_78 rfl rfl ?_
        refine g_aload_n cx 0 rfl e_X10_worth_81 ?_
        refine g_get cx cl_X10 fl_X10_10 0 (.ref (ad 1)) e_X10_worth_82 rfl rfl ?_
        refine g_aload_n cx 0 rfl e_X10_worth_85 ?_
        refine g_get cx cl_X10 fl_X10_29 0 (.ref (ad 11)) e_X10_worth_86 rfl rfl ?_
        refine g_cVvW cx [.ref (ad 1), .ref (ad 11)] [] (w_X7_lay_r1_r11 l X ad F R hI hA) ml_X10_148 yV_X7_lay e_X10_worth_89 (by unfold g_rr; decide) (by decide) 35 rfl rfl rfl (Nat.le_of_ble_eq_true rfl) (fun w12 h13 => ?_)
        obtain ⟨F15, R16, rfl, oF15, oR16, cF15, cR16, hx14⟩ := h13
        have hk17 := k_ls2 hkJ77 hx14
        have fF15 : g_fr md_X10_worth F F15 := g_fr_c (g_fr_rf F) cF15 rfl
        have fR16 : g_fr mr_X10_worth R R16 := g_fr_c (g_fr_rf R) cR16 rfl
        refine g_aload_n cx 0 rfl e_X10_worth_92 ?_
        refine g_get cx cl_X10 fl_X10_66 0 (.ref (ad 37)) e_X10_worth_93 rfl rfl ?_
        refine g_cVvW cx [] [] (w_X0_run l X ad F15 R16 oF15 oR16) ml_X10_152 yV_X0_run e_X10_worth_96 (by unfold g_rr; decide) (by decide) 37 rfl rfl rfl (Nat.le_of_ble_eq_true rfl) (fun w19 h20 => ?_)
        obtain ⟨F22, R23, rfl, oF22, oR23, cF22, cR23, hx21⟩ := h20
        have hk24 := k_ls2 hk17 hx21
        have fF22 : g_fr md_X10_worth F F22 := g_fr_c fF15 cF22 rfl
        have fR23 : g_fr mr_X10_worth R R23 := g_fr_c fR16 cR23 rfl
        refine g_aload_n cx 0 rfl e_X10_worth_99 ?_
        refine g_get cx cl_X10 fl_X10_66 0 (.ref (ad 37)) e_X10_worth_100 rfl rfl ?_
        refine g_getN cx cl_X0 fn_X10_136 37 (.ref (ad 43)) e_X10_worth_103 rfl rfl ?_
        refine g_cViW cx [] [] (w_X4_standing l X ad F22 R23 oF22 oR23) ml_X10_169 yV_X4_standing e_X10_worth_106 (by unfold g_rr; decide) (by decide) 43 rfl rfl rfl (Nat.le_of_ble_eq_true rfl) (fun r25 w26 h27 => ?_)
        obtain ⟨rfl, pr25, hx28⟩ := h27
        have hk29 := k_ls hk24 hx28
        refine g_istore cx [(5, .int r25), (0, .ref (ad 0)), (1, .int a0), (2, .int a1), (3, .int y5)] e_X10_worth_109 (by decide) rfl ?_
        refine g_aload_n cx 1 rfl e_X10_worth_111 ?_
        refine g_get cx cl_X10 fl_X10_66 0 (.ref (ad 37)) e_X10_worth_112 rfl rfl ?_
        refine g_getN cx cl_X0 fn_X10_136 37 (.ref (ad 43)) e_X10_worth_115 rfl rfl ?_
        refine g_cViW cx [] [] (w_X4_inches l X ad F22 R23 oF22 oR23) ml_X10_220 yV_X4_inches e_X10_worth_118 (by unfold g_rr; decide) (by decide) 43 rfl rfl rfl (Nat.le_of_ble_eq_true rfl) (fun r30 w31 h32 => ?_)
        obtain ⟨rfl, pr30, hx33⟩ := h32
        have hk34 := k_ls hk29 hx33
        refine g_istore cx [(6, .int r30), (5, .int r25), (0, .ref (ad 0)), (1, .int a0), (2, .int a1), (3, .int y5)] e_X10_worth_121 (by decide) rfl ?_
        refine g_iload_n cx 5 rfl e_X10_worth_123 ?_
        have J163 : ∀ (F35 : Nat → Int32) (R36 : Nat → Nat → Int32), (g_ok LK_wX F35) → (g_fr md_X10_worth F F35) → (g_okR LA_wX R36) → (g_fr mr_X10_worth R R36) → (SP = K_X10_worth_163 a1 r25 r30 F35 R36) → G X E 8 0 0 (wX X ad F35 R36) [(0, .ref (ad 0)), (2, .int a1), (5, .int r25), (6, .int r30)] 163 [] := by
          intro F35 R36 oF35 fF35 oR36 fR36 hkJ163
          unfold K_X10_worth_163 at hkJ163
          refine g_aload_n cx 0 rfl e_X10_worth_163 ?_
          refine g_get cx cl_X10 fl_X10_66 0 (.ref (ad 37)) e_X10_worth_164 rfl rfl ?_
          refine g_cVvW cx [] [] (w_X0_run l X ad F35 R36 oF35 oR36) ml_X10_152 yV_X0_run e_X10_worth_167 (by unfold g_rr; decide) (by decide) 37 rfl rfl rfl (Nat.le_of_ble_eq_true rfl) (fun w38 h39 => ?_)
          obtain ⟨F41, R42, rfl, oF41, oR42, cF41, cR42, hx40⟩ := h39
          have hk43 := k_ls2 hkJ163 hx40
          have fF41 : g_fr md_X10_worth F F41 := g_fr_c fF35 cF41 rfl
          have fR42 : g_fr mr_X10_worth R R42 := g_fr_c fR36 cR42 rfl
          refine g_iload_n cx 1 rfl e_X10_worth_170 ?_
          have J184 : ∀ (y44 : Int32), (jv 0 1 y44) → (SP = K_X10_worth_184 F41 R42 r25 r30 y44) → G X E 8 0 0 (wX X ad F41 R42) [(0, .ref (ad 0)), (5, .int r25), (6, .int r30)] 184 [.int y44] := by
            intro y44 py44 hkJ184
            unfold K_X10_worth_184 at hkJ184
            refine g_istore cx [(7, .int y44), (0, .ref (ad 0)), (5, .int r25), (6, .int r30)] e_X10_worth_184 (by decide) rfl ?_
            refine g_iload cx 0 rfl e_X10_worth_186 ?_
            have J220 : ∀ (y45 : Int32), (jv (-2147483648) 2147483647 y45) → (SP = K_X10_worth_220 F41 R42 y45) → G X E 8 0 0 (wX X ad F41 R42) [] 220 [.int y45] := by
              intro y45 py45 hkJ220
              unfold K_X10_worth_220 at hkJ220
              exact hret e_X10_worth_220 (Nat.le_of_ble_eq_true rfl) (Nat.le_of_ble_eq_true rfl) rfl ⟨F41, R42, rfl, oF41, oR42, fF41, fR42, py45, (hkJ220.symm.trans hSP)⟩
            refine g_if_eq cx 207 e_X10_worth_188 (by decide) (fun zc46 => ?_) (fun zc46 => ?_)
            · have p47 := gn_eq 0 0 (gc_eq zc46) py44 (jv_k (x := 0) 0 (by decide)) (by decide)
              have hk48 := hkJ184.trans (if_pos zc46)
              refine g_iload cx 3 rfl e_X10_worth_207 ?_
              refine g_aload_n cx 1 rfl e_X10_worth_209 ?_
              refine g_get cx cl_X10 fl_X10_66 0 (.ref (ad 37)) e_X10_worth_210 rfl rfl ?_
              refine g_getN cx cl_X0 fn_X10_136 37 (.ref (ad 43)) e_X10_worth_213 rfl rfl ?_
              refine g_cViW cx [] [.int r30] (w_X4_inches l X ad F41 R42 oF41 oR42) ml_X10_220 yV_X4_inches e_X10_worth_216 (by unfold g_rr; decide) (by decide) 43 rfl rfl rfl (Nat.le_of_ble_eq_true rfl) (fun r49 w50 h51 => ?_)
              obtain ⟨rfl, pr49, hx52⟩ := h51
              have hk53 := k_ls hk48 hx52
              refine g_isub cx e_X10_worth_219 ?_
              refine g_topi (fun x54 ex54 => ?_)
              have hk55 := k_ls hk53 ex54
              refine g_lsub [] [] rfl ?_
              exact J220 x54 (jv_t x54) hk55
            · have p56 := gn_neL 1 1 (gc_ne zc46) py44 (jv_k (x := 0) 0 (by decide)) (by decide)
              have hk57 := hkJ184.trans (if_neg zc46)
              refine g_aload_n cx 1 rfl e_X10_worth_191 ?_
              refine g_get cx cl_X10 fl_X10_66 0 (.ref (ad 37)) e_X10_worth_192 rfl rfl ?_
              refine g_getN cx cl_X0 fn_X10_136 37 (.ref (ad 43)) e_X10_worth_195 rfl rfl ?_
              refine g_cViW cx [] [] (w_X4_standing l X ad F41 R42 oF41 oR42) ml_X10_169 yV_X4_standing e_X10_worth_198 (by unfold g_rr; decide) (by decide) 43 rfl rfl rfl (Nat.le_of_ble_eq_true rfl) (fun r58 w59 h60 => ?_)
              obtain ⟨rfl, pr58, hx61⟩ := h60
              have hk62 := k_ls hk57 hx61
              refine g_iload cx 2 rfl e_X10_worth_201 ?_
              refine g_isub cx e_X10_worth_203 ?_
              refine g_topi (fun x63 ex63 => ?_)
              have hk64 := k_ls hk62 ex63
              have zx63 := jv_sub (-63) 63 ex63 pr58 pr25 (by decide)
              refine g_goto cx 220 e_X10_worth_204 (by decide) ?_
              refine g_lsub [] [] rfl ?_
              exact J220 x63 (jv_w zx63.2 (by decide)) hk64
          have J179 : (SP = K_X10_worth_179 F41 R42 r25 r30) → G X E 8 0 0 (wX X ad F41 R42) [(0, .ref (ad 0)), (5, .int r25), (6, .int r30)] 179 [] := by
            intro   hkJ179
            unfold K_X10_worth_179 at hkJ179
            refine g_iconst cx 1 (by decide) e_X10_worth_179 ?_
            refine g_goto cx 184 e_X10_worth_180 (by decide) ?_
            exact J184 1 (jv_w (jv_k (x := 1) 1 (by decide)) (by decide)) hkJ179
          refine g_if_eq cx 179 e_X10_worth_171 (by decide) (fun zc65 => ?_) (fun zc65 => ?_)
          · have p66 := gn_eq 0 0 (gc_eq zc65) (jv_t a1) (jv_k (x := 0) 0 (by decide)) (by decide)
            have hk67 := hk43.trans (if_pos zc65)
            refine g_lsub [0, 2, 3] [(0, .ref (ad 0)), (5, .int r25), (6, .int r30)] rfl ?_
            exact J179  hk67
          · have hk68 := hk43.trans (if_neg zc65)
            refine g_iload_n cx 1 rfl e_X10_worth_174 ?_
            refine g_iconst cx 2 (by decide) e_X10_worth_175 ?_
            refine g_icmp_ne cx 183 e_X10_worth_176 (by decide) (fun zc69 => ?_) (fun zc69 => ?_)
            · have hk70 := hk68.trans (if_neg zc69)
              refine g_iconst cx 0 (by decide) e_X10_worth_183 ?_
              refine g_lsub [0, 2, 3] [(0, .ref (ad 0)), (5, .int r25), (6, .int r30)] rfl ?_
              exact J184 0 (jv_w (jv_k (x := 0) 0 (by decide)) (by decide)) hk70
            · have p71 := gn_eq 2 2 (gc_eq zc69) (jv_t a1) (jv_k (x := 2) 2 (by decide)) (by decide)
              have hk72 := hk68.trans (if_pos zc69)
              refine g_lsub [0, 2, 3] [(0, .ref (ad 0)), (5, .int r25), (6, .int r30)] rfl ?_
              exact J179  hk72
        refine g_if_eq cx 150 e_X10_worth_124 (by decide) (fun zc73 => ?_) (fun zc73 => ?_)
        · have p74 := gn_eq 0 0 (gc_eq zc73) py5 (jv_k (x := 0) 0 (by decide)) (by decide)
          have hk75 := hk34.trans (if_pos zc73)
          refine g_aload_n cx 2 rfl e_X10_worth_150 ?_
          refine g_get cx cl_X10 fl_X10_58 0 (.ref (ad 35)) e_X10_worth_151 rfl rfl ?_
          refine g_getN cx cl_X7 fn_X10_202 35 (.ref (ad 5)) e_X10_worth_154 rfl rfl ?_
          refine g_iload_n cx 3 rfl e_X10_worth_157 ?_
          refine g_iconst cx 5 (by decide) e_X10_worth_158 ?_
          refine g_iconst cx 0 (by decide) e_X10_worth_159 ?_
          refine g_cVvW cx [.int a0, .int 5, .int 0] [] (w_X8_change_5 l X ad F22 R23 oF22 oR23 a0 5 0) ml_X10_98 yV_X8_change e_X10_worth_160 (by unfold g_rr; decide) (by decide) 5 rfl rfl rfl (Nat.le_of_ble_eq_true rfl) (fun w77 h78 => ?_)
          obtain ⟨F80, R81, rfl, oF80, oR81, cF80, cR81, hx79⟩ := h78
          have hk82 := k_ls2 hk75 hx79
          have fF80 : g_fr md_X10_worth F F80 := g_fr_c fF22 cF80 rfl
          have fR81 : g_fr mr_X10_worth R R81 := g_fr_c fR23 cR81 rfl
          refine g_lsub [2, 4, 1, 0] [(0, .ref (ad 0)), (2, .int a1), (5, .int r25), (6, .int r30)] rfl ?_
          exact J163 F80 R81 oF80 fF80 oR81 fR81 hk82
        · have p83 := gn_neL 1 1 (gc_ne zc73) py5 (jv_k (x := 0) 0 (by decide)) (by decide)
          have hk84 := hk34.trans (if_neg zc73)
          refine g_aload_n cx 2 rfl e_X10_worth_127 ?_
          refine g_get cx cl_X10 fl_X10_58 0 (.ref (ad 35)) e_X10_worth_128 rfl rfl ?_
          refine g_getN cx cl_X7 fn_X10_202 35 (.ref (ad 5)) e_X10_worth_131 rfl rfl ?_
          refine g_dup cx rfl e_X10_worth_134 ?_
          refine g_getN cx cl_X8 fn_X10_92 5 (.int (F22 82)) e_X10_worth_135 rfl rfl ?_
          refine g_toi (F15 82) (cF22 82 rfl) ?_
          refine g_iconst cx 1 (by decide) e_X10_worth_138 ?_
          refine g_iload_n cx 3 rfl e_X10_worth_139 ?_
          refine g_ishl cx e_X10_worth_140 ?_
          refine g_topi (fun x85 ex85 => ?_)
          have hk86 := k_ls hk84 ex85
          refine g_iconst cx (-1) (by decide) e_X10_worth_141 ?_
          refine g_ixor cx e_X10_worth_142 ?_
          refine g_topi (fun x87 ex87 => ?_)
          have hk88 := k_ls hk86 ex87
          refine g_iand cx e_X10_worth_143 ?_
          refine g_topi (fun x89 ex89 => ?_)
          have hk90 := k_ls hk88 ex89
          refine g_putN cx cl_X8 fn_X10_92 5 (wX X ad (upd F22 82 x89) R23) e_X10_worth_144 rfl rfl rfl rfl (Nat.le_of_ble_eq_true rfl) rfl ?_
          obtain ⟨F91, hF91⟩ : ∃ z, z = upd F22 82 x89 := ⟨_, rfl⟩
          rw [← hF91]
          have hk92 := k_ls hk90 hF91
          have oF91 : g_ok LK_wX F91 := by rw [hF91]; exact g_ok_u oF22 rfl
          have fF91 : g_fr md_X10_worth F F91 := by rw [hF91]; exact g_fr_u fF22 rfl
          refine g_goto cx 163 e_X10_worth_147 (by decide) ?_
          refine g_lsub [2, 4, 1, 0] [(0, .ref (ad 0)), (2, .int a1), (5, .int r25), (6, .int r30)] rfl ?_
          exact J163 F91 R23 oF91 fF91 oR23 fR23 hk92
      refine g_if_ne cx 77 e_X10_worth_66 (by decide) (fun zc93 => ?_) (fun zc93 => ?_)
      · have p94 := gn_neL 1 1 (gc_ne zc93) py5 (jv_k (x := 0) 0 (by decide)) (by decide)
        have hk95 := hkJ63.trans (if_neg zc93)
        refine g_lsub [1, 2, 3, 4] [(0, .ref (ad 0)), (1, .int a0), (2, .int a1), (3, .int y5)] rfl ?_
        exact J77  hk95
      · have p96 := gn_eq 0 0 (gc_eq zc93) py5 (jv_k (x := 0) 0 (by decide)) (by decide)
        have hk97 := hkJ63.trans (if_pos zc93)
        refine g_iload cx 0 rfl e_X10_worth_69 ?_
        refine g_if_ne cx 77 e_X10_worth_71 (by decide) (fun zc98 => ?_) (fun zc98 => ?_)
        · have p99 := gn_neL 1 1 (gc_ne zc98) py10 (jv_k (x := 0) 0 (by decide)) (by decide)
          have hk100 := hk97.trans (if_neg zc98)
          refine g_lsub [1, 2, 3, 4] [(0, .ref (ad 0)), (1, .int a0), (2, .int a1), (3, .int y5)] rfl ?_
          exact J77  hk100
        · have p101 := gn_eq 0 0 (gc_eq zc98) py10 (jv_k (x := 0) 0 (by decide)) (by decide)
          have hk102 := hk97.trans (if_pos zc98)
          refine g_ldc cx (-100000) kc_X10_219 e_X10_worth_74 ?_
          exact hret e_X10_worth_76 (Nat.le_of_ble_eq_true rfl) (Nat.le_of_ble_eq_true rfl) rfl ⟨F, R, rfl, hI, hA, (g_fr_rf F), (g_fr_rf R), (jv_w (jv_k (x := (-100000)) (-100000) (by decide)) (by decide)), (hk102.symm.trans hSP)⟩
    have J62 : (SP = K_X10_worth_62 F R a0 a1 y5) → G X E 8 0 0 (wX X ad F R) [(0, .ref (ad 0)), (1, .int a0), (2, .int a1), (3, .int y5)] 62 [] := by
      intro   hkJ62
      unfold K_X10_worth_62 at hkJ62
      refine g_iconst cx 0 (by decide) e_X10_worth_62 ?_
      exact J63 0 (jv_w (jv_k (x := 0) 0 (by decide)) (by decide)) hkJ62
    refine g_if_eq cx 62 e_X10_worth_32 (by decide) (fun zc103 => ?_) (fun zc103 => ?_)
    · have p104 := gn_eq 0 0 (gc_eq zc103) pr6 (jv_k (x := 0) 0 (by decide)) (by decide)
      have hk105 := hk9.trans (if_pos zc103)
      refine g_lsub [1, 2, 3, 0] [(0, .ref (ad 0)), (1, .int a0), (2, .int a1), (3, .int y5)] rfl ?_
      exact J62  hk105
    · have p106 := gn_neL 1 1 (gc_ne zc103) pr6 (jv_k (x := 0) 0 (by decide)) (by decide)
      have p107 := jv_i 2 3 (jv_t a1) (gi_in (A := 2) (B := 3) hr6 zc103 (by decide) (by decide)) (by decide)
      have hk108 := hk9.trans (if_neg zc103)
      refine g_aload_n cx 1 rfl e_X10_worth_35 ?_
      refine g_get cx cl_X10 fl_X10_10 0 (.ref (ad 1)) e_X10_worth_36 rfl rfl ?_
      refine g_iload_n cx 2 rfl e_X10_worth_39 ?_
      refine g_cViW cx [.int a0] [] (w_X8_has_1 l X ad F R hI hA a0) ml_X10_102 yV_X8_has e_X10_worth_40 (by unfold g_rr; decide) (by decide) 1 rfl rfl rfl (Nat.le_of_ble_eq_true rfl) (fun r109 w110 h111 => ?_)
      obtain ⟨rfl, pr109, hx112⟩ := h111
      have hk113 := k_ls hk108 hx112
      refine g_if_eq cx 62 e_X10_worth_43 (by decide) (fun zc114 => ?_) (fun zc114 => ?_)
      · have p115 := gn_eq 0 0 (gc_eq zc114) pr109 (jv_k (x := 0) 0 (by decide)) (by decide)
        have hk116 := hk113.trans (if_pos zc114)
        refine g_lsub [1, 2, 3, 0] [(0, .ref (ad 0)), (1, .int a0), (2, .int a1), (3, .int y5)] rfl ?_
        exact J62  hk116
      · have p117 := gn_neL 1 1 (gc_ne zc114) pr109 (jv_k (x := 0) 0 (by decide)) (by decide)
        have hk118 := hk113.trans (if_neg zc114)
        refine g_aload_n cx 1 rfl e_X10_worth_46 ?_
        refine g_get cx cl_X10 fl_X10_10 0 (.ref (ad 1)) e_X10_worth_47 rfl rfl ?_
        refine g_iload_n cx 2 rfl e_X10_worth_50 ?_
        refine g_iconst cx 5 (by decide) e_X10_worth_51 ?_
        refine g_cViW cx [.int a0, .int 5] [] (w_X8_side_1 l X ad F R hI hA a0 5) ml_X10_173 yV_X8_side e_X10_worth_52 (by unfold g_rr; decide) (by decide) 1 rfl rfl rfl (Nat.le_of_ble_eq_true rfl) (fun r119 w120 h121 => ?_)
        obtain ⟨rfl, pr119, hx122⟩ := h121
        have hk123 := k_ls hk118 hx122
        refine g_if_eq cx 62 e_X10_worth_55 (by decide) (fun zc124 => ?_) (fun zc124 => ?_)
        · have p125 := gn_eq 0 0 (gc_eq zc124) pr119 (jv_k (x := 0) 0 (by decide)) (by decide)
          have hk126 := hk123.trans (if_pos zc124)
          refine g_lsub [1, 2, 3, 0] [(0, .ref (ad 0)), (1, .int a0), (2, .int a1), (3, .int y5)] rfl ?_
          exact J62  hk126
        · have hk127 := hk123.trans (if_neg zc124)
          refine g_iconst cx 1 (by decide) e_X10_worth_58 ?_
          refine g_goto cx 63 e_X10_worth_59 (by decide) ?_
          refine g_lsub [1, 2, 3, 0] [(0, .ref (ad 0)), (1, .int a0), (2, .int a1), (3, .int y5)] rfl ?_
          exact J63 1 (jv_w (jv_k (x := 1) 1 (by decide)) (by decide)) hk127
  have J24 : (SP = K_X10_worth_24 F R a0 a1) → G X E 8 0 0 (wX X ad F R) [(0, .ref (ad 0)), (1, .int a0), (2, .int a1)] 24 [] := by
    intro   hkJ24
    unfold K_X10_worth_24 at hkJ24
    refine g_iconst cx 0 (by decide) e_X10_worth_24 ?_
    exact J25 0 (jv_w (jv_k (x := 0) 0 (by decide)) (by decide)) hkJ24
  refine g_if_eq cx 24 e_X10_worth_6 (by decide) (fun zc128 => ?_) (fun zc128 => ?_)
  · have p129 := gn_eq 0 0 (gc_eq zc128) pr1 (jv_k (x := 0) 0 (by decide)) (by decide)
    have hk130 := hk4.trans (if_pos zc128)
    exact J24  hk130
  · have p131 := gn_neL 1 1 (gc_ne zc128) pr1 (jv_k (x := 0) 0 (by decide)) (by decide)
    have p132 := jv_i 0 1 (jv_t a1) (gi_in (A := 0) (B := 1) hr1 zc128 (by decide) (by decide)) (by decide)
    have hk133 := hk4.trans (if_neg zc128)
    refine g_aload_n cx 0 rfl e_X10_worth_9 ?_
    refine g_get cx cl_X10 fl_X10_10 0 (.ref (ad 1)) e_X10_worth_10 rfl rfl ?_
    refine g_iload_n cx 1 rfl e_X10_worth_13 ?_
    refine g_cViW cx [.int a0] [] (w_X8_hasFold_1 l X ad F R hI hA a0) ml_X10_216 yV_X8_hasFold e_X10_worth_14 (by unfold g_rr; decide) (by decide) 1 rfl rfl rfl (Nat.le_of_ble_eq_true rfl) (fun r134 w135 h136 => ?_)
    obtain ⟨rfl, pr134, hx137⟩ := h136
    have hk138 := k_ls hk133 hx137
    refine g_if_eq cx 24 e_X10_worth_17 (by decide) (fun zc139 => ?_) (fun zc139 => ?_)
    · have p140 := gn_eq 0 0 (gc_eq zc139) pr134 (jv_k (x := 0) 0 (by decide)) (by decide)
      have hk141 := hk138.trans (if_pos zc139)
      exact J24  hk141
    · have p142 := gn_neL 1 1 (gc_ne zc139) pr134 (jv_k (x := 0) 0 (by decide)) (by decide)
      have hk143 := hk138.trans (if_neg zc139)
      refine g_iconst cx 1 (by decide) e_X10_worth_20 ?_
      refine g_goto cx 25 e_X10_worth_21 (by decide) ?_
      exact J25 1 (jv_w (jv_k (x := 1) 1 (by decide)) (by decide)) hk143
def K_X10_canCompare_35  (y1 : Int32) : Int32 :=
  y1
def K_X10_canCompare_34   : Int32 :=
  K_X10_canCompare_35 0
def sp_X10_canCompare (F : Nat → Int32) (R : Nat → Nat → Int32) : Int32 :=
  if (F 19) = 0 then K_X10_canCompare_34 else k_lt (sp_J6_bitCount_0f7a4_s0 (F 19)) (fun r6 => if (F 145) < r6 then K_X10_canCompare_34 else K_X10_canCompare_35 1)
theorem e_X10_canCompare_0 : g_dc cX10_canCompare 0 (.aload_n 0) 1 1 := ⟨by decide +kernel, rfl⟩
theorem e_X10_canCompare_1 : g_dc cX10_canCompare 1 (.getfield 10) 3 4 := ⟨by decide +kernel, rfl⟩
theorem e_X10_canCompare_4 : g_dc cX10_canCompare 4 (.getfield 95) 3 7 := ⟨by decide +kernel, rfl⟩
theorem e_X10_canCompare_7 : g_dc cX10_canCompare 7 (.ifCond .eq 27) 3 10 := ⟨by decide +kernel, rfl⟩
theorem e_X10_canCompare_10 : g_dc cX10_canCompare 10 (.aload_n 0) 1 11 := ⟨by decide +kernel, rfl⟩
theorem e_X10_canCompare_11 : g_dc cX10_canCompare 11 (.getfield 10) 3 14 := ⟨by decide +kernel, rfl⟩
theorem e_X10_canCompare_14 : g_dc cX10_canCompare 14 (.getfield 95) 3 17 := ⟨by decide +kernel, rfl⟩
theorem e_X10_canCompare_17 : g_dc cX10_canCompare 17 (.invokestatic 211) 3 20 := ⟨by decide +kernel, rfl⟩
theorem e_X10_canCompare_20 : g_dc cX10_canCompare 20 (.aload_n 0) 1 21 := ⟨by decide +kernel, rfl⟩
theorem e_X10_canCompare_21 : g_dc cX10_canCompare 21 (.getfield 22) 3 24 := ⟨by decide +kernel, rfl⟩
theorem e_X10_canCompare_24 : g_dc cX10_canCompare 24 (.getfield 110) 3 27 := ⟨by decide +kernel, rfl⟩
theorem e_X10_canCompare_27 : g_dc cX10_canCompare 27 (.if_icmp .gt 7) 3 30 := ⟨by decide +kernel, rfl⟩
theorem e_X10_canCompare_30 : g_dc cX10_canCompare 30 (.iconst 1) 1 31 := ⟨by decide +kernel, rfl⟩
theorem e_X10_canCompare_31 : g_dc cX10_canCompare 31 (.goto 4) 3 34 := ⟨by decide +kernel, rfl⟩
theorem e_X10_canCompare_34 : g_dc cX10_canCompare 34 (.iconst 0) 1 35 := ⟨by decide +kernel, rfl⟩
theorem e_X10_canCompare_35 : g_dc cX10_canCompare 35 (.ireturn) 1 36 := ⟨by decide +kernel, rfl⟩
set_option maxHeartbeats 4000000 in
set_option maxRecDepth 100000 in
theorem w_X10_canCompare (l : Launch) (X : gX) (ad : Nat → Nat) (F : Nat → Int32) (R : Nat → Nat → Int32) (hI : g_ok LK_wX F) (hA : g_okR LA_wX R) : g_Ci l X yX10_canCompare cX10_canCompare 1 (some .boolean) 2 0 0 [.ref (ad 0)] (wX X ad F R) (fun r w => w = wX X ad F R ∧ jv 0 1 r ∧ r = sp_X10_canCompare F R) := by
  refine g_mi (by decide +kernel) (Nat.le_of_ble_eq_true rfl) (fun E cx hret => ?_)
  obtain ⟨SP, hSP⟩ : ∃ z, z = sp_X10_canCompare F R := ⟨_, rfl⟩
  have hk0 := hSP
  unfold sp_X10_canCompare at hk0
  refine g_aload_n cx 0 rfl e_X10_canCompare_0 ?_
  refine g_get cx cl_X10 fl_X10_10 0 (.ref (ad 1)) e_X10_canCompare_1 rfl rfl ?_
  refine g_getN cx cl_X8 fn_X10_95 1 (.int (F 19)) e_X10_canCompare_4 rfl rfl ?_
  have J35 : ∀ (y1 : Int32), (jv 0 1 y1) → (SP = K_X10_canCompare_35 y1) → G X E 1 0 0 (wX X ad F R) [] 35 [.int y1] := by
    intro y1 py1 hkJ35
    unfold K_X10_canCompare_35 at hkJ35
    exact hret e_X10_canCompare_35 (Nat.le_of_ble_eq_true rfl) (Nat.le_of_ble_eq_true rfl) (g_narb py1) ⟨rfl, py1, (hkJ35.symm.trans hSP)⟩
  have J34 : (SP = K_X10_canCompare_34) → G X E 1 0 0 (wX X ad F R) [] 34 [] := by
    intro   hkJ34
    unfold K_X10_canCompare_34 at hkJ34
    refine g_iconst cx 0 (by decide) e_X10_canCompare_34 ?_
    exact J35 0 (jv_w (jv_k (x := 0) 0 (by decide)) (by decide)) hkJ34
  refine g_if_eq cx 34 e_X10_canCompare_7 (by decide) (fun zc2 => ?_) (fun zc2 => ?_)
  · have p3 := gn_eq 0 0 (gc_eq zc2) (jv_t (F 19)) (jv_k (x := 0) 0 (by decide)) (by decide)
    have hk4 := hk0.trans (if_pos zc2)
    refine g_lsub [] [] rfl ?_
    exact J34  hk4
  · have hk5 := hk0.trans (if_neg zc2)
    refine g_aload_n cx 0 rfl e_X10_canCompare_10 ?_
    refine g_get cx cl_X10 fl_X10_10 0 (.ref (ad 1)) e_X10_canCompare_11 rfl rfl ?_
    refine g_getN cx cl_X8 fn_X10_95 1 (.int (F 19)) e_X10_canCompare_14 rfl rfl ?_
    refine g_cOiW cx [.int (F 19)] [] (w_J6_bitCount_0f7a4_s0 l X (wX X ad F R) (F 19)) ml_X10_211 yS_J6_bitCount_0f7a4 e_X10_canCompare_17 (by unfold g_rr; decide) (by decide) rfl (Nat.le_of_ble_eq_true rfl) (fun r6 w7 h8 => ?_)
    obtain ⟨rfl, pr6, hr6⟩ := h8
    have hk9 := k_ls hk5 hr6
    refine g_aload_n cx 0 rfl e_X10_canCompare_20 ?_
    refine g_get cx cl_X10 fl_X10_22 0 (.ref (ad 9)) e_X10_canCompare_21 rfl rfl ?_
    refine g_getN cx cl_X9 fn_X10_110 9 (.int (F 145)) e_X10_canCompare_24 rfl rfl ?_
    refine g_icmp_gt cx 34 e_X10_canCompare_27 (by decide) (fun zc10 => ?_) (fun zc10 => ?_)
    · have p11 := gn_lt 0 62 (gc_lt zc10) (g_ok_g hI 1 rfl) pr6 (by decide)
      have p12 := gn_gt 1 63 (gc_lt zc10) pr6 (g_ok_g hI 1 rfl) (by decide)
      have hk13 := hk9.trans (if_pos zc10)
      refine g_lsub [] [] rfl ?_
      exact J34  hk13
    · have hk14 := hk9.trans (if_neg zc10)
      refine g_iconst cx 1 (by decide) e_X10_canCompare_30 ?_
      refine g_goto cx 35 e_X10_canCompare_31 (by decide) ?_
      refine g_lsub [] [] rfl ?_
      exact J35 1 (jv_w (jv_k (x := 1) 1 (by decide)) (by decide)) hk14
def K_X8_has_5_26  (y5 : Int32) : Int32 :=
  y5
def K_X8_has_5_25   : Int32 :=
  K_X8_has_5_26 0
def sp_X8_has_5 (F : Nat → Int32) (R : Nat → Nat → Int32) (a0 : Int32) : Int32 :=
  k_lt (g_in a0 0 9) (fun r1 => if r1 = 0 then K_X8_has_5_25 else k_lt (1 <<< (a0 &&& 31)) (fun x12 => k_lt ((F 83) &&& x12) (fun x14 => if x14 = 0 then K_X8_has_5_25 else K_X8_has_5_26 1)))
set_option maxHeartbeats 4000000 in
set_option maxRecDepth 100000 in
theorem w_X8_has_5 (l : Launch) (X : gX) (ad : Nat → Nat) (F : Nat → Int32) (R : Nat → Nat → Int32) (hI : g_ok LK_wX F) (hA : g_okR LA_wX R) (a0 : Int32) : g_Ci l X yX8_has cX8_has 2 (some .boolean) 2 0 0 [.ref (ad 5), .int a0] (wX X ad F R) (fun r w => w = wX X ad F R ∧ jv 0 1 r ∧ r = sp_X8_has_5 F R a0) := by
  refine g_mi (by decide +kernel) (Nat.le_of_ble_eq_true rfl) (fun E cx hret => ?_)
  obtain ⟨SP, hSP⟩ : ∃ z, z = sp_X8_has_5 F R a0 := ⟨_, rfl⟩
  have hk0 := hSP
  unfold sp_X8_has_5 at hk0
  refine g_iload_n cx 1 rfl e_X8_has_0 ?_
  refine g_iconst cx 0 (by decide) e_X8_has_1 ?_
  refine g_bipush cx 9 (by decide) e_X8_has_2 ?_
  refine g_cNiW cx [.int a0, .int 0, .int 9] [] (c_X10_within l X (wX X ad F R) a0 0 9) mn_X8_31 yS_X10_within e_X8_has_4 (by unfold g_rr; decide) (by decide) rfl (Nat.le_of_ble_eq_true rfl) (fun r1 w2 h3 => ?_)
  obtain ⟨rfl, hr1⟩ := h3
  have pr1 : jv 0 1 r1 := by rw [hr1]; exact gi_01 _ _ _
  have hk4 := k_ls hk0 hr1
  have J26 : ∀ (y5 : Int32), (jv 0 1 y5) → (SP = K_X8_has_5_26 y5) → G X E 2 0 0 (wX X ad F R) [] 26 [.int y5] := by
    intro y5 py5 hkJ26
    unfold K_X8_has_5_26 at hkJ26
    exact hret e_X8_has_26 (Nat.le_of_ble_eq_true rfl) (Nat.le_of_ble_eq_true rfl) (g_narb py5) ⟨rfl, py5, (hkJ26.symm.trans hSP)⟩
  have J25 : (SP = K_X8_has_5_25) → G X E 2 0 0 (wX X ad F R) [] 25 [] := by
    intro   hkJ25
    unfold K_X8_has_5_25 at hkJ25
    refine g_iconst cx 0 (by decide) e_X8_has_25 ?_
    exact J26 0 (jv_w (jv_k (x := 0) 0 (by decide)) (by decide)) hkJ25
  refine g_if_eq cx 25 e_X8_has_7 (by decide) (fun zc6 => ?_) (fun zc6 => ?_)
  · have p7 := gn_eq 0 0 (gc_eq zc6) pr1 (jv_k (x := 0) 0 (by decide)) (by decide)
    have hk8 := hk4.trans (if_pos zc6)
    refine g_lsub [] [] rfl ?_
    exact J25  hk8
  · have p9 := gn_neL 1 1 (gc_ne zc6) pr1 (jv_k (x := 0) 0 (by decide)) (by decide)
    have p10 := jv_i 0 9 (jv_t a0) (gi_in (A := 0) (B := 9) hr1 zc6 (by decide) (by decide)) (by decide)
    have hk11 := hk4.trans (if_neg zc6)
    refine g_aload_n cx 0 rfl e_X8_has_10 ?_
    refine g_get cx cl_X8 fl_X8_21 5 (.int (F 83)) e_X8_has_11 rfl rfl ?_
    refine g_iconst cx 1 (by decide) e_X8_has_14 ?_
    refine g_iload_n cx 1 rfl e_X8_has_15 ?_
    refine g_ishl cx e_X8_has_16 ?_
    refine g_topi (fun x12 ex12 => ?_)
    have hk13 := k_ls hk11 ex12
    refine g_iand cx e_X8_has_17 ?_
    refine g_topi (fun x14 ex14 => ?_)
    have hk15 := k_ls hk13 ex14
    refine g_if_eq cx 25 e_X8_has_18 (by decide) (fun zc16 => ?_) (fun zc16 => ?_)
    · have p17 := gn_eq 0 0 (gc_eq zc16) (jv_t x14) (jv_k (x := 0) 0 (by decide)) (by decide)
      have hk18 := hk15.trans (if_pos zc16)
      refine g_lsub [] [] rfl ?_
      exact J25  hk18
    · have hk19 := hk15.trans (if_neg zc16)
      refine g_iconst cx 1 (by decide) e_X8_has_21 ?_
      refine g_goto cx 26 e_X8_has_22 (by decide) ?_
      refine g_lsub [] [] rfl ?_
      exact J26 1 (jv_w (jv_k (x := 1) 1 (by decide)) (by decide)) hk19
def K_X7_noteFit_r9_29 (R : Nat → Nat → Int32) (F9 : Nat → Int32) : (Nat → Int32) × (Nat → Nat → Int32) :=
  k_lt ((F9 568) + 1) (fun x10 => k_lt (upd F9 568 x10) (fun F12 => (F12, R)))
def sp_X7_noteFit_r9 (F : Nat → Int32) (R : Nat → Nat → Int32) (a1 : Int32) (a2 : Int32) : (Nat → Int32) × (Nat → Nat → Int32) :=
  k_lt (sp_X4_isAsTold_r9 F R) (fun r1 => if r1 = 0 then (F, R) else if (F 568) = 0 then k_lt (upd F 566 a1) (fun F18 => k_lt (upd F18 567 a2) (fun F20 => K_X7_noteFit_r9_29 R F20)) else K_X7_noteFit_r9_29 R F)
theorem e_X7_noteFit_0 : g_dc cX7_noteFit 0 (.aload_n 0) 1 1 := ⟨by decide +kernel, rfl⟩
theorem e_X7_noteFit_1 : g_dc cX7_noteFit 1 (.getfield 63) 3 4 := ⟨by decide +kernel, rfl⟩
theorem e_X7_noteFit_4 : g_dc cX7_noteFit 4 (.aload_n 1) 1 5 := ⟨by decide +kernel, rfl⟩
theorem e_X7_noteFit_5 : g_dc cX7_noteFit 5 (.invokevirtual 159) 3 8 := ⟨by decide +kernel, rfl⟩
theorem e_X7_noteFit_8 : g_dc cX7_noteFit 8 (.ifCond .ne 4) 3 11 := ⟨by decide +kernel, rfl⟩
theorem e_X7_noteFit_11 : g_dc cX7_noteFit 11 (.return_) 1 12 := ⟨by decide +kernel, rfl⟩
theorem e_X7_noteFit_12 : g_dc cX7_noteFit 12 (.aload_n 0) 1 13 := ⟨by decide +kernel, rfl⟩
theorem e_X7_noteFit_13 : g_dc cX7_noteFit 13 (.getfield 24) 3 16 := ⟨by decide +kernel, rfl⟩
theorem e_X7_noteFit_16 : g_dc cX7_noteFit 16 (.ifCond .ne 13) 3 19 := ⟨by decide +kernel, rfl⟩
theorem e_X7_noteFit_19 : g_dc cX7_noteFit 19 (.aload_n 0) 1 20 := ⟨by decide +kernel, rfl⟩
theorem e_X7_noteFit_20 : g_dc cX7_noteFit 20 (.iload_n 2) 1 21 := ⟨by decide +kernel, rfl⟩
theorem e_X7_noteFit_21 : g_dc cX7_noteFit 21 (.putfield 18) 3 24 := ⟨by decide +kernel, rfl⟩
theorem e_X7_noteFit_24 : g_dc cX7_noteFit 24 (.aload_n 0) 1 25 := ⟨by decide +kernel, rfl⟩
theorem e_X7_noteFit_25 : g_dc cX7_noteFit 25 (.iload_n 3) 1 26 := ⟨by decide +kernel, rfl⟩
theorem e_X7_noteFit_26 : g_dc cX7_noteFit 26 (.putfield 21) 3 29 := ⟨by decide +kernel, rfl⟩
theorem e_X7_noteFit_29 : g_dc cX7_noteFit 29 (.aload_n 0) 1 30 := ⟨by decide +kernel, rfl⟩
theorem e_X7_noteFit_30 : g_dc cX7_noteFit 30 (.dup) 1 31 := ⟨by decide +kernel, rfl⟩
theorem e_X7_noteFit_31 : g_dc cX7_noteFit 31 (.getfield 24) 3 34 := ⟨by decide +kernel, rfl⟩
theorem e_X7_noteFit_34 : g_dc cX7_noteFit 34 (.iconst 1) 1 35 := ⟨by decide +kernel, rfl⟩
theorem e_X7_noteFit_35 : g_dc cX7_noteFit 35 (.iadd) 1 36 := ⟨by decide +kernel, rfl⟩
theorem e_X7_noteFit_36 : g_dc cX7_noteFit 36 (.putfield 24) 3 39 := ⟨by decide +kernel, rfl⟩
theorem e_X7_noteFit_39 : g_dc cX7_noteFit 39 (.return_) 1 40 := ⟨by decide +kernel, rfl⟩
def md_X7_noteFit_r9 : List Nat := [566, 567, 568]
def mr_X7_noteFit_r9 : List Nat := []
set_option maxHeartbeats 4000000 in
set_option maxRecDepth 100000 in
theorem w_X7_noteFit_r9 (l : Launch) (X : gX) (ad : Nat → Nat) (F : Nat → Int32) (R : Nat → Nat → Int32) (hI : g_ok LK_wX F) (hA : g_okR LA_wX R) (a1 : Int32) (a2 : Int32) : g_Cv l X yX7_noteFit cX7_noteFit 4 4 0 0 [.ref (ad 35), .ref (ad 9), .int a1, .int a2] (wX X ad F R) (fun w => ∃ (F' : Nat → Int32) (R' : Nat → Nat → Int32), w = wX X ad F' R' ∧ g_ok LK_wX F' ∧ g_okR LA_wX R' ∧ g_fr md_X7_noteFit_r9 F F' ∧ g_fr mr_X7_noteFit_r9 R R' ∧ (F', R') = sp_X7_noteFit_r9 F R a1 a2) := by
  refine g_mv (by decide +kernel) (Nat.le_of_ble_eq_true rfl) (fun E cx hret => ?_)
  obtain ⟨SP, hSP⟩ : ∃ z, z = sp_X7_noteFit_r9 F R a1 a2 := ⟨_, rfl⟩
  have hk0 := hSP
  unfold sp_X7_noteFit_r9 at hk0
  refine g_aload_n cx 0 rfl e_X7_noteFit_0 ?_
  refine g_get cx cl_X7 fl_X7_63 35 (.ref (ad 43)) e_X7_noteFit_1 rfl rfl ?_
  refine g_aload_n cx 1 rfl e_X7_noteFit_4 ?_
  refine g_cViW cx [.ref (ad 9)] [] (w_X4_isAsTold_r9 l X ad F R hI hA) ml_X7_159 yV_X4_isAsTold e_X7_noteFit_5 (by unfold g_rr; decide) (by decide) 43 rfl rfl rfl (Nat.le_of_ble_eq_true rfl) (fun r1 w2 h3 => ?_)
  obtain ⟨rfl, pr1, hx4⟩ := h3
  have hk5 := k_ls hk0 hx4
  refine g_if_ne cx 12 e_X7_noteFit_8 (by decide) (fun zc6 => ?_) (fun zc6 => ?_)
  · have p7 := gn_neL 1 1 (gc_ne zc6) pr1 (jv_k (x := 0) 0 (by decide)) (by decide)
    have hk8 := hk5.trans (if_neg zc6)
    refine g_aload_n cx 0 rfl e_X7_noteFit_12 ?_
    refine g_get cx cl_X7 fl_X7_24 35 (.int (F 568)) e_X7_noteFit_13 rfl rfl ?_
    have J29 : ∀ (F9 : Nat → Int32), (g_ok LK_wX F9) → (g_fr md_X7_noteFit_r9 F F9) → (SP = K_X7_noteFit_r9_29 R F9) → G X E 4 0 0 (wX X ad F9 R) [(0, .ref (ad 35))] 29 [] := by
      intro F9 oF9 fF9 hkJ29
      unfold K_X7_noteFit_r9_29 at hkJ29
      refine g_aload_n cx 0 rfl e_X7_noteFit_29 ?_
      refine g_dup cx rfl e_X7_noteFit_30 ?_
      refine g_get cx cl_X7 fl_X7_24 35 (.int (F9 568)) e_X7_noteFit_31 rfl rfl ?_
      refine g_iconst cx 1 (by decide) e_X7_noteFit_34 ?_
      refine g_iadd cx e_X7_noteFit_35 ?_
      refine g_topi (fun x10 ex10 => ?_)
      have hk11 := k_ls hkJ29 ex10
      refine g_put cx cl_X7 fl_X7_24 35 (wX X ad (upd F9 568 x10) R) e_X7_noteFit_36 rfl rfl rfl rfl (Nat.le_of_ble_eq_true rfl) rfl ?_
      obtain ⟨F12, hF12⟩ : ∃ z, z = upd F9 568 x10 := ⟨_, rfl⟩
      rw [← hF12]
      have hk13 := k_ls hk11 hF12
      have oF12 : g_ok LK_wX F12 := by rw [hF12]; exact g_ok_u oF9 rfl
      have fF12 : g_fr md_X7_noteFit_r9 F F12 := by rw [hF12]; exact g_fr_u fF9 rfl
      exact hret e_X7_noteFit_39 (Nat.le_of_ble_eq_true rfl) (Nat.le_of_ble_eq_true rfl) ⟨F12, R, rfl, oF12, hA, fF12, (g_fr_rf R), (hk13.symm.trans hSP)⟩
    refine g_if_ne cx 29 e_X7_noteFit_16 (by decide) (fun zc14 => ?_) (fun zc14 => ?_)
    · have hk15 := hk8.trans (if_neg zc14)
      refine g_lsub [0] [(0, .ref (ad 35))] rfl ?_
      exact J29 F hI (g_fr_rf F) hk15
    · have p16 := gn_eq 0 0 (gc_eq zc14) (jv_t (F 568)) (jv_k (x := 0) 0 (by decide)) (by decide)
      have hk17 := hk8.trans (if_pos zc14)
      refine g_aload_n cx 0 rfl e_X7_noteFit_19 ?_
      refine g_iload_n cx 2 rfl e_X7_noteFit_20 ?_
      refine g_put cx cl_X7 fl_X7_18 35 (wX X ad (upd F 566 a1) R) e_X7_noteFit_21 rfl rfl rfl rfl (Nat.le_of_ble_eq_true rfl) rfl ?_
      obtain ⟨F18, hF18⟩ : ∃ z, z = upd F 566 a1 := ⟨_, rfl⟩
      rw [← hF18]
      have hk19 := k_ls hk17 hF18
      have oF18 : g_ok LK_wX F18 := by rw [hF18]; exact g_ok_u hI rfl
      have fF18 : g_fr md_X7_noteFit_r9 F F18 := by rw [hF18]; exact g_fr_u (g_fr_rf F) rfl
      refine g_aload_n cx 0 rfl e_X7_noteFit_24 ?_
      refine g_iload_n cx 3 rfl e_X7_noteFit_25 ?_
      refine g_put cx cl_X7 fl_X7_21 35 (wX X ad (upd F18 567 a2) R) e_X7_noteFit_26 rfl rfl rfl rfl (Nat.le_of_ble_eq_true rfl) rfl ?_
      obtain ⟨F20, hF20⟩ : ∃ z, z = upd F18 567 a2 := ⟨_, rfl⟩
      rw [← hF20]
      have hk21 := k_ls hk19 hF20
      have oF20 : g_ok LK_wX F20 := by rw [hF20]; exact g_ok_u oF18 rfl
      have fF20 : g_fr md_X7_noteFit_r9 F F20 := by rw [hF20]; exact g_fr_u fF18 rfl
      refine g_lsub [0] [(0, .ref (ad 35))] rfl ?_
      exact J29 F20 oF20 fF20 hk21
  · have p22 := gn_eq 0 0 (gc_eq zc6) pr1 (jv_k (x := 0) 0 (by decide)) (by decide)
    have hk23 := hk5.trans (if_pos zc6)
    exact hret e_X7_noteFit_11 (Nat.le_of_ble_eq_true rfl) (Nat.le_of_ble_eq_true rfl) ⟨F, R, rfl, hI, hA, (g_fr_rf F), (g_fr_rf R), (hk23.symm.trans hSP)⟩
def K_X7_findWet_r9_82 (b7 : (Nat → Int32) → (Nat → Nat → Int32) → (Int32) → (Nat → Int32) × (Nat → Nat → Int32)) (F17 : Nat → Int32) (R18 : Nat → Nat → Int32) (r11 : Int32) (y3 : Int32)  : (Nat → Int32) × (Nat → Nat → Int32) :=
  k_lt2 (sp_X8_change_5 F17 R18 y3 5 r11) (fun F23 R24 => k_lt (y3 + 1) (fun x26 => b7 F23 R24 x26))
def K_X7_findWet_r9_76 (b26 : (Nat → Int32) → (Nat → Nat → Int32) → (Int32) → (Nat → Int32) × (Nat → Nat → Int32)) (y16 : Int32) (F43 : Nat → Int32) (R44 : Nat → Nat → Int32) : (Nat → Int32) × (Nat → Nat → Int32) :=
  k_lt (y16 + 1) (fun x45 => b26 F43 R44 x45)
def KB_X7_findWet_r9_26 (b26 : (Nat → Int32) → (Nat → Nat → Int32) → (Int32) → (Nat → Int32) × (Nat → Nat → Int32)) (b7 : (Nat → Int32) → (Nat → Nat → Int32) → (Int32) → (Nat → Int32) × (Nat → Nat → Int32)) (r11 : Int32) (y3 : Int32) (F17 : Nat → Int32) (R18 : Nat → Nat → Int32) (y16 : Int32) : (Nat → Int32) × (Nat → Nat → Int32) :=
  if 9 < y16 then K_X7_findWet_r9_82 b7 F17 R18 r11 y3 else k_lt (sp_X8_has_5 F17 R18 y3) (fun r33 => if r33 = 0 then K_X7_findWet_r9_82 b7 F17 R18 r11 y3 else if y16 = r11 then K_X7_findWet_r9_76 b26 y16 F17 R18 else k_lt2 (sp_X8_change_5 F17 R18 y3 5 y16) (fun F55 R56 => k_lt2 (sp_X0_run F55 R56) (fun F62 R63 => k_lt2 (sp_X7_noteFit_r9 F62 R63 y3 y16) (fun F69 R70 => K_X7_findWet_r9_76 b26 y16 F69 R70))))
def K_X7_findWet_r9_26 (b7 : (Nat → Int32) → (Nat → Nat → Int32) → (Int32) → (Nat → Int32) × (Nat → Nat → Int32)) (r11 : Int32) (y3 : Int32) : Nat → (Nat → Int32) → (Nat → Nat → Int32) → (Int32) → (Nat → Int32) × (Nat → Nat → Int32)
  | 0 => fun F17 R18 _ => (F17, R18)
  | n + 1 => KB_X7_findWet_r9_26 (K_X7_findWet_r9_26 b7 r11 y3 n) b7 r11 y3
def KB_X7_findWet_r9_7 (b7 : (Nat → Int32) → (Nat → Nat → Int32) → (Int32) → (Nat → Int32) × (Nat → Nat → Int32))  (F4 : Nat → Int32) (R5 : Nat → Nat → Int32) (y3 : Int32) : (Nat → Int32) × (Nat → Nat → Int32) :=
  if 10 ≤ y3 then (F4, R5) else k_lt (sp_X8_side_5 F4 R5 y3 5) (fun r11 => K_X7_findWet_r9_26 b7 r11 y3 8589934592 F4 R5 0)
def K_X7_findWet_r9_7  : Nat → (Nat → Int32) → (Nat → Nat → Int32) → (Int32) → (Nat → Int32) × (Nat → Nat → Int32)
  | 0 => fun F4 R5 _ => (F4, R5)
  | n + 1 => KB_X7_findWet_r9_7 (K_X7_findWet_r9_7 n)
def sp_X7_findWet_r9 (F : Nat → Int32) (R : Nat → Nat → Int32) : (Nat → Int32) × (Nat → Nat → Int32) :=
  k_lt (upd F 568 0) (fun F1 => K_X7_findWet_r9_7 8589934592 F1 R 0)
theorem e_X7_findWet_0 : g_dc cX7_findWet 0 (.aload_n 0) 1 1 := ⟨by decide +kernel, rfl⟩
theorem e_X7_findWet_1 : g_dc cX7_findWet 1 (.iconst 0) 1 2 := ⟨by decide +kernel, rfl⟩
theorem e_X7_findWet_2 : g_dc cX7_findWet 2 (.putfield 24) 3 5 := ⟨by decide +kernel, rfl⟩
theorem e_X7_findWet_5 : g_dc cX7_findWet 5 (.iconst 0) 1 6 := ⟨by decide +kernel, rfl⟩
theorem e_X7_findWet_6 : g_dc cX7_findWet 6 (.istore_n 2) 1 7 := ⟨by decide +kernel, rfl⟩
theorem e_X7_findWet_7 : g_dc cX7_findWet 7 (.iload_n 2) 1 8 := ⟨by decide +kernel, rfl⟩
theorem e_X7_findWet_8 : g_dc cX7_findWet 8 (.bipush 10) 2 10 := ⟨by decide +kernel, rfl⟩
theorem e_X7_findWet_10 : g_dc cX7_findWet 10 (.if_icmp .ge 88) 3 13 := ⟨by decide +kernel, rfl⟩
theorem e_X7_findWet_13 : g_dc cX7_findWet 13 (.aload_n 0) 1 14 := ⟨by decide +kernel, rfl⟩
theorem e_X7_findWet_14 : g_dc cX7_findWet 14 (.getfield 53) 3 17 := ⟨by decide +kernel, rfl⟩
theorem e_X7_findWet_17 : g_dc cX7_findWet 17 (.iload_n 2) 1 18 := ⟨by decide +kernel, rfl⟩
theorem e_X7_findWet_18 : g_dc cX7_findWet 18 (.iconst 5) 1 19 := ⟨by decide +kernel, rfl⟩
theorem e_X7_findWet_19 : g_dc cX7_findWet 19 (.invokevirtual 144) 3 22 := ⟨by decide +kernel, rfl⟩
theorem e_X7_findWet_22 : g_dc cX7_findWet 22 (.istore_n 3) 1 23 := ⟨by decide +kernel, rfl⟩
theorem e_X7_findWet_23 : g_dc cX7_findWet 23 (.iconst 0) 1 24 := ⟨by decide +kernel, rfl⟩
theorem e_X7_findWet_24 : g_dc cX7_findWet 24 (.istore 4) 2 26 := ⟨by decide +kernel, rfl⟩
theorem e_X7_findWet_26 : g_dc cX7_findWet 26 (.iload 4) 2 28 := ⟨by decide +kernel, rfl⟩
theorem e_X7_findWet_28 : g_dc cX7_findWet 28 (.bipush 9) 2 30 := ⟨by decide +kernel, rfl⟩
theorem e_X7_findWet_30 : g_dc cX7_findWet 30 (.if_icmp .gt 52) 3 33 := ⟨by decide +kernel, rfl⟩
theorem e_X7_findWet_33 : g_dc cX7_findWet 33 (.aload_n 0) 1 34 := ⟨by decide +kernel, rfl⟩
theorem e_X7_findWet_34 : g_dc cX7_findWet 34 (.getfield 53) 3 37 := ⟨by decide +kernel, rfl⟩
theorem e_X7_findWet_37 : g_dc cX7_findWet 37 (.iload_n 2) 1 38 := ⟨by decide +kernel, rfl⟩
theorem e_X7_findWet_38 : g_dc cX7_findWet 38 (.invokevirtual 148) 3 41 := ⟨by decide +kernel, rfl⟩
theorem e_X7_findWet_41 : g_dc cX7_findWet 41 (.ifCond .eq 41) 3 44 := ⟨by decide +kernel, rfl⟩
theorem e_X7_findWet_44 : g_dc cX7_findWet 44 (.iload 4) 2 46 := ⟨by decide +kernel, rfl⟩
theorem e_X7_findWet_46 : g_dc cX7_findWet 46 (.iload_n 3) 1 47 := ⟨by decide +kernel, rfl⟩
theorem e_X7_findWet_47 : g_dc cX7_findWet 47 (.if_icmp .eq 29) 3 50 := ⟨by decide +kernel, rfl⟩
theorem e_X7_findWet_50 : g_dc cX7_findWet 50 (.aload_n 0) 1 51 := ⟨by decide +kernel, rfl⟩
theorem e_X7_findWet_51 : g_dc cX7_findWet 51 (.getfield 53) 3 54 := ⟨by decide +kernel, rfl⟩
theorem e_X7_findWet_54 : g_dc cX7_findWet 54 (.iload_n 2) 1 55 := ⟨by decide +kernel, rfl⟩
theorem e_X7_findWet_55 : g_dc cX7_findWet 55 (.iconst 5) 1 56 := ⟨by decide +kernel, rfl⟩
theorem e_X7_findWet_56 : g_dc cX7_findWet 56 (.iload 4) 2 58 := ⟨by decide +kernel, rfl⟩
theorem e_X7_findWet_58 : g_dc cX7_findWet 58 (.invokevirtual 152) 3 61 := ⟨by decide +kernel, rfl⟩
theorem e_X7_findWet_61 : g_dc cX7_findWet 61 (.aload_n 0) 1 62 := ⟨by decide +kernel, rfl⟩
theorem e_X7_findWet_62 : g_dc cX7_findWet 62 (.getfield 46) 3 65 := ⟨by decide +kernel, rfl⟩
theorem e_X7_findWet_65 : g_dc cX7_findWet 65 (.invokevirtual 89) 3 68 := ⟨by decide +kernel, rfl⟩
theorem e_X7_findWet_68 : g_dc cX7_findWet 68 (.aload_n 0) 1 69 := ⟨by decide +kernel, rfl⟩
theorem e_X7_findWet_69 : g_dc cX7_findWet 69 (.aload_n 1) 1 70 := ⟨by decide +kernel, rfl⟩
theorem e_X7_findWet_70 : g_dc cX7_findWet 70 (.iload_n 2) 1 71 := ⟨by decide +kernel, rfl⟩
theorem e_X7_findWet_71 : g_dc cX7_findWet 71 (.iload 4) 2 73 := ⟨by decide +kernel, rfl⟩
theorem e_X7_findWet_73 : g_dc cX7_findWet 73 (.invokevirtual 155) 3 76 := ⟨by decide +kernel, rfl⟩
theorem e_X7_findWet_76 : g_dc cX7_findWet 76 (.iinc 4 1) 3 79 := ⟨by decide +kernel, rfl⟩
theorem e_X7_findWet_79 : g_dc cX7_findWet 79 (.goto (-53)) 3 82 := ⟨by decide +kernel, rfl⟩
theorem e_X7_findWet_82 : g_dc cX7_findWet 82 (.aload_n 0) 1 83 := ⟨by decide +kernel, rfl⟩
theorem e_X7_findWet_83 : g_dc cX7_findWet 83 (.getfield 53) 3 86 := ⟨by decide +kernel, rfl⟩
theorem e_X7_findWet_86 : g_dc cX7_findWet 86 (.iload_n 2) 1 87 := ⟨by decide +kernel, rfl⟩
theorem e_X7_findWet_87 : g_dc cX7_findWet 87 (.iconst 5) 1 88 := ⟨by decide +kernel, rfl⟩
theorem e_X7_findWet_88 : g_dc cX7_findWet 88 (.iload_n 3) 1 89 := ⟨by decide +kernel, rfl⟩
theorem e_X7_findWet_89 : g_dc cX7_findWet 89 (.invokevirtual 152) 3 92 := ⟨by decide +kernel, rfl⟩
theorem e_X7_findWet_92 : g_dc cX7_findWet 92 (.iinc 2 1) 3 95 := ⟨by decide +kernel, rfl⟩
theorem e_X7_findWet_95 : g_dc cX7_findWet 95 (.goto (-88)) 3 98 := ⟨by decide +kernel, rfl⟩
theorem e_X7_findWet_98 : g_dc cX7_findWet 98 (.return_) 1 99 := ⟨by decide +kernel, rfl⟩
def md_X7_findWet_r9 : List Nat := [566, 567, 568, 601, 602, 603, 604, 605, 606, 673, 675, 691, 692, 693, 694, 695, 696, 697, 698]
def mr_X7_findWet_r9 : List Nat := [6, 23, 24, 38, 39, 40, 41, 44, 45, 46]
set_option maxHeartbeats 4000000 in
set_option maxRecDepth 100000 in
theorem w_X7_findWet_r9 (l : Launch) (X : gX) (ad : Nat → Nat) (F : Nat → Int32) (R : Nat → Nat → Int32) (hI : g_ok LK_wX F) (hA : g_okR LA_wX R) : g_Cv l X yX7_findWet cX7_findWet 5 7 0 0 [.ref (ad 35), .ref (ad 9)] (wX X ad F R) (fun w => ∃ (F' : Nat → Int32) (R' : Nat → Nat → Int32), w = wX X ad F' R' ∧ g_ok LK_wX F' ∧ g_okR LA_wX R' ∧ g_fr md_X7_findWet_r9 F F' ∧ g_fr mr_X7_findWet_r9 R R' ∧ (F', R') = sp_X7_findWet_r9 F R) := by
  refine g_mv (by decide +kernel) (Nat.le_of_ble_eq_true rfl) (fun E cx hret => ?_)
  obtain ⟨SP, hSP⟩ : ∃ z, z = sp_X7_findWet_r9 F R := ⟨_, rfl⟩
  have hk0 := hSP
  unfold sp_X7_findWet_r9 at hk0
  refine g_aload_n cx 0 rfl e_X7_findWet_0 ?_
  refine g_iconst cx 0 (by decide) e_X7_findWet_1 ?_
  refine g_put cx cl_X7 fl_X7_24 35 (wX X ad (upd F 568 0) R) e_X7_findWet_2 rfl rfl rfl rfl (Nat.le_of_ble_eq_true rfl) rfl ?_
  obtain ⟨F1, hF1⟩ : ∃ z, z = upd F 568 0 := ⟨_, rfl⟩
  rw [← hF1]
  have hk2 := k_ls hk0 hF1
  have oF1 : g_ok LK_wX F1 := by rw [hF1]; exact g_ok_u hI rfl
  have fF1 : g_fr md_X7_findWet_r9 F F1 := by rw [hF1]; exact g_fr_u (g_fr_rf F) rfl
  refine g_iconst cx 0 (by decide) e_X7_findWet_5 ?_
  refine g_istore_n cx [(2, .int 0), (0, .ref (ad 35)), (1, .ref (ad 9))] e_X7_findWet_6 (by decide) rfl ?_
  have J7 : ∀ (N : Nat) (F4 : Nat → Int32) (R5 : Nat → Nat → Int32) (y3 : Int32), (g_ok LK_wX F4) → (g_fr md_X7_findWet_r9 F F4) → (g_okR LA_wX R5) → (g_fr mr_X7_findWet_r9 R R5) → (jv 0 10 y3) → (SP = K_X7_findWet_r9_7 N F4 R5 y3) → (2147483647 - y3.toInt).toNat < N → G X E 5 0 0 (wX X ad F4 R5) [(0, .ref (ad 35)), (1, .ref (ad 9)), (2, .int y3)] 7 [] := by
    intro N
    induction N with
    | zero => intro F4 R5 y3 oF4 fF4 oR5 fR5 py3 hkJ7 hm; exact absurd hm (Nat.not_lt_zero _)
    | succ N ih7 =>
      intro F4 R5 y3 oF4 fF4 oR5 fR5 py3 hkJ7 hm7
      have hkK7 : SP = KB_X7_findWet_r9_7 (K_X7_findWet_r9_7 N) F4 R5 y3 := hkJ7
      obtain ⟨b7, hb7⟩ : ∃ z, z = K_X7_findWet_r9_7 N := ⟨_, rfl⟩
      rw [← hb7] at hkK7
      unfold KB_X7_findWet_r9_7 at hkK7
      refine g_iload_n cx 2 rfl e_X7_findWet_7 ?_
      refine g_bipush cx 10 (by decide) e_X7_findWet_8 ?_
      refine g_icmp_ge cx 98 e_X7_findWet_10 (by decide) (fun zc6 => ?_) (fun zc6 => ?_)
      · have p7 := gn_ge 10 10 (gc_le zc6) py3 (jv_k (x := 10) 10 (by decide)) (by decide)
        have hk8 := hkK7.trans (if_pos zc6)
        exact hret e_X7_findWet_98 (Nat.le_of_ble_eq_true rfl) (Nat.le_of_ble_eq_true rfl) ⟨F4, R5, rfl, oF4, oR5, fF4, fR5, (hk8.symm.trans hSP)⟩
      · have p9 := gn_lt 0 9 (gc_nle zc6) py3 (jv_k (x := 10) 10 (by decide)) (by decide)
        have hk10 := hkK7.trans (if_neg zc6)
        refine g_aload_n cx 0 rfl e_X7_findWet_13 ?_
        refine g_get cx cl_X7 fl_X7_53 35 (.ref (ad 5)) e_X7_findWet_14 rfl rfl ?_
        refine g_iload_n cx 2 rfl e_X7_findWet_17 ?_
        refine g_iconst cx 5 (by decide) e_X7_findWet_18 ?_
        refine g_cViW cx [.int y3, .int 5] [] (w_X8_side_5 l X ad F4 R5 oF4 oR5 y3 5) ml_X7_144 yV_X8_side e_X7_findWet_19 (by unfold g_rr; decide) (by decide) 5 rfl rfl rfl (Nat.le_of_ble_eq_true rfl) (fun r11 w12 h13 => ?_)
        obtain ⟨rfl, pr11, hx14⟩ := h13
        have hk15 := k_ls hk10 hx14
        refine g_istore_n cx [(3, .int r11), (0, .ref (ad 35)), (1, .ref (ad 9)), (2, .int y3)] e_X7_findWet_22 (by decide) rfl ?_
        refine g_iconst cx 0 (by decide) e_X7_findWet_23 ?_
        refine g_istore cx [(4, .int 0), (3, .int r11), (0, .ref (ad 35)), (1, .ref (ad 9)), (2, .int y3)] e_X7_findWet_24 (by decide) rfl ?_
        have J26 : ∀ (N : Nat) (F17 : Nat → Int32) (R18 : Nat → Nat → Int32) (y16 : Int32), (g_ok LK_wX F17) → (g_fr md_X7_findWet_r9 F F17) → (g_okR LA_wX R18) → (g_fr mr_X7_findWet_r9 R R18) → (jv 0 10 y16) → (SP = K_X7_findWet_r9_26 b7 r11 y3 N F17 R18 y16) → (2147483647 - y16.toInt).toNat < N → G X E 5 0 0 (wX X ad F17 R18) [(0, .ref (ad 35)), (1, .ref (ad 9)), (2, .int y3), (3, .int r11), (4, .int y16)] 26 [] := by
          intro N
          induction N with
          | zero => intro F17 R18 y16 oF17 fF17 oR18 fR18 py16 hkJ26 hm; exact absurd hm (Nat.not_lt_zero _)
          | succ N ih26 =>
            intro F17 R18 y16 oF17 fF17 oR18 fR18 py16 hkJ26 hm26
            have hkK26 : SP = KB_X7_findWet_r9_26 (K_X7_findWet_r9_26 b7 r11 y3 N) b7 r11 y3 F17 R18 y16 := hkJ26
            obtain ⟨b26, hb26⟩ : ∃ z, z = K_X7_findWet_r9_26 b7 r11 y3 N := ⟨_, rfl⟩
            rw [← hb26] at hkK26
            unfold KB_X7_findWet_r9_26 at hkK26
            refine g_iload cx 4 rfl e_X7_findWet_26 ?_
            refine g_bipush cx 9 (by decide) e_X7_findWet_28 ?_
            have J82 : (SP = K_X7_findWet_r9_82 b7 F17 R18 r11 y3) → G X E 5 0 0 (wX X ad F17 R18) [(0, .ref (ad 35)), (1, .ref (ad 9)), (2, .int y3), (3, .int r11)] 82 [] := by
              intro   hkJ82
              unfold K_X7_findWet_r9_82 at hkJ82
              refine g_aload_n cx 0 rfl e_X7_findWet_82 ?_
              refine g_get cx cl_X7 fl_X7_53 35 (.ref (ad 5)) e_X7_findWet_83 rfl rfl ?_
              refine g_iload_n cx 2 rfl e_X7_findWet_86 ?_
              refine g_iconst cx 5 (by decide) e_X7_findWet_87 ?_
              refine g_iload_n cx 3 rfl e_X7_findWet_88 ?_
              refine g_cVvW cx [.int y3, .int 5, .int r11] [] (w_X8_change_5 l X ad F17 R18 oF17 oR18 y3 5 r11) ml_X7_152 yV_X8_change e_X7_findWet_89 (by unfold g_rr; decide) (by decide) 5 rfl rfl rfl (Nat.le_of_ble_eq_true rfl) (fun w20 h21 => ?_)
              obtain ⟨F23, R24, rfl, oF23, oR24, cF23, cR24, hx22⟩ := h21
              have hk25 := k_ls2 hkJ82 hx22
              have fF23 : g_fr md_X7_findWet_r9 F F23 := g_fr_c fF17 cF23 rfl
              have fR24 : g_fr mr_X7_findWet_r9 R R24 := g_fr_c fR18 cR24 rfl
              obtain ⟨x26, ex26⟩ : ∃ z : Int32, z = y3 + Int32.ofInt 1 := ⟨_, rfl⟩
              have hk27 := k_ls hk25 (show x26 = y3 + 1 from ex26)
              refine g_iinc cx x26 [(2, .int x26), (0, .ref (ad 35)), (1, .ref (ad 9)), (3, .int r11)] 2 e_X7_findWet_92 rfl ex26.symm (by decide) rfl ?_
              have zx26 := jv_add 1 10 (show x26 = y3 + 1 from ex26) p9 (jv_k (x := 1) 1 (by decide)) (by decide)
              refine g_goto cx 7 e_X7_findWet_95 (by decide) ?_
              refine g_lsub [1, 2, 0] [(0, .ref (ad 35)), (1, .ref (ad 9)), (2, .int x26)] rfl ?_
              exact ih7 F23 R24 x26 oF23 fF23 oR24 fR24 (jv_w zx26.2 (by decide)) (hk27.trans (by rw [hb7])) (Nat.lt_of_lt_of_le (show (2147483647 - x26.toInt).toNat < (2147483647 - y3.toInt).toNat from by have q0 := (jv_k (x := 1) 1 (by decide)).1; have q1 := (jv_k (x := 1) 1 (by decide)).2; have q2 := (jv_k (x := 10) 10 (by decide)).1; have q3 := (jv_k (x := 10) 10 (by decide)).2; have q4 := zx26.2.1; have q5 := zx26.2.2; have q6 := p9.1; have q7 := p9.2; have q8 := (gc_nle zc6); have q9 := (g_eq0 zx26.1); omega) (Nat.le_of_lt_succ hm7))
            refine g_icmp_gt cx 82 e_X7_findWet_30 (by decide) (fun zc28 => ?_) (fun zc28 => ?_)
            · have p29 := gn_gt 10 10 (gc_lt zc28) py16 (jv_k (x := 9) 9 (by decide)) (by decide)
              have hk30 := hkK26.trans (if_pos zc28)
              refine g_lsub [0, 1, 2, 3] [(0, .ref (ad 35)), (1, .ref (ad 9)), (2, .int y3), (3, .int r11)] rfl ?_
              exact J82  hk30
            · have p31 := gn_le 0 9 (gc_nlt zc28) py16 (jv_k (x := 9) 9 (by decide)) (by decide)
              have hk32 := hkK26.trans (if_neg zc28)
              refine g_aload_n cx 0 rfl e_X7_findWet_33 ?_
              refine g_get cx cl_X7 fl_X7_53 35 (.ref (ad 5)) e_X7_findWet_34 rfl rfl ?_
              refine g_iload_n cx 2 rfl e_X7_findWet_37 ?_
              refine g_cViW cx [.int y3] [] (w_X8_has_5 l X ad F17 R18 oF17 oR18 y3) ml_X7_148 yV_X8_has e_X7_findWet_38 (by unfold g_rr; decide) (by decide) 5 rfl rfl rfl (Nat.le_of_ble_eq_true rfl) (fun r33 w34 h35 => ?_)
              obtain ⟨rfl, pr33, hx36⟩ := h35
              have hk37 := k_ls hk32 hx36
              refine g_if_eq cx 82 e_X7_findWet_41 (by decide) (fun zc38 => ?_) (fun zc38 => ?_)
              · have p39 := gn_eq 0 0 (gc_eq zc38) pr33 (jv_k (x := 0) 0 (by decide)) (by decide)
                have hk40 := hk37.trans (if_pos zc38)
                refine g_lsub [0, 1, 2, 3] [(0, .ref (ad 35)), (1, .ref (ad 9)), (2, .int y3), (3, .int r11)] rfl ?_
                exact J82  hk40
              · have p41 := gn_neL 1 1 (gc_ne zc38) pr33 (jv_k (x := 0) 0 (by decide)) (by decide)
                have hk42 := hk37.trans (if_neg zc38)
                refine g_iload cx 4 rfl e_X7_findWet_44 ?_
                refine g_iload_n cx 3 rfl e_X7_findWet_46 ?_
                have J76 : ∀ (F43 : Nat → Int32) (R44 : Nat → Nat → Int32), (g_ok LK_wX F43) → (g_fr md_X7_findWet_r9 F F43) → (g_okR LA_wX R44) → (g_fr mr_X7_findWet_r9 R R44) → (SP = K_X7_findWet_r9_76 b26 y16 F43 R44) → G X E 5 0 0 (wX X ad F43 R44) [(0, .ref (ad 35)), (1, .ref (ad 9)), (2, .int y3), (3, .int r11), (4, .int y16)] 76 [] := by
                  intro F43 R44 oF43 fF43 oR44 fR44 hkJ76
                  unfold K_X7_findWet_r9_76 at hkJ76
                  obtain ⟨x45, ex45⟩ : ∃ z : Int32, z = y16 + Int32.ofInt 1 := ⟨_, rfl⟩
                  have hk46 := k_ls hkJ76 (show x45 = y16 + 1 from ex45)
                  refine g_iinc cx x45 [(4, .int x45), (0, .ref (ad 35)), (1, .ref (ad 9)), (2, .int y3), (3, .int r11)] 4 e_X7_findWet_76 rfl ex45.symm (by decide) rfl ?_
                  have zx45 := jv_add 1 10 (show x45 = y16 + 1 from ex45) p31 (jv_k (x := 1) 1 (by decide)) (by decide)
                  refine g_goto cx 26 e_X7_findWet_79 (by decide) ?_
                  refine g_lsub [1, 2, 3, 4, 0] [(0, .ref (ad 35)), (1, .ref (ad 9)), (2, .int y3), (3, .int r11), (4, .int x45)] rfl ?_
                  exact ih26 F43 R44 x45 oF43 fF43 oR44 fR44 (jv_w zx45.2 (by decide)) (hk46.trans (by rw [hb26])) (Nat.lt_of_lt_of_le (show (2147483647 - x45.toInt).toNat < (2147483647 - y16.toInt).toNat from by have q0 := (jv_k (x := 1) 1 (by decide)).1; have q1 := (jv_k (x := 1) 1 (by decide)).2; have q2 := (jv_k (x := 9) 9 (by decide)).1; have q3 := (jv_k (x := 9) 9 (by decide)).2; have q4 := zx45.2.1; have q5 := zx45.2.2; have q6 := p31.1; have q7 := p31.2; have q8 := (gc_nlt zc28); have q9 := (g_eq0 zx45.1); omega) (Nat.le_of_lt_succ hm26))
                refine g_icmp_eq cx 76 e_X7_findWet_47 (by decide) (fun zc47 => ?_) (fun zc47 => ?_)
                · have p48 := gn_eq 0 9 (gc_eq zc47).symm pr11 p31 (by decide)
                  have hk49 := hk42.trans (if_pos zc47)
                  exact J76 F17 R18 oF17 fF17 oR18 fR18 hk49
                · have hk50 := hk42.trans (if_neg zc47)
                  refine g_aload_n cx 0 rfl e_X7_findWet_50 ?_
                  refine g_get cx cl_X7 fl_X7_53 35 (.ref (ad 5)) e_X7_findWet_51 rfl rfl ?_
                  refine g_iload_n cx 2 rfl e_X7_findWet_54 ?_
                  refine g_iconst cx 5 (by decide) e_X7_findWet_55 ?_
                  refine g_iload cx 4 rfl e_X7_findWet_56 ?_
                  refine g_cVvW cx [.int y3, .int 5, .int y16] [] (w_X8_change_5 l X ad F17 R18 oF17 oR18 y3 5 y16) ml_X7_152 yV_X8_change e_X7_findWet_58 (by unfold g_rr; decide) (by decide) 5 rfl rfl rfl (Nat.le_of_ble_eq_true rfl) (fun w52 h53 => ?_)
                  obtain ⟨F55, R56, rfl, oF55, oR56, cF55, cR56, hx54⟩ := h53
                  have hk57 := k_ls2 hk50 hx54
                  have fF55 : g_fr md_X7_findWet_r9 F F55 := g_fr_c fF17 cF55 rfl
                  have fR56 : g_fr mr_X7_findWet_r9 R R56 := g_fr_c fR18 cR56 rfl
                  refine g_aload_n cx 0 rfl e_X7_findWet_61 ?_
                  refine g_get cx cl_X7 fl_X7_46 35 (.ref (ad 37)) e_X7_findWet_62 rfl rfl ?_
                  refine g_cVvW cx [] [] (w_X0_run l X ad F55 R56 oF55 oR56) ml_X7_89 yV_X0_run e_X7_findWet_65 (by unfold g_rr; decide) (by decide) 37 rfl rfl rfl (Nat.le_of_ble_eq_true rfl) (fun w59 h60 => ?_)
                  obtain ⟨F62, R63, rfl, oF62, oR63, cF62, cR63, hx61⟩ := h60
                  have hk64 := k_ls2 hk57 hx61
                  have fF62 : g_fr md_X7_findWet_r9 F F62 := g_fr_c fF55 cF62 rfl
                  have fR63 : g_fr mr_X7_findWet_r9 R R63 := g_fr_c fR56 cR63 rfl
                  refine g_aload_n cx 0 rfl e_X7_findWet_68 ?_
                  refine g_aload_n cx 1 rfl e_X7_findWet_69 ?_
                  refine g_iload_n cx 2 rfl e_X7_findWet_70 ?_
                  refine g_iload cx 4 rfl e_X7_findWet_71 ?_
                  refine g_cVvW cx [.ref (ad 9), .int y3, .int y16] [] (w_X7_noteFit_r9 l X ad F62 R63 oF62 oR63 y3 y16) ml_X7_155 yV_X7_noteFit e_X7_findWet_73 (by unfold g_rr; decide) (by decide) 35 rfl rfl rfl (Nat.le_of_ble_eq_true rfl) (fun w66 h67 => ?_)
                  obtain ⟨F69, R70, rfl, oF69, oR70, cF69, cR70, hx68⟩ := h67
                  have hk71 := k_ls2 hk64 hx68
                  have fF69 : g_fr md_X7_findWet_r9 F F69 := g_fr_c fF62 cF69 rfl
                  have fR70 : g_fr mr_X7_findWet_r9 R R70 := g_fr_c fR63 cR70 rfl
                  exact J76 F69 R70 oF69 fF69 oR70 fR70 hk71
        refine g_lsub [2, 3, 4, 1, 0] [(0, .ref (ad 35)), (1, .ref (ad 9)), (2, .int y3), (3, .int r11), (4, .int 0)] rfl ?_
        exact J26 8589934592 F4 R5 0 oF4 fF4 oR5 fR5 (jv_w (jv_k (x := 0) 0 (by decide)) (by decide)) hk15 (show (2147483647 - (0 : Int32).toInt).toNat < 8589934592 from by have q0 := (jv_k (x := 0) 0 (by decide)).1; have q1 := (jv_k (x := 0) 0 (by decide)).2; omega)
  refine g_lsub [1, 2, 0] [(0, .ref (ad 35)), (1, .ref (ad 9)), (2, .int 0)] rfl ?_
  exact J7 8589934592 F1 R 0 oF1 fF1 hA (g_fr_rf R) (jv_w (jv_k (x := 0) 0 (by decide)) (by decide)) hk2 (show (2147483647 - (0 : Int32).toInt).toNat < 8589934592 from by have q0 := (jv_k (x := 0) 0 (by decide)).1; have q1 := (jv_k (x := 0) 0 (by decide)).2; omega)
def K_X10_wasWet_16 (F : Nat → Int32) (R : Nat → Nat → Int32)  : Int32 × (Nat → Int32) × (Nat → Nat → Int32) :=
  ((-1), F, R)
def K_X10_wasWet_99 (F33 : Nat → Int32) (R31 : Nat → Nat → Int32) (y40 : Int32) : Int32 × (Nat → Int32) × (Nat → Nat → Int32) :=
  (y40, F33, R31)
def sp_X10_wasWet (F : Nat → Int32) (R : Nat → Nat → Int32) (a0 : Int32) : Int32 × (Nat → Int32) × (Nat → Nat → Int32) :=
  k_lt (g_in a0 0 2) (fun r1 => if r1 = 0 then K_X10_wasWet_16 F R else k_lt (sp_X10_canCompare F R) (fun r11 => if r11 = 0 then K_X10_wasWet_16 F R else k_lt2 (sp_X7_lay_r1_r11 F R) (fun F23 R24 => k_lt2 (sp_X7_findWet_r9 F23 R24) (fun F30 R31 => k_lt (upd F30 145 0) (fun F33 => if a0 = 0 then (F30 568, F33, R31) else if (F30 568) = 0 then ((-2), F33, R31) else if a0 = 1 then K_X10_wasWet_99 F33 R31 (F30 566) else K_X10_wasWet_99 F33 R31 (F30 567))))))
theorem e_X10_wasWet_0 : g_dc cX10_wasWet 0 (.iload_n 1) 1 1 := ⟨by decide +kernel, rfl⟩
theorem e_X10_wasWet_1 : g_dc cX10_wasWet 1 (.iconst 0) 1 2 := ⟨by decide +kernel, rfl⟩
theorem e_X10_wasWet_2 : g_dc cX10_wasWet 2 (.iconst 2) 1 3 := ⟨by decide +kernel, rfl⟩
theorem e_X10_wasWet_3 : g_dc cX10_wasWet 3 (.invokestatic 82) 3 6 := ⟨by decide +kernel, rfl⟩
theorem e_X10_wasWet_6 : g_dc cX10_wasWet 6 (.ifCond .eq 10) 3 9 := ⟨by decide +kernel, rfl⟩
theorem e_X10_wasWet_9 : g_dc cX10_wasWet 9 (.aload_n 0) 1 10 := ⟨by decide +kernel, rfl⟩
theorem e_X10_wasWet_10 : g_dc cX10_wasWet 10 (.invokevirtual 222) 3 13 := ⟨by decide +kernel, rfl⟩
theorem e_X10_wasWet_13 : g_dc cX10_wasWet 13 (.ifCond .ne 5) 3 16 := ⟨by decide +kernel, rfl⟩
theorem e_X10_wasWet_16 : g_dc cX10_wasWet 16 (.iconst (-1)) 1 17 := ⟨by decide +kernel, rfl⟩
theorem e_X10_wasWet_17 : g_dc cX10_wasWet 17 (.ireturn) 1 18 := ⟨by decide +kernel, rfl⟩
theorem e_X10_wasWet_18 : g_dc cX10_wasWet 18 (.aload_n 0) 1 19 := ⟨by decide +kernel, rfl⟩
theorem e_X10_wasWet_19 : g_dc cX10_wasWet 19 (.getfield 58) 3 22 := ⟨by decide +kernel, rfl⟩
theorem e_X10_wasWet_22 : g_dc cX10_wasWet 22 (.aload_n 0) 1 23 := ⟨by decide +kernel, rfl⟩
theorem e_X10_wasWet_23 : g_dc cX10_wasWet 23 (.getfield 10) 3 26 := ⟨by decide +kernel, rfl⟩
theorem e_X10_wasWet_26 : g_dc cX10_wasWet 26 (.aload_n 0) 1 27 := ⟨by decide +kernel, rfl⟩
theorem e_X10_wasWet_27 : g_dc cX10_wasWet 27 (.getfield 29) 3 30 := ⟨by decide +kernel, rfl⟩
theorem e_X10_wasWet_30 : g_dc cX10_wasWet 30 (.invokevirtual 148) 3 33 := ⟨by decide +kernel, rfl⟩
theorem e_X10_wasWet_33 : g_dc cX10_wasWet 33 (.aload_n 0) 1 34 := ⟨by decide +kernel, rfl⟩
theorem e_X10_wasWet_34 : g_dc cX10_wasWet 34 (.getfield 58) 3 37 := ⟨by decide +kernel, rfl⟩
theorem e_X10_wasWet_37 : g_dc cX10_wasWet 37 (.aload_n 0) 1 38 := ⟨by decide +kernel, rfl⟩
theorem e_X10_wasWet_38 : g_dc cX10_wasWet 38 (.getfield 22) 3 41 := ⟨by decide +kernel, rfl⟩
theorem e_X10_wasWet_41 : g_dc cX10_wasWet 41 (.invokevirtual 226) 3 44 := ⟨by decide +kernel, rfl⟩
theorem e_X10_wasWet_44 : g_dc cX10_wasWet 44 (.aload_n 0) 1 45 := ⟨by decide +kernel, rfl⟩
theorem e_X10_wasWet_45 : g_dc cX10_wasWet 45 (.getfield 22) 3 48 := ⟨by decide +kernel, rfl⟩
theorem e_X10_wasWet_48 : g_dc cX10_wasWet 48 (.iconst 0) 1 49 := ⟨by decide +kernel, rfl⟩
theorem e_X10_wasWet_49 : g_dc cX10_wasWet 49 (.putfield 110) 3 52 := ⟨by decide +kernel, rfl⟩
theorem e_X10_wasWet_52 : g_dc cX10_wasWet 52 (.iload_n 1) 1 53 := ⟨by decide +kernel, rfl⟩
theorem e_X10_wasWet_53 : g_dc cX10_wasWet 53 (.ifCond .ne 11) 3 56 := ⟨by decide +kernel, rfl⟩
theorem e_X10_wasWet_56 : g_dc cX10_wasWet 56 (.aload_n 0) 1 57 := ⟨by decide +kernel, rfl⟩
theorem e_X10_wasWet_57 : g_dc cX10_wasWet 57 (.getfield 58) 3 60 := ⟨by decide +kernel, rfl⟩
theorem e_X10_wasWet_60 : g_dc cX10_wasWet 60 (.getfield 230) 3 63 := ⟨by decide +kernel, rfl⟩
theorem e_X10_wasWet_63 : g_dc cX10_wasWet 63 (.ireturn) 1 64 := ⟨by decide +kernel, rfl⟩
theorem e_X10_wasWet_64 : g_dc cX10_wasWet 64 (.aload_n 0) 1 65 := ⟨by decide +kernel, rfl⟩
theorem e_X10_wasWet_65 : g_dc cX10_wasWet 65 (.getfield 58) 3 68 := ⟨by decide +kernel, rfl⟩
theorem e_X10_wasWet_68 : g_dc cX10_wasWet 68 (.getfield 230) 3 71 := ⟨by decide +kernel, rfl⟩
theorem e_X10_wasWet_71 : g_dc cX10_wasWet 71 (.ifCond .ne 6) 3 74 := ⟨by decide +kernel, rfl⟩
theorem e_X10_wasWet_74 : g_dc cX10_wasWet 74 (.bipush (-2)) 2 76 := ⟨by decide +kernel, rfl⟩
theorem e_X10_wasWet_76 : g_dc cX10_wasWet 76 (.ireturn) 1 77 := ⟨by decide +kernel, rfl⟩
theorem e_X10_wasWet_77 : g_dc cX10_wasWet 77 (.iload_n 1) 1 78 := ⟨by decide +kernel, rfl⟩
theorem e_X10_wasWet_78 : g_dc cX10_wasWet 78 (.iconst 1) 1 79 := ⟨by decide +kernel, rfl⟩
theorem e_X10_wasWet_79 : g_dc cX10_wasWet 79 (.if_icmp .ne 13) 3 82 := ⟨by decide +kernel, rfl⟩
theorem e_X10_wasWet_82 : g_dc cX10_wasWet 82 (.aload_n 0) 1 83 := ⟨by decide +kernel, rfl⟩
theorem e_X10_wasWet_83 : g_dc cX10_wasWet 83 (.getfield 58) 3 86 := ⟨by decide +kernel, rfl⟩
theorem e_X10_wasWet_86 : g_dc cX10_wasWet 86 (.getfield 233) 3 89 := ⟨by decide +kernel, rfl⟩
theorem e_X10_wasWet_89 : g_dc cX10_wasWet 89 (.goto 10) 3 92 := ⟨by decide +kernel, rfl⟩
theorem e_X10_wasWet_92 : g_dc cX10_wasWet 92 (.aload_n 0) 1 93 := ⟨by decide +kernel, rfl⟩
theorem e_X10_wasWet_93 : g_dc cX10_wasWet 93 (.getfield 58) 3 96 := ⟨by decide +kernel, rfl⟩
theorem e_X10_wasWet_96 : g_dc cX10_wasWet 96 (.getfield 236) 3 99 := ⟨by decide +kernel, rfl⟩
theorem e_X10_wasWet_99 : g_dc cX10_wasWet 99 (.ireturn) 1 100 := ⟨by decide +kernel, rfl⟩
def md_X10_wasWet : List Nat := [80, 81, 82, 83, 84, 145, 241, 566, 567, 568, 601, 602, 603, 604, 605, 606, 672, 673, 674, 675, 691, 692, 693, 694, 695, 696, 697, 698]
def mr_X10_wasWet : List Nat := [6, 16, 23, 24, 38, 39, 40, 41, 44, 45, 46]
set_option maxHeartbeats 4000000 in
set_option maxRecDepth 100000 in
theorem w_X10_wasWet (l : Launch) (X : gX) (ad : Nat → Nat) (F : Nat → Int32) (R : Nat → Nat → Int32) (hI : g_ok LK_wX F) (hA : g_okR LA_wX R) (a0 : Int32) : g_Ci l X yX10_wasWet cX10_wasWet 2 (some .int) 8 0 0 [.ref (ad 0), .int a0] (wX X ad F R) (fun r w => ∃ (F' : Nat → Int32) (R' : Nat → Nat → Int32), w = wX X ad F' R' ∧ g_ok LK_wX F' ∧ g_okR LA_wX R' ∧ g_fr md_X10_wasWet F F' ∧ g_fr mr_X10_wasWet R R' ∧ jv (-2147483648) 2147483647 r ∧ (r, F', R') = sp_X10_wasWet F R a0) := by
  refine g_mi (by decide +kernel) (Nat.le_of_ble_eq_true rfl) (fun E cx hret => ?_)
  obtain ⟨SP, hSP⟩ : ∃ z, z = sp_X10_wasWet F R a0 := ⟨_, rfl⟩
  have hk0 := hSP
  unfold sp_X10_wasWet at hk0
  refine g_iload_n cx 1 rfl e_X10_wasWet_0 ?_
  refine g_iconst cx 0 (by decide) e_X10_wasWet_1 ?_
  refine g_iconst cx 2 (by decide) e_X10_wasWet_2 ?_
  refine g_cSiW cx [.int a0, .int 0, .int 2] [] (c_X10_within l X (wX X ad F R) a0 0 2) ml_X10_82 yS_X10_within rfl e_X10_wasWet_3 (by unfold g_rr; decide) (by decide) rfl (Nat.le_of_ble_eq_true rfl) (fun r1 w2 h3 => ?_)
  obtain ⟨rfl, hr1⟩ := h3
  have pr1 : jv 0 1 r1 := by rw [hr1]; exact gi_01 _ _ _
  have hk4 := k_ls hk0 hr1
  have J16 : (SP = K_X10_wasWet_16 F R) → G X E 2 0 0 (wX X ad F R) [] 16 [] := by
    intro   hkJ16
    unfold K_X10_wasWet_16 at hkJ16
    refine g_iconst cx (-1) (by decide) e_X10_wasWet_16 ?_
    exact hret e_X10_wasWet_17 (Nat.le_of_ble_eq_true rfl) (Nat.le_of_ble_eq_true rfl) rfl ⟨F, R, rfl, hI, hA, (g_fr_rf F), (g_fr_rf R), (jv_w (jv_k (x := (-1)) (-1) (by decide)) (by decide)), (hkJ16.symm.trans hSP)⟩
  refine g_if_eq cx 16 e_X10_wasWet_6 (by decide) (fun zc5 => ?_) (fun zc5 => ?_)
  · have p6 := gn_eq 0 0 (gc_eq zc5) pr1 (jv_k (x := 0) 0 (by decide)) (by decide)
    have hk7 := hk4.trans (if_pos zc5)
    refine g_lsub [] [] rfl ?_
    exact J16  hk7
  · have p8 := gn_neL 1 1 (gc_ne zc5) pr1 (jv_k (x := 0) 0 (by decide)) (by decide)
    have p9 := jv_i 0 2 (jv_t a0) (gi_in (A := 0) (B := 2) hr1 zc5 (by decide) (by decide)) (by decide)
    have hk10 := hk4.trans (if_neg zc5)
    refine g_aload_n cx 0 rfl e_X10_wasWet_9 ?_
    refine g_cViW cx [] [] (w_X10_canCompare l X ad F R hI hA) ml_X10_222 yV_X10_canCompare e_X10_wasWet_10 (by unfold g_rr; decide) (by decide) 0 rfl rfl rfl (Nat.le_of_ble_eq_true rfl) (fun r11 w12 h13 => ?_)
    obtain ⟨rfl, pr11, hx14⟩ := h13
    have hk15 := k_ls hk10 hx14
    refine g_if_ne cx 18 e_X10_wasWet_13 (by decide) (fun zc16 => ?_) (fun zc16 => ?_)
    · have p17 := gn_neL 1 1 (gc_ne zc16) pr11 (jv_k (x := 0) 0 (by decide)) (by decide)
      have hk18 := hk15.trans (if_neg zc16)
      refine g_aload_n cx 0 rfl e_X10_wasWet_18 ?_
      refine g_get cx cl_X10 fl_X10_58 0 (.ref (ad 35)) e_X10_wasWet_19 rfl rfl ?_
      refine g_aload_n cx 0 rfl e_X10_wasWet_22 ?_
      refine g_get cx cl_X10 fl_X10_10 0 (.ref (ad 1)) e_X10_wasWet_23 rfl rfl ?_
      refine g_aload_n cx 0 rfl e_X10_wasWet_26 ?_
      refine g_get cx cl_X10 fl_X10_29 0 (.ref (ad 11)) e_X10_wasWet_27 rfl rfl ?_
      refine g_cVvW cx [.ref (ad 1), .ref (ad 11)] [] (w_X7_lay_r1_r11 l X ad F R hI hA) ml_X10_148 yV_X7_lay e_X10_wasWet_30 (by unfold g_rr; decide) (by decide) 35 rfl rfl rfl (Nat.le_of_ble_eq_true rfl) (fun w20 h21 => ?_)
      obtain ⟨F23, R24, rfl, oF23, oR24, cF23, cR24, hx22⟩ := h21
      have hk25 := k_ls2 hk18 hx22
      have fF23 : g_fr md_X10_wasWet F F23 := g_fr_c (g_fr_rf F) cF23 rfl
      have fR24 : g_fr mr_X10_wasWet R R24 := g_fr_c (g_fr_rf R) cR24 rfl
      refine g_aload_n cx 0 rfl e_X10_wasWet_33 ?_
      refine g_get cx cl_X10 fl_X10_58 0 (.ref (ad 35)) e_X10_wasWet_34 rfl rfl ?_
      refine g_aload_n cx 0 rfl e_X10_wasWet_37 ?_
      refine g_get cx cl_X10 fl_X10_22 0 (.ref (ad 9)) e_X10_wasWet_38 rfl rfl ?_
      refine g_cVvW cx [.ref (ad 9)] [] (w_X7_findWet_r9 l X ad F23 R24 oF23 oR24) ml_X10_226 yV_X7_findWet e_X10_wasWet_41 (by unfold g_rr; decide) (by decide) 35 rfl rfl rfl (Nat.le_of_ble_eq_true rfl) (fun w27 h28 => ?_)
      obtain ⟨F30, R31, rfl, oF30, oR31, cF30, cR31, hx29⟩ := h28
      have hk32 := k_ls2 hk25 hx29
      have fF30 : g_fr md_X10_wasWet F F30 := g_fr_c fF23 cF30 rfl
      have fR31 : g_fr mr_X10_wasWet R R31 := g_fr_c fR24 cR31 rfl
      refine g_aload_n cx 0 rfl e_X10_wasWet_44 ?_
      refine g_get cx cl_X10 fl_X10_22 0 (.ref (ad 9)) e_X10_wasWet_45 rfl rfl ?_
      refine g_iconst cx 0 (by decide) e_X10_wasWet_48 ?_
      refine g_putN cx cl_X9 fn_X10_110 9 (wX X ad (upd F30 145 0) R31) e_X10_wasWet_49 rfl rfl rfl rfl (Nat.le_of_ble_eq_true rfl) rfl ?_
      obtain ⟨F33, hF33⟩ : ∃ z, z = upd F30 145 0 := ⟨_, rfl⟩
      rw [← hF33]
      have hk34 := k_ls hk32 hF33
      have oF33 : g_ok LK_wX F33 := by rw [hF33]; exact g_ok_p oF30 (jv_k (x := 0) 0 (by decide)) rfl
      have fF33 : g_fr md_X10_wasWet F F33 := by rw [hF33]; exact g_fr_u fF30 rfl
      refine g_iload_n cx 1 rfl e_X10_wasWet_52 ?_
      refine g_if_ne cx 64 e_X10_wasWet_53 (by decide) (fun zc35 => ?_) (fun zc35 => ?_)
      · have p36 := gn_neL 1 2 (gc_ne zc35) p9 (jv_k (x := 0) 0 (by decide)) (by decide)
        have hk37 := hk34.trans (if_neg zc35)
        refine g_aload_n cx 0 rfl e_X10_wasWet_64 ?_
        refine g_get cx cl_X10 fl_X10_58 0 (.ref (ad 35)) e_X10_wasWet_65 rfl rfl ?_
        refine g_getN cx cl_X7 fn_X10_230 35 (.int (F33 568)) e_X10_wasWet_68 rfl rfl ?_
        refine g_toi (F30 568) (g_pu2 hF33 rfl) ?_
        refine g_if_ne cx 77 e_X10_wasWet_71 (by decide) (fun zc38 => ?_) (fun zc38 => ?_)
        · have hk39 := hk37.trans (if_neg zc38)
          refine g_iload_n cx 1 rfl e_X10_wasWet_77 ?_
          refine g_iconst cx 1 (by decide) e_X10_wasWet_78 ?_
          have J99 : ∀ (y40 : Int32), (jv (-2147483648) 2147483647 y40) → (SP = K_X10_wasWet_99 F33 R31 y40) → G X E 2 0 0 (wX X ad F33 R31) [] 99 [.int y40] := by
            intro y40 py40 hkJ99
            unfold K_X10_wasWet_99 at hkJ99
            exact hret e_X10_wasWet_99 (Nat.le_of_ble_eq_true rfl) (Nat.le_of_ble_eq_true rfl) rfl ⟨F33, R31, rfl, oF33, oR31, fF33, fR31, py40, (hkJ99.symm.trans hSP)⟩
          refine g_icmp_ne cx 92 e_X10_wasWet_79 (by decide) (fun zc41 => ?_) (fun zc41 => ?_)
          · have p42 := gn_neL 2 2 (gc_ne zc41) p36 (jv_k (x := 1) 1 (by decide)) (by decide)
            have hk43 := hk39.trans (if_neg zc41)
            refine g_aload_n cx 0 rfl e_X10_wasWet_92 ?_
            refine g_get cx cl_X10 fl_X10_58 0 (.ref (ad 35)) e_X10_wasWet_93 rfl rfl ?_
            refine g_getN cx cl_X7 fn_X10_236 35 (.int (F33 567)) e_X10_wasWet_96 rfl rfl ?_
            refine g_toi (F30 567) (g_pu2 hF33 rfl) ?_
            refine g_lsub [] [] rfl ?_
            exact J99 (F30 567) (jv_t (F30 567)) hk43
          · have p44 := gn_eq 1 1 (gc_eq zc41) p36 (jv_k (x := 1) 1 (by decide)) (by decide)
            have hk45 := hk39.trans (if_pos zc41)
            refine g_aload_n cx 0 rfl e_X10_wasWet_82 ?_
            refine g_get cx cl_X10 fl_X10_58 0 (.ref (ad 35)) e_X10_wasWet_83 rfl rfl ?_
            refine g_getN cx cl_X7 fn_X10_233 35 (.int (F33 566)) e_X10_wasWet_86 rfl rfl ?_
            refine g_toi (F30 566) (g_pu2 hF33 rfl) ?_
            refine g_goto cx 99 e_X10_wasWet_89 (by decide) ?_
            refine g_lsub [] [] rfl ?_
            exact J99 (F30 566) (jv_t (F30 566)) hk45
        · have p46 := gn_eq 0 0 (gc_eq zc38) (jv_t (F30 568)) (jv_k (x := 0) 0 (by decide)) (by decide)
          have hk47 := hk37.trans (if_pos zc38)
          refine g_bipush cx (-2) (by decide) e_X10_wasWet_74 ?_
          exact hret e_X10_wasWet_76 (Nat.le_of_ble_eq_true rfl) (Nat.le_of_ble_eq_true rfl) rfl ⟨F33, R31, rfl, oF33, oR31, fF33, fR31, (jv_w (jv_k (x := (-2)) (-2) (by decide)) (by decide)), (hk47.symm.trans hSP)⟩
      · have p48 := gn_eq 0 0 (gc_eq zc35) p9 (jv_k (x := 0) 0 (by decide)) (by decide)
        have hk49 := hk34.trans (if_pos zc35)
        refine g_aload_n cx 0 rfl e_X10_wasWet_56 ?_
        refine g_get cx cl_X10 fl_X10_58 0 (.ref (ad 35)) e_X10_wasWet_57 rfl rfl ?_
        refine g_getN cx cl_X7 fn_X10_230 35 (.int (F33 568)) e_X10_wasWet_60 rfl rfl ?_
        refine g_toi (F30 568) (g_pu2 hF33 rfl) ?_
        exact hret e_X10_wasWet_63 (Nat.le_of_ble_eq_true rfl) (Nat.le_of_ble_eq_true rfl) rfl ⟨F33, R31, rfl, oF33, oR31, fF33, fR31, (jv_t (F30 568)), (hk49.symm.trans hSP)⟩
    · have p50 := gn_eq 0 0 (gc_eq zc16) pr11 (jv_k (x := 0) 0 (by decide)) (by decide)
      have hk51 := hk15.trans (if_pos zc16)
      refine g_lsub [] [] rfl ?_
      exact J16  hk51
def KB_X7_findPaces_r9_7 (b7 : (Nat → Int32) → (Nat → Nat → Int32) → (Int32) → (Nat → Int32) × (Nat → Nat → Int32)) (F : Nat → Int32) (F4 : Nat → Int32) (R5 : Nat → Nat → Int32) (y3 : Int32) : (Nat → Int32) × (Nat → Nat → Int32) :=
  if 40 < y3 then (F4, R5) else k_lt2 (sp_X5_even_15 F4 R5 y3 (F 81)) (fun F15 R16 => k_lt2 (sp_X0_run F15 R16) (fun F22 R23 => k_lt2 (sp_X7_noteFit_r9 F22 R23 y3 0) (fun F29 R30 => k_lt (y3 + 1) (fun x32 => b7 F29 R30 x32))))
def K_X7_findPaces_r9_7 (F : Nat → Int32) : Nat → (Nat → Int32) → (Nat → Nat → Int32) → (Int32) → (Nat → Int32) × (Nat → Nat → Int32)
  | 0 => fun F4 R5 _ => (F4, R5)
  | n + 1 => KB_X7_findPaces_r9_7 (K_X7_findPaces_r9_7 F n) F
def sp_X7_findPaces_r9 (F : Nat → Int32) (R : Nat → Nat → Int32) : (Nat → Int32) × (Nat → Nat → Int32) :=
  k_lt (upd F 568 0) (fun F1 => K_X7_findPaces_r9_7 F 8589934592 F1 R 1)
theorem e_X7_findPaces_0 : g_dc cX7_findPaces 0 (.aload_n 0) 1 1 := ⟨by decide +kernel, rfl⟩
theorem e_X7_findPaces_1 : g_dc cX7_findPaces 1 (.iconst 0) 1 2 := ⟨by decide +kernel, rfl⟩
theorem e_X7_findPaces_2 : g_dc cX7_findPaces 2 (.putfield 24) 3 5 := ⟨by decide +kernel, rfl⟩
theorem e_X7_findPaces_5 : g_dc cX7_findPaces 5 (.iconst 1) 1 6 := ⟨by decide +kernel, rfl⟩
theorem e_X7_findPaces_6 : g_dc cX7_findPaces 6 (.istore_n 2) 1 7 := ⟨by decide +kernel, rfl⟩
theorem e_X7_findPaces_7 : g_dc cX7_findPaces 7 (.iload_n 2) 1 8 := ⟨by decide +kernel, rfl⟩
theorem e_X7_findPaces_8 : g_dc cX7_findPaces 8 (.bipush 40) 2 10 := ⟨by decide +kernel, rfl⟩
theorem e_X7_findPaces_10 : g_dc cX7_findPaces 10 (.if_icmp .gt 38) 3 13 := ⟨by decide +kernel, rfl⟩
theorem e_X7_findPaces_13 : g_dc cX7_findPaces 13 (.aload_n 0) 1 14 := ⟨by decide +kernel, rfl⟩
theorem e_X7_findPaces_14 : g_dc cX7_findPaces 14 (.getfield 58) 3 17 := ⟨by decide +kernel, rfl⟩
theorem e_X7_findPaces_17 : g_dc cX7_findPaces 17 (.iload_n 2) 1 18 := ⟨by decide +kernel, rfl⟩
theorem e_X7_findPaces_18 : g_dc cX7_findPaces 18 (.aload_n 0) 1 19 := ⟨by decide +kernel, rfl⟩
theorem e_X7_findPaces_19 : g_dc cX7_findPaces 19 (.getfield 53) 3 22 := ⟨by decide +kernel, rfl⟩
theorem e_X7_findPaces_22 : g_dc cX7_findPaces 22 (.getfield 82) 3 25 := ⟨by decide +kernel, rfl⟩
theorem e_X7_findPaces_25 : g_dc cX7_findPaces 25 (.invokevirtual 85) 3 28 := ⟨by decide +kernel, rfl⟩
theorem e_X7_findPaces_28 : g_dc cX7_findPaces 28 (.aload_n 0) 1 29 := ⟨by decide +kernel, rfl⟩
theorem e_X7_findPaces_29 : g_dc cX7_findPaces 29 (.getfield 46) 3 32 := ⟨by decide +kernel, rfl⟩
theorem e_X7_findPaces_32 : g_dc cX7_findPaces 32 (.invokevirtual 89) 3 35 := ⟨by decide +kernel, rfl⟩
theorem e_X7_findPaces_35 : g_dc cX7_findPaces 35 (.aload_n 0) 1 36 := ⟨by decide +kernel, rfl⟩
theorem e_X7_findPaces_36 : g_dc cX7_findPaces 36 (.aload_n 1) 1 37 := ⟨by decide +kernel, rfl⟩
theorem e_X7_findPaces_37 : g_dc cX7_findPaces 37 (.iload_n 2) 1 38 := ⟨by decide +kernel, rfl⟩
theorem e_X7_findPaces_38 : g_dc cX7_findPaces 38 (.iconst 0) 1 39 := ⟨by decide +kernel, rfl⟩
theorem e_X7_findPaces_39 : g_dc cX7_findPaces 39 (.invokevirtual 155) 3 42 := ⟨by decide +kernel, rfl⟩
theorem e_X7_findPaces_42 : g_dc cX7_findPaces 42 (.iinc 2 1) 3 45 := ⟨by decide +kernel, rfl⟩
theorem e_X7_findPaces_45 : g_dc cX7_findPaces 45 (.goto (-38)) 3 48 := ⟨by decide +kernel, rfl⟩
theorem e_X7_findPaces_48 : g_dc cX7_findPaces 48 (.return_) 1 49 := ⟨by decide +kernel, rfl⟩
def md_X7_findPaces_r9 : List Nat := [241, 566, 567, 568, 601, 602, 603, 604, 605, 606, 673, 675, 691, 692, 693, 694, 695, 696, 697, 698]
def mr_X7_findPaces_r9 : List Nat := [16, 23, 24, 38, 39, 40, 41, 44, 45, 46]
set_option maxHeartbeats 4000000 in
set_option maxRecDepth 100000 in
theorem w_X7_findPaces_r9 (l : Launch) (X : gX) (ad : Nat → Nat) (F : Nat → Int32) (R : Nat → Nat → Int32) (hI : g_ok LK_wX F) (hA : g_okR LA_wX R) : g_Cv l X yX7_findPaces cX7_findPaces 3 7 0 0 [.ref (ad 35), .ref (ad 9)] (wX X ad F R) (fun w => ∃ (F' : Nat → Int32) (R' : Nat → Nat → Int32), w = wX X ad F' R' ∧ g_ok LK_wX F' ∧ g_okR LA_wX R' ∧ g_fr md_X7_findPaces_r9 F F' ∧ g_fr mr_X7_findPaces_r9 R R' ∧ (F', R') = sp_X7_findPaces_r9 F R) := by
  refine g_mv (by decide +kernel) (Nat.le_of_ble_eq_true rfl) (fun E cx hret => ?_)
  obtain ⟨SP, hSP⟩ : ∃ z, z = sp_X7_findPaces_r9 F R := ⟨_, rfl⟩
  have hk0 := hSP
  unfold sp_X7_findPaces_r9 at hk0
  refine g_aload_n cx 0 rfl e_X7_findPaces_0 ?_
  refine g_iconst cx 0 (by decide) e_X7_findPaces_1 ?_
  refine g_put cx cl_X7 fl_X7_24 35 (wX X ad (upd F 568 0) R) e_X7_findPaces_2 rfl rfl rfl rfl (Nat.le_of_ble_eq_true rfl) rfl ?_
  obtain ⟨F1, hF1⟩ : ∃ z, z = upd F 568 0 := ⟨_, rfl⟩
  rw [← hF1]
  have hk2 := k_ls hk0 hF1
  have oF1 : g_ok LK_wX F1 := by rw [hF1]; exact g_ok_u hI rfl
  have fF1 : g_fr md_X7_findPaces_r9 F F1 := by rw [hF1]; exact g_fr_u (g_fr_rf F) rfl
  refine g_iconst cx 1 (by decide) e_X7_findPaces_5 ?_
  refine g_istore_n cx [(2, .int 1), (0, .ref (ad 35)), (1, .ref (ad 9))] e_X7_findPaces_6 (by decide) rfl ?_
  have J7 : ∀ (N : Nat) (F4 : Nat → Int32) (R5 : Nat → Nat → Int32) (y3 : Int32), (g_ok LK_wX F4) → (g_fr md_X7_findPaces_r9 F F4) → (g_okR LA_wX R5) → (g_fr mr_X7_findPaces_r9 R R5) → (jv 1 41 y3) → (SP = K_X7_findPaces_r9_7 F N F4 R5 y3) → (2147483647 - y3.toInt).toNat < N → G X E 3 0 0 (wX X ad F4 R5) [(0, .ref (ad 35)), (1, .ref (ad 9)), (2, .int y3)] 7 [] := by
    intro N
    induction N with
    | zero => intro F4 R5 y3 oF4 fF4 oR5 fR5 py3 hkJ7 hm; exact absurd hm (Nat.not_lt_zero _)
    | succ N ih7 =>
      intro F4 R5 y3 oF4 fF4 oR5 fR5 py3 hkJ7 hm7
      have hkK7 : SP = KB_X7_findPaces_r9_7 (K_X7_findPaces_r9_7 F N) F F4 R5 y3 := hkJ7
      obtain ⟨b7, hb7⟩ : ∃ z, z = K_X7_findPaces_r9_7 F N := ⟨_, rfl⟩
      rw [← hb7] at hkK7
      unfold KB_X7_findPaces_r9_7 at hkK7
      refine g_iload_n cx 2 rfl e_X7_findPaces_7 ?_
      refine g_bipush cx 40 (by decide) e_X7_findPaces_8 ?_
      refine g_icmp_gt cx 48 e_X7_findPaces_10 (by decide) (fun zc6 => ?_) (fun zc6 => ?_)
      · have p7 := gn_gt 41 41 (gc_lt zc6) py3 (jv_k (x := 40) 40 (by decide)) (by decide)
        have hk8 := hkK7.trans (if_pos zc6)
        exact hret e_X7_findPaces_48 (Nat.le_of_ble_eq_true rfl) (Nat.le_of_ble_eq_true rfl) ⟨F4, R5, rfl, oF4, oR5, fF4, fR5, (hk8.symm.trans hSP)⟩
      · have p9 := gn_le 1 40 (gc_nlt zc6) py3 (jv_k (x := 40) 40 (by decide)) (by decide)
        have hk10 := hkK7.trans (if_neg zc6)
        refine g_aload_n cx 0 rfl e_X7_findPaces_13 ?_
        refine g_get cx cl_X7 fl_X7_58 35 (.ref (ad 15)) e_X7_findPaces_14 rfl rfl ?_
        refine g_iload_n cx 2 rfl e_X7_findPaces_17 ?_
        refine g_aload_n cx 0 rfl e_X7_findPaces_18 ?_
        refine g_get cx cl_X7 fl_X7_53 35 (.ref (ad 5)) e_X7_findPaces_19 rfl rfl ?_
        refine g_getN cx cl_X8 fn_X7_82 5 (.int (F4 81)) e_X7_findPaces_22 rfl rfl ?_
        refine g_toi (F 81) (fF4 81 rfl) ?_
        refine g_cVvW cx [.int y3, .int (F 81)] [] (w_X5_even_15 l X ad F4 R5 oF4 oR5 y3 (F 81)) ml_X7_85 yV_X5_even e_X7_findPaces_25 (by unfold g_rr; decide) (by decide) 15 rfl rfl rfl (Nat.le_of_ble_eq_true rfl) (fun w12 h13 => ?_)
        obtain ⟨F15, R16, rfl, oF15, oR16, cF15, cR16, hx14⟩ := h13
        have hk17 := k_ls2 hk10 hx14
        have fF15 : g_fr md_X7_findPaces_r9 F F15 := g_fr_c fF4 cF15 rfl
        have fR16 : g_fr mr_X7_findPaces_r9 R R16 := g_fr_c fR5 cR16 rfl
        refine g_aload_n cx 0 rfl e_X7_findPaces_28 ?_
        refine g_get cx cl_X7 fl_X7_46 35 (.ref (ad 37)) e_X7_findPaces_29 rfl rfl ?_
        refine g_cVvW cx [] [] (w_X0_run l X ad F15 R16 oF15 oR16) ml_X7_89 yV_X0_run e_X7_findPaces_32 (by unfold g_rr; decide) (by decide) 37 rfl rfl rfl (Nat.le_of_ble_eq_true rfl) (fun w19 h20 => ?_)
        obtain ⟨F22, R23, rfl, oF22, oR23, cF22, cR23, hx21⟩ := h20
        have hk24 := k_ls2 hk17 hx21
        have fF22 : g_fr md_X7_findPaces_r9 F F22 := g_fr_c fF15 cF22 rfl
        have fR23 : g_fr mr_X7_findPaces_r9 R R23 := g_fr_c fR16 cR23 rfl
        refine g_aload_n cx 0 rfl e_X7_findPaces_35 ?_
        refine g_aload_n cx 1 rfl e_X7_findPaces_36 ?_
        refine g_iload_n cx 2 rfl e_X7_findPaces_37 ?_
        refine g_iconst cx 0 (by decide) e_X7_findPaces_38 ?_
        refine g_cVvW cx [.ref (ad 9), .int y3, .int 0] [] (w_X7_noteFit_r9 l X ad F22 R23 oF22 oR23 y3 0) ml_X7_155 yV_X7_noteFit e_X7_findPaces_39 (by unfold g_rr; decide) (by decide) 35 rfl rfl rfl (Nat.le_of_ble_eq_true rfl) (fun w26 h27 => ?_)
        obtain ⟨F29, R30, rfl, oF29, oR30, cF29, cR30, hx28⟩ := h27
        have hk31 := k_ls2 hk24 hx28
        have fF29 : g_fr md_X7_findPaces_r9 F F29 := g_fr_c fF22 cF29 rfl
        have fR30 : g_fr mr_X7_findPaces_r9 R R30 := g_fr_c fR23 cR30 rfl
        obtain ⟨x32, ex32⟩ : ∃ z : Int32, z = y3 + Int32.ofInt 1 := ⟨_, rfl⟩
        have hk33 := k_ls hk31 (show x32 = y3 + 1 from ex32)
        refine g_iinc cx x32 [(2, .int x32), (0, .ref (ad 35)), (1, .ref (ad 9))] 2 e_X7_findPaces_42 rfl ex32.symm (by decide) rfl ?_
        have zx32 := jv_add 2 41 (show x32 = y3 + 1 from ex32) p9 (jv_k (x := 1) 1 (by decide)) (by decide)
        refine g_goto cx 7 e_X7_findPaces_45 (by decide) ?_
        refine g_lsub [1, 2, 0] [(0, .ref (ad 35)), (1, .ref (ad 9)), (2, .int x32)] rfl ?_
        exact ih7 F29 R30 x32 oF29 fF29 oR30 fR30 (jv_w zx32.2 (by decide)) (hk33.trans (by rw [hb7])) (Nat.lt_of_lt_of_le (show (2147483647 - x32.toInt).toNat < (2147483647 - y3.toInt).toNat from by have q0 := (jv_k (x := 1) 1 (by decide)).1; have q1 := (jv_k (x := 1) 1 (by decide)).2; have q2 := (jv_k (x := 40) 40 (by decide)).1; have q3 := (jv_k (x := 40) 40 (by decide)).2; have q4 := zx32.2.1; have q5 := zx32.2.2; have q6 := p9.1; have q7 := p9.2; have q8 := (gc_nlt zc6); have q9 := (g_eq0 zx32.1); omega) (Nat.le_of_lt_succ hm7))
  refine g_lsub [1, 2, 0] [(0, .ref (ad 35)), (1, .ref (ad 9)), (2, .int 1)] rfl ?_
  exact J7 8589934592 F1 R 1 oF1 fF1 hA (g_fr_rf R) (jv_w (jv_k (x := 1) 1 (by decide)) (by decide)) hk2 (show (2147483647 - (1 : Int32).toInt).toNat < 8589934592 from by have q0 := (jv_k (x := 1) 1 (by decide)).1; have q1 := (jv_k (x := 1) 1 (by decide)).2; omega)
def K_X10_howQuick_16 (F : Nat → Int32) (R : Nat → Nat → Int32)  : Int32 × (Nat → Int32) × (Nat → Nat → Int32) :=
  ((-1), F, R)
def K_X10_howQuick_86 (F33 : Nat → Int32) (R31 : Nat → Nat → Int32) (y38 : Int32) : Int32 × (Nat → Int32) × (Nat → Nat → Int32) :=
  (y38, F33, R31)
def sp_X10_howQuick (F : Nat → Int32) (R : Nat → Nat → Int32) (a0 : Int32) : Int32 × (Nat → Int32) × (Nat → Nat → Int32) :=
  k_lt (g_in a0 0 1) (fun r1 => if r1 = 0 then K_X10_howQuick_16 F R else k_lt (sp_X10_canCompare F R) (fun r11 => if r11 = 0 then K_X10_howQuick_16 F R else k_lt2 (sp_X7_lay_r1_r11 F R) (fun F23 R24 => k_lt2 (sp_X7_findPaces_r9 F23 R24) (fun F30 R31 => k_lt (upd F30 145 0) (fun F33 => if a0 = 0 then (F30 568, F33, R31) else if (F30 568) = 0 then K_X10_howQuick_86 F33 R31 (-2) else K_X10_howQuick_86 F33 R31 (F30 566))))))
theorem e_X10_howQuick_0 : g_dc cX10_howQuick 0 (.iload_n 1) 1 1 := ⟨by decide +kernel, rfl⟩
theorem e_X10_howQuick_1 : g_dc cX10_howQuick 1 (.iconst 0) 1 2 := ⟨by decide +kernel, rfl⟩
theorem e_X10_howQuick_2 : g_dc cX10_howQuick 2 (.iconst 1) 1 3 := ⟨by decide +kernel, rfl⟩
theorem e_X10_howQuick_3 : g_dc cX10_howQuick 3 (.invokestatic 82) 3 6 := ⟨by decide +kernel, rfl⟩
theorem e_X10_howQuick_6 : g_dc cX10_howQuick 6 (.ifCond .eq 10) 3 9 := ⟨by decide +kernel, rfl⟩
theorem e_X10_howQuick_9 : g_dc cX10_howQuick 9 (.aload_n 0) 1 10 := ⟨by decide +kernel, rfl⟩
theorem e_X10_howQuick_10 : g_dc cX10_howQuick 10 (.invokevirtual 222) 3 13 := ⟨by decide +kernel, rfl⟩
theorem e_X10_howQuick_13 : g_dc cX10_howQuick 13 (.ifCond .ne 5) 3 16 := ⟨by decide +kernel, rfl⟩
theorem e_X10_howQuick_16 : g_dc cX10_howQuick 16 (.iconst (-1)) 1 17 := ⟨by decide +kernel, rfl⟩
theorem e_X10_howQuick_17 : g_dc cX10_howQuick 17 (.ireturn) 1 18 := ⟨by decide +kernel, rfl⟩
theorem e_X10_howQuick_18 : g_dc cX10_howQuick 18 (.aload_n 0) 1 19 := ⟨by decide +kernel, rfl⟩
theorem e_X10_howQuick_19 : g_dc cX10_howQuick 19 (.getfield 58) 3 22 := ⟨by decide +kernel, rfl⟩
theorem e_X10_howQuick_22 : g_dc cX10_howQuick 22 (.aload_n 0) 1 23 := ⟨by decide +kernel, rfl⟩
theorem e_X10_howQuick_23 : g_dc cX10_howQuick 23 (.getfield 10) 3 26 := ⟨by decide +kernel, rfl⟩
theorem e_X10_howQuick_26 : g_dc cX10_howQuick 26 (.aload_n 0) 1 27 := ⟨by decide +kernel, rfl⟩
theorem e_X10_howQuick_27 : g_dc cX10_howQuick 27 (.getfield 29) 3 30 := ⟨by decide +kernel, rfl⟩
theorem e_X10_howQuick_30 : g_dc cX10_howQuick 30 (.invokevirtual 148) 3 33 := ⟨by decide +kernel, rfl⟩
theorem e_X10_howQuick_33 : g_dc cX10_howQuick 33 (.aload_n 0) 1 34 := ⟨by decide +kernel, rfl⟩
theorem e_X10_howQuick_34 : g_dc cX10_howQuick 34 (.getfield 58) 3 37 := ⟨by decide +kernel, rfl⟩
theorem e_X10_howQuick_37 : g_dc cX10_howQuick 37 (.aload_n 0) 1 38 := ⟨by decide +kernel, rfl⟩
theorem e_X10_howQuick_38 : g_dc cX10_howQuick 38 (.getfield 22) 3 41 := ⟨by decide +kernel, rfl⟩
theorem e_X10_howQuick_41 : g_dc cX10_howQuick 41 (.invokevirtual 239) 3 44 := ⟨by decide +kernel, rfl⟩
theorem e_X10_howQuick_44 : g_dc cX10_howQuick 44 (.aload_n 0) 1 45 := ⟨by decide +kernel, rfl⟩
theorem e_X10_howQuick_45 : g_dc cX10_howQuick 45 (.getfield 22) 3 48 := ⟨by decide +kernel, rfl⟩
theorem e_X10_howQuick_48 : g_dc cX10_howQuick 48 (.iconst 0) 1 49 := ⟨by decide +kernel, rfl⟩
theorem e_X10_howQuick_49 : g_dc cX10_howQuick 49 (.putfield 110) 3 52 := ⟨by decide +kernel, rfl⟩
theorem e_X10_howQuick_52 : g_dc cX10_howQuick 52 (.iload_n 1) 1 53 := ⟨by decide +kernel, rfl⟩
theorem e_X10_howQuick_53 : g_dc cX10_howQuick 53 (.ifCond .ne 11) 3 56 := ⟨by decide +kernel, rfl⟩
theorem e_X10_howQuick_56 : g_dc cX10_howQuick 56 (.aload_n 0) 1 57 := ⟨by decide +kernel, rfl⟩
theorem e_X10_howQuick_57 : g_dc cX10_howQuick 57 (.getfield 58) 3 60 := ⟨by decide +kernel, rfl⟩
theorem e_X10_howQuick_60 : g_dc cX10_howQuick 60 (.getfield 230) 3 63 := ⟨by decide +kernel, rfl⟩
theorem e_X10_howQuick_63 : g_dc cX10_howQuick 63 (.ireturn) 1 64 := ⟨by decide +kernel, rfl⟩
theorem e_X10_howQuick_64 : g_dc cX10_howQuick 64 (.aload_n 0) 1 65 := ⟨by decide +kernel, rfl⟩
theorem e_X10_howQuick_65 : g_dc cX10_howQuick 65 (.getfield 58) 3 68 := ⟨by decide +kernel, rfl⟩
theorem e_X10_howQuick_68 : g_dc cX10_howQuick 68 (.getfield 230) 3 71 := ⟨by decide +kernel, rfl⟩
theorem e_X10_howQuick_71 : g_dc cX10_howQuick 71 (.ifCond .ne 8) 3 74 := ⟨by decide +kernel, rfl⟩
theorem e_X10_howQuick_74 : g_dc cX10_howQuick 74 (.bipush (-2)) 2 76 := ⟨by decide +kernel, rfl⟩
theorem e_X10_howQuick_76 : g_dc cX10_howQuick 76 (.goto 10) 3 79 := ⟨by decide +kernel, rfl⟩
theorem e_X10_howQuick_79 : g_dc cX10_howQuick 79 (.aload_n 0) 1 80 := ⟨by decide +kernel, rfl⟩
theorem e_X10_howQuick_80 : g_dc cX10_howQuick 80 (.getfield 58) 3 83 := ⟨by decide +kernel, rfl⟩
theorem e_X10_howQuick_83 : g_dc cX10_howQuick 83 (.getfield 233) 3 86 := ⟨by decide +kernel, rfl⟩
theorem e_X10_howQuick_86 : g_dc cX10_howQuick 86 (.ireturn) 1 87 := ⟨by decide +kernel, rfl⟩
def md_X10_howQuick : List Nat := [80, 81, 82, 83, 84, 145, 241, 566, 567, 568, 601, 602, 603, 604, 605, 606, 672, 673, 674, 675, 691, 692, 693, 694, 695, 696, 697, 698]
def mr_X10_howQuick : List Nat := [6, 16, 23, 24, 38, 39, 40, 41, 44, 45, 46]
set_option maxHeartbeats 4000000 in
set_option maxRecDepth 100000 in
theorem w_X10_howQuick (l : Launch) (X : gX) (ad : Nat → Nat) (F : Nat → Int32) (R : Nat → Nat → Int32) (hI : g_ok LK_wX F) (hA : g_okR LA_wX R) (a0 : Int32) : g_Ci l X yX10_howQuick cX10_howQuick 2 (some .int) 8 0 0 [.ref (ad 0), .int a0] (wX X ad F R) (fun r w => ∃ (F' : Nat → Int32) (R' : Nat → Nat → Int32), w = wX X ad F' R' ∧ g_ok LK_wX F' ∧ g_okR LA_wX R' ∧ g_fr md_X10_howQuick F F' ∧ g_fr mr_X10_howQuick R R' ∧ jv (-2147483648) 2147483647 r ∧ (r, F', R') = sp_X10_howQuick F R a0) := by
  refine g_mi (by decide +kernel) (Nat.le_of_ble_eq_true rfl) (fun E cx hret => ?_)
  obtain ⟨SP, hSP⟩ : ∃ z, z = sp_X10_howQuick F R a0 := ⟨_, rfl⟩
  have hk0 := hSP
  unfold sp_X10_howQuick at hk0
  refine g_iload_n cx 1 rfl e_X10_howQuick_0 ?_
  refine g_iconst cx 0 (by decide) e_X10_howQuick_1 ?_
  refine g_iconst cx 1 (by decide) e_X10_howQuick_2 ?_
  refine g_cSiW cx [.int a0, .int 0, .int 1] [] (c_X10_within l X (wX X ad F R) a0 0 1) ml_X10_82 yS_X10_within rfl e_X10_howQuick_3 (by unfold g_rr; decide) (by decide) rfl (Nat.le_of_ble_eq_true rfl) (fun r1 w2 h3 => ?_)
  obtain ⟨rfl, hr1⟩ := h3
  have pr1 : jv 0 1 r1 := by rw [hr1]; exact gi_01 _ _ _
  have hk4 := k_ls hk0 hr1
  have J16 : (SP = K_X10_howQuick_16 F R) → G X E 2 0 0 (wX X ad F R) [] 16 [] := by
    intro   hkJ16
    unfold K_X10_howQuick_16 at hkJ16
    refine g_iconst cx (-1) (by decide) e_X10_howQuick_16 ?_
    exact hret e_X10_howQuick_17 (Nat.le_of_ble_eq_true rfl) (Nat.le_of_ble_eq_true rfl) rfl ⟨F, R, rfl, hI, hA, (g_fr_rf F), (g_fr_rf R), (jv_w (jv_k (x := (-1)) (-1) (by decide)) (by decide)), (hkJ16.symm.trans hSP)⟩
  refine g_if_eq cx 16 e_X10_howQuick_6 (by decide) (fun zc5 => ?_) (fun zc5 => ?_)
  · have p6 := gn_eq 0 0 (gc_eq zc5) pr1 (jv_k (x := 0) 0 (by decide)) (by decide)
    have hk7 := hk4.trans (if_pos zc5)
    refine g_lsub [] [] rfl ?_
    exact J16  hk7
  · have p8 := gn_neL 1 1 (gc_ne zc5) pr1 (jv_k (x := 0) 0 (by decide)) (by decide)
    have p9 := jv_i 0 1 (jv_t a0) (gi_in (A := 0) (B := 1) hr1 zc5 (by decide) (by decide)) (by decide)
    have hk10 := hk4.trans (if_neg zc5)
    refine g_aload_n cx 0 rfl e_X10_howQuick_9 ?_
    refine g_cViW cx [] [] (w_X10_canCompare l X ad F R hI hA) ml_X10_222 yV_X10_canCompare e_X10_howQuick_10 (by unfold g_rr; decide) (by decide) 0 rfl rfl rfl (Nat.le_of_ble_eq_true rfl) (fun r11 w12 h13 => ?_)
    obtain ⟨rfl, pr11, hx14⟩ := h13
    have hk15 := k_ls hk10 hx14
    refine g_if_ne cx 18 e_X10_howQuick_13 (by decide) (fun zc16 => ?_) (fun zc16 => ?_)
    · have p17 := gn_neL 1 1 (gc_ne zc16) pr11 (jv_k (x := 0) 0 (by decide)) (by decide)
      have hk18 := hk15.trans (if_neg zc16)
      refine g_aload_n cx 0 rfl e_X10_howQuick_18 ?_
      refine g_get cx cl_X10 fl_X10_58 0 (.ref (ad 35)) e_X10_howQuick_19 rfl rfl ?_
      refine g_aload_n cx 0 rfl e_X10_howQuick_22 ?_
      refine g_get cx cl_X10 fl_X10_10 0 (.ref (ad 1)) e_X10_howQuick_23 rfl rfl ?_
      refine g_aload_n cx 0 rfl e_X10_howQuick_26 ?_
      refine g_get cx cl_X10 fl_X10_29 0 (.ref (ad 11)) e_X10_howQuick_27 rfl rfl ?_
      refine g_cVvW cx [.ref (ad 1), .ref (ad 11)] [] (w_X7_lay_r1_r11 l X ad F R hI hA) ml_X10_148 yV_X7_lay e_X10_howQuick_30 (by unfold g_rr; decide) (by decide) 35 rfl rfl rfl (Nat.le_of_ble_eq_true rfl) (fun w20 h21 => ?_)
      obtain ⟨F23, R24, rfl, oF23, oR24, cF23, cR24, hx22⟩ := h21
      have hk25 := k_ls2 hk18 hx22
      have fF23 : g_fr md_X10_howQuick F F23 := g_fr_c (g_fr_rf F) cF23 rfl
      have fR24 : g_fr mr_X10_howQuick R R24 := g_fr_c (g_fr_rf R) cR24 rfl
      refine g_aload_n cx 0 rfl e_X10_howQuick_33 ?_
      refine g_get cx cl_X10 fl_X10_58 0 (.ref (ad 35)) e_X10_howQuick_34 rfl rfl ?_
      refine g_aload_n cx 0 rfl e_X10_howQuick_37 ?_
      refine g_get cx cl_X10 fl_X10_22 0 (.ref (ad 9)) e_X10_howQuick_38 rfl rfl ?_
      refine g_cVvW cx [.ref (ad 9)] [] (w_X7_findPaces_r9 l X ad F23 R24 oF23 oR24) ml_X10_239 yV_X7_findPaces e_X10_howQuick_41 (by unfold g_rr; decide) (by decide) 35 rfl rfl rfl (Nat.le_of_ble_eq_true rfl) (fun w27 h28 => ?_)
      obtain ⟨F30, R31, rfl, oF30, oR31, cF30, cR31, hx29⟩ := h28
      have hk32 := k_ls2 hk25 hx29
      have fF30 : g_fr md_X10_howQuick F F30 := g_fr_c fF23 cF30 rfl
      have fR31 : g_fr mr_X10_howQuick R R31 := g_fr_c fR24 cR31 rfl
      refine g_aload_n cx 0 rfl e_X10_howQuick_44 ?_
      refine g_get cx cl_X10 fl_X10_22 0 (.ref (ad 9)) e_X10_howQuick_45 rfl rfl ?_
      refine g_iconst cx 0 (by decide) e_X10_howQuick_48 ?_
      refine g_putN cx cl_X9 fn_X10_110 9 (wX X ad (upd F30 145 0) R31) e_X10_howQuick_49 rfl rfl rfl rfl (Nat.le_of_ble_eq_true rfl) rfl ?_
      obtain ⟨F33, hF33⟩ : ∃ z, z = upd F30 145 0 := ⟨_, rfl⟩
      rw [← hF33]
      have hk34 := k_ls hk32 hF33
      have oF33 : g_ok LK_wX F33 := by rw [hF33]; exact g_ok_p oF30 (jv_k (x := 0) 0 (by decide)) rfl
      have fF33 : g_fr md_X10_howQuick F F33 := by rw [hF33]; exact g_fr_u fF30 rfl
      refine g_iload_n cx 1 rfl e_X10_howQuick_52 ?_
      refine g_if_ne cx 64 e_X10_howQuick_53 (by decide) (fun zc35 => ?_) (fun zc35 => ?_)
      · have p36 := gn_neL 1 1 (gc_ne zc35) p9 (jv_k (x := 0) 0 (by decide)) (by decide)
        have hk37 := hk34.trans (if_neg zc35)
        refine g_aload_n cx 0 rfl e_X10_howQuick_64 ?_
        refine g_get cx cl_X10 fl_X10_58 0 (.ref (ad 35)) e_X10_howQuick_65 rfl rfl ?_
        refine g_getN cx cl_X7 fn_X10_230 35 (.int (F33 568)) e_X10_howQuick_68 rfl rfl ?_
        refine g_toi (F30 568) (g_pu2 hF33 rfl) ?_
        have J86 : ∀ (y38 : Int32), (jv (-2147483648) 2147483647 y38) → (SP = K_X10_howQuick_86 F33 R31 y38) → G X E 2 0 0 (wX X ad F33 R31) [] 86 [.int y38] := by
          intro y38 py38 hkJ86
          unfold K_X10_howQuick_86 at hkJ86
          exact hret e_X10_howQuick_86 (Nat.le_of_ble_eq_true rfl) (Nat.le_of_ble_eq_true rfl) rfl ⟨F33, R31, rfl, oF33, oR31, fF33, fR31, py38, (hkJ86.symm.trans hSP)⟩
        refine g_if_ne cx 79 e_X10_howQuick_71 (by decide) (fun zc39 => ?_) (fun zc39 => ?_)
        · have hk40 := hk37.trans (if_neg zc39)
          refine g_aload_n cx 0 rfl e_X10_howQuick_79 ?_
          refine g_get cx cl_X10 fl_X10_58 0 (.ref (ad 35)) e_X10_howQuick_80 rfl rfl ?_
          refine g_getN cx cl_X7 fn_X10_233 35 (.int (F33 566)) e_X10_howQuick_83 rfl rfl ?_
          refine g_toi (F30 566) (g_pu2 hF33 rfl) ?_
          refine g_lsub [] [] rfl ?_
          exact J86 (F30 566) (jv_t (F30 566)) hk40
        · have p41 := gn_eq 0 0 (gc_eq zc39) (jv_t (F30 568)) (jv_k (x := 0) 0 (by decide)) (by decide)
          have hk42 := hk37.trans (if_pos zc39)
          refine g_bipush cx (-2) (by decide) e_X10_howQuick_74 ?_
          refine g_goto cx 86 e_X10_howQuick_76 (by decide) ?_
          refine g_lsub [] [] rfl ?_
          exact J86 (-2) (jv_w (jv_k (x := (-2)) (-2) (by decide)) (by decide)) hk42
      · have p43 := gn_eq 0 0 (gc_eq zc35) p9 (jv_k (x := 0) 0 (by decide)) (by decide)
        have hk44 := hk34.trans (if_pos zc35)
        refine g_aload_n cx 0 rfl e_X10_howQuick_56 ?_
        refine g_get cx cl_X10 fl_X10_58 0 (.ref (ad 35)) e_X10_howQuick_57 rfl rfl ?_
        refine g_getN cx cl_X7 fn_X10_230 35 (.int (F33 568)) e_X10_howQuick_60 rfl rfl ?_
        refine g_toi (F30 568) (g_pu2 hF33 rfl) ?_
        exact hret e_X10_howQuick_63 (Nat.le_of_ble_eq_true rfl) (Nat.le_of_ble_eq_true rfl) rfl ⟨F33, R31, rfl, oF33, oR31, fF33, fR31, (jv_t (F30 568)), (hk44.symm.trans hSP)⟩
    · have p45 := gn_eq 0 0 (gc_eq zc16) pr11 (jv_k (x := 0) 0 (by decide)) (by decide)
      have hk46 := hk15.trans (if_pos zc16)
      refine g_lsub [] [] rfl ?_
      exact J16  hk46
def K_X10_hands_25 (y1 : Int32)  : Int32 :=
  y1
def KB_X10_hands_4 (b4 : (Int32) → (Int32) → Int32) (a0 : Int32) (y1 : Int32) (y2 : Int32) : Int32 :=
  if a0 ≤ y2 then K_X10_hands_25 y1 else if 3 ≤ y2 then K_X10_hands_25 y1 else k_lt (y1 * 10) (fun x13 => k_lt (y2 + 1) (fun x15 => b4 x13 x15))
def K_X10_hands_4 (a0 : Int32) : Nat → (Int32) → (Int32) → Int32
  | 0 => fun _ _ => 0
  | n + 1 => KB_X10_hands_4 (K_X10_hands_4 a0 n) a0
def sp_X10_hands (F : Nat → Int32) (R : Nat → Nat → Int32) (a0 : Int32) : Int32 :=
  K_X10_hands_4 a0 8589934592 1 0
theorem e_X10_hands_0 : g_dc cX10_hands 0 (.iconst 1) 1 1 := ⟨by decide +kernel, rfl⟩
theorem e_X10_hands_1 : g_dc cX10_hands 1 (.istore_n 1) 1 2 := ⟨by decide +kernel, rfl⟩
theorem e_X10_hands_2 : g_dc cX10_hands 2 (.iconst 0) 1 3 := ⟨by decide +kernel, rfl⟩
theorem e_X10_hands_3 : g_dc cX10_hands 3 (.istore_n 2) 1 4 := ⟨by decide +kernel, rfl⟩
theorem e_X10_hands_4 : g_dc cX10_hands 4 (.iload_n 2) 1 5 := ⟨by decide +kernel, rfl⟩
theorem e_X10_hands_5 : g_dc cX10_hands 5 (.iload_n 0) 1 6 := ⟨by decide +kernel, rfl⟩
theorem e_X10_hands_6 : g_dc cX10_hands 6 (.if_icmp .ge 19) 3 9 := ⟨by decide +kernel, rfl⟩
theorem e_X10_hands_9 : g_dc cX10_hands 9 (.iload_n 2) 1 10 := ⟨by decide +kernel, rfl⟩
theorem e_X10_hands_10 : g_dc cX10_hands 10 (.iconst 3) 1 11 := ⟨by decide +kernel, rfl⟩
theorem e_X10_hands_11 : g_dc cX10_hands 11 (.if_icmp .ge 14) 3 14 := ⟨by decide +kernel, rfl⟩
theorem e_X10_hands_14 : g_dc cX10_hands 14 (.iload_n 1) 1 15 := ⟨by decide +kernel, rfl⟩
theorem e_X10_hands_15 : g_dc cX10_hands 15 (.bipush 10) 2 17 := ⟨by decide +kernel, rfl⟩
theorem e_X10_hands_17 : g_dc cX10_hands 17 (.imul) 1 18 := ⟨by decide +kernel, rfl⟩
theorem e_X10_hands_18 : g_dc cX10_hands 18 (.istore_n 1) 1 19 := ⟨by decide +kernel, rfl⟩
theorem e_X10_hands_19 : g_dc cX10_hands 19 (.iinc 2 1) 3 22 := ⟨by decide +kernel, rfl⟩
theorem e_X10_hands_22 : g_dc cX10_hands 22 (.goto (-18)) 3 25 := ⟨by decide +kernel, rfl⟩
theorem e_X10_hands_25 : g_dc cX10_hands 25 (.iload_n 1) 1 26 := ⟨by decide +kernel, rfl⟩
theorem e_X10_hands_26 : g_dc cX10_hands 26 (.ireturn) 1 27 := ⟨by decide +kernel, rfl⟩
set_option maxHeartbeats 4000000 in
set_option maxRecDepth 100000 in
theorem w_X10_hands (l : Launch) (X : gX) (ad : Nat → Nat) (F : Nat → Int32) (R : Nat → Nat → Int32) (hI : g_ok LK_wX F) (hA : g_okR LA_wX R) (a0 : Int32) : g_Ci l X yX10_hands cX10_hands 3 (some .int) 1 0 0 [.int a0] (wX X ad F R) (fun r w => w = wX X ad F R ∧ jv (-2147483648) 2147483647 r ∧ r = sp_X10_hands F R a0) := by
  refine g_mi (by decide +kernel) (Nat.le_of_ble_eq_true rfl) (fun E cx hret => ?_)
  obtain ⟨SP, hSP⟩ : ∃ z, z = sp_X10_hands F R a0 := ⟨_, rfl⟩
  have hk0 := hSP
  unfold sp_X10_hands at hk0
  refine g_iconst cx 1 (by decide) e_X10_hands_0 ?_
  refine g_istore_n cx [(1, .int 1), (0, .int a0)] e_X10_hands_1 (by decide) rfl ?_
  refine g_iconst cx 0 (by decide) e_X10_hands_2 ?_
  refine g_istore_n cx [(2, .int 0), (1, .int 1), (0, .int a0)] e_X10_hands_3 (by decide) rfl ?_
  have J4 : ∀ (N : Nat) (y1 : Int32) (y2 : Int32), (jv (-2147483648) 2147483647 y1) → (jv 0 3 y2) → (SP = K_X10_hands_4 a0 N y1 y2) → (2147483647 - y2.toInt).toNat < N → G X E 3 0 0 (wX X ad F R) [(0, .int a0), (1, .int y1), (2, .int y2)] 4 [] := by
    intro N
    induction N with
    | zero => intro y1 y2 py1 py2 hkJ4 hm; exact absurd hm (Nat.not_lt_zero _)
    | succ N ih4 =>
      intro y1 y2 py1 py2 hkJ4 hm4
      have hkK4 : SP = KB_X10_hands_4 (K_X10_hands_4 a0 N) a0 y1 y2 := hkJ4
      obtain ⟨b4, hb4⟩ : ∃ z, z = K_X10_hands_4 a0 N := ⟨_, rfl⟩
      rw [← hb4] at hkK4
      unfold KB_X10_hands_4 at hkK4
      refine g_iload_n cx 2 rfl e_X10_hands_4 ?_
      refine g_iload_n cx 0 rfl e_X10_hands_5 ?_
      have J25 : (SP = K_X10_hands_25 y1) → G X E 3 0 0 (wX X ad F R) [(1, .int y1)] 25 [] := by
        intro   hkJ25
        unfold K_X10_hands_25 at hkJ25
        refine g_iload_n cx 0 rfl e_X10_hands_25 ?_
        exact hret e_X10_hands_26 (Nat.le_of_ble_eq_true rfl) (Nat.le_of_ble_eq_true rfl) rfl ⟨rfl, py1, (hkJ25.symm.trans hSP)⟩
      refine g_icmp_ge cx 25 e_X10_hands_6 (by decide) (fun zc3 => ?_) (fun zc3 => ?_)
      · have p4 := gn_le (-2147483648) 3 (gc_le zc3) (jv_t a0) py2 (by decide)
        have hk5 := hkK4.trans (if_pos zc3)
        refine g_lsub [1] [(1, .int y1)] rfl ?_
        exact J25  hk5
      · have p6 := gn_gt 1 2147483647 (gc_nle zc3) (jv_t a0) py2 (by decide)
        have hk7 := hkK4.trans (if_neg zc3)
        refine g_iload_n cx 2 rfl e_X10_hands_9 ?_
        refine g_iconst cx 3 (by decide) e_X10_hands_10 ?_
        refine g_icmp_ge cx 25 e_X10_hands_11 (by decide) (fun zc8 => ?_) (fun zc8 => ?_)
        · have p9 := gn_ge 3 3 (gc_le zc8) py2 (jv_k (x := 3) 3 (by decide)) (by decide)
          have hk10 := hk7.trans (if_pos zc8)
          refine g_lsub [1] [(1, .int y1)] rfl ?_
          exact J25  hk10
        · have p11 := gn_lt 0 2 (gc_nle zc8) py2 (jv_k (x := 3) 3 (by decide)) (by decide)
          have hk12 := hk7.trans (if_neg zc8)
          refine g_iload_n cx 1 rfl e_X10_hands_14 ?_
          refine g_bipush cx 10 (by decide) e_X10_hands_15 ?_
          refine g_imul cx e_X10_hands_17 ?_
          refine g_topi (fun x13 ex13 => ?_)
          have hk14 := k_ls hk12 ex13
          refine g_istore_n cx [(1, .int x13), (0, .int a0), (2, .int y2)] e_X10_hands_18 (by decide) rfl ?_
          obtain ⟨x15, ex15⟩ : ∃ z : Int32, z = y2 + Int32.ofInt 1 := ⟨_, rfl⟩
          have hk16 := k_ls hk14 (show x15 = y2 + 1 from ex15)
          refine g_iinc cx x15 [(2, .int x15), (1, .int x13), (0, .int a0)] 2 e_X10_hands_19 rfl ex15.symm (by decide) rfl ?_
          have zx15 := jv_add 1 3 (show x15 = y2 + 1 from ex15) p11 (jv_k (x := 1) 1 (by decide)) (by decide)
          refine g_goto cx 4 e_X10_hands_22 (by decide) ?_
          refine g_lsub [2, 1, 0] [(0, .int a0), (1, .int x13), (2, .int x15)] rfl ?_
          exact ih4 x13 x15 (jv_t x13) (jv_w zx15.2 (by decide)) (hk16.trans (by rw [hb4])) (Nat.lt_of_lt_of_le (show (2147483647 - x15.toInt).toNat < (2147483647 - y2.toInt).toNat from by have q0 := (jv_k (x := 1) 1 (by decide)).1; have q1 := (jv_k (x := 1) 1 (by decide)).2; have q2 := (jv_k (x := 3) 3 (by decide)).1; have q3 := (jv_k (x := 3) 3 (by decide)).2; have q4 := p6.1; have q5 := p6.2; have q6 := zx15.2.1; have q7 := zx15.2.2; have q8 := p11.1; have q9 := p11.2; have q10 := (gc_nle zc3); have q11 := (gc_nle zc8); have q12 := (g_eq0 zx15.1); omega) (Nat.le_of_lt_succ hm4))
  refine g_lsub [2, 1, 0] [(0, .int a0), (1, .int 1), (2, .int 0)] rfl ?_
  exact J4 8589934592 1 0 (jv_w (jv_k (x := 1) 1 (by decide)) (by decide)) (jv_w (jv_k (x := 0) 0 (by decide)) (by decide)) hk0 (show (2147483647 - (0 : Int32).toInt).toNat < 8589934592 from by have q0 := (jv_k (x := 0) 0 (by decide)).1; have q1 := (jv_k (x := 0) 0 (by decide)).2; omega)
def K_X7_countHands_50 (b6 : (Nat → Int32) → (Nat → Nat → Int32) → (Int32) → (Int32) → Int32 × (Nat → Int32) × (Nat → Nat → Int32)) (F21 : Nat → Int32) (R22 : Nat → Nat → Int32) (y1 : Int32) (y2 : Int32) (y29 : Int32) : Int32 × (Nat → Int32) × (Nat → Nat → Int32) :=
  k_lt (y1 + y29) (fun x30 => k_lt (y2 + 1) (fun x32 => b6 F21 R22 x30 x32))
def KB_X7_countHands_6 (b6 : (Nat → Int32) → (Nat → Nat → Int32) → (Int32) → (Int32) → Int32 × (Nat → Int32) × (Nat → Nat → Int32)) (a0 : Int32) (a1 : Int32) (a2 : Int32) (F3 : Nat → Int32) (R4 : Nat → Nat → Int32) (y1 : Int32) (y2 : Int32) : Int32 × (Nat → Int32) × (Nat → Nat → Int32) :=
  if a1 ≤ y2 then (y1, F3, R4) else k_lt2 (sp_X1_drawTold F3 R4 a0 y2) (fun F14 R15 => k_lt2 (sp_X0_run F14 R15) (fun F21 R22 => k_lt (sp_X4_standing F21 R22) (fun r24 => if r24 < a2 then K_X7_countHands_50 b6 F21 R22 y1 y2 0 else K_X7_countHands_50 b6 F21 R22 y1 y2 1)))
def K_X7_countHands_6 (a0 : Int32) (a1 : Int32) (a2 : Int32) : Nat → (Nat → Int32) → (Nat → Nat → Int32) → (Int32) → (Int32) → Int32 × (Nat → Int32) × (Nat → Nat → Int32)
  | 0 => fun F3 R4 _ _ => (0, F3, R4)
  | n + 1 => KB_X7_countHands_6 (K_X7_countHands_6 a0 a1 a2 n) a0 a1 a2
def sp_X7_countHands (F : Nat → Int32) (R : Nat → Nat → Int32) (a0 : Int32) (a1 : Int32) (a2 : Int32) : Int32 × (Nat → Int32) × (Nat → Nat → Int32) :=
  K_X7_countHands_6 a0 a1 a2 8589934592 F R 0 0
theorem e_X7_countHands_0 : g_dc cX7_countHands 0 (.iconst 0) 1 1 := ⟨by decide +kernel, rfl⟩
theorem e_X7_countHands_1 : g_dc cX7_countHands 1 (.istore 4) 2 3 := ⟨by decide +kernel, rfl⟩
theorem e_X7_countHands_3 : g_dc cX7_countHands 3 (.iconst 0) 1 4 := ⟨by decide +kernel, rfl⟩
theorem e_X7_countHands_4 : g_dc cX7_countHands 4 (.istore 5) 2 6 := ⟨by decide +kernel, rfl⟩
theorem e_X7_countHands_6 : g_dc cX7_countHands 6 (.iload 5) 2 8 := ⟨by decide +kernel, rfl⟩
theorem e_X7_countHands_8 : g_dc cX7_countHands 8 (.iload_n 2) 1 9 := ⟨by decide +kernel, rfl⟩
theorem e_X7_countHands_9 : g_dc cX7_countHands 9 (.if_icmp .ge 50) 3 12 := ⟨by decide +kernel, rfl⟩
theorem e_X7_countHands_12 : g_dc cX7_countHands 12 (.aload_n 0) 1 13 := ⟨by decide +kernel, rfl⟩
theorem e_X7_countHands_13 : g_dc cX7_countHands 13 (.getfield 46) 3 16 := ⟨by decide +kernel, rfl⟩
theorem e_X7_countHands_16 : g_dc cX7_countHands 16 (.getfield 73) 3 19 := ⟨by decide +kernel, rfl⟩
theorem e_X7_countHands_19 : g_dc cX7_countHands 19 (.iload_n 1) 1 20 := ⟨by decide +kernel, rfl⟩
theorem e_X7_countHands_20 : g_dc cX7_countHands 20 (.iload 5) 2 22 := ⟨by decide +kernel, rfl⟩
theorem e_X7_countHands_22 : g_dc cX7_countHands 22 (.invokevirtual 163) 3 25 := ⟨by decide +kernel, rfl⟩
theorem e_X7_countHands_25 : g_dc cX7_countHands 25 (.aload_n 0) 1 26 := ⟨by decide +kernel, rfl⟩
theorem e_X7_countHands_26 : g_dc cX7_countHands 26 (.getfield 46) 3 29 := ⟨by decide +kernel, rfl⟩
theorem e_X7_countHands_29 : g_dc cX7_countHands 29 (.invokevirtual 89) 3 32 := ⟨by decide +kernel, rfl⟩
theorem e_X7_countHands_32 : g_dc cX7_countHands 32 (.iload 4) 2 34 := ⟨by decide +kernel, rfl⟩
theorem e_X7_countHands_34 : g_dc cX7_countHands 34 (.aload_n 0) 1 35 := ⟨by decide +kernel, rfl⟩
theorem e_X7_countHands_35 : g_dc cX7_countHands 35 (.getfield 63) 3 38 := ⟨by decide +kernel, rfl⟩
theorem e_X7_countHands_38 : g_dc cX7_countHands 38 (.invokevirtual 98) 3 41 := ⟨by decide +kernel, rfl⟩
theorem e_X7_countHands_41 : g_dc cX7_countHands 41 (.iload_n 3) 1 42 := ⟨by decide +kernel, rfl⟩
theorem e_X7_countHands_42 : g_dc cX7_countHands 42 (.if_icmp .lt 7) 3 45 := ⟨by decide +kernel, rfl⟩
theorem e_X7_countHands_45 : g_dc cX7_countHands 45 (.iconst 1) 1 46 := ⟨by decide +kernel, rfl⟩
theorem e_X7_countHands_46 : g_dc cX7_countHands 46 (.goto 4) 3 49 := ⟨by decide +kernel, rfl⟩
theorem e_X7_countHands_49 : g_dc cX7_countHands 49 (.iconst 0) 1 50 := ⟨by decide +kernel, rfl⟩
theorem e_X7_countHands_50 : g_dc cX7_countHands 50 (.iadd) 1 51 := ⟨by decide +kernel, rfl⟩
theorem e_X7_countHands_51 : g_dc cX7_countHands 51 (.istore 4) 2 53 := ⟨by decide +kernel, rfl⟩
theorem e_X7_countHands_53 : g_dc cX7_countHands 53 (.iinc 5 1) 3 56 := ⟨by decide +kernel, rfl⟩
theorem e_X7_countHands_56 : g_dc cX7_countHands 56 (.goto (-50)) 3 59 := ⟨by decide +kernel, rfl⟩
theorem e_X7_countHands_59 : g_dc cX7_countHands 59 (.iload 4) 2 61 := ⟨by decide +kernel, rfl⟩
theorem e_X7_countHands_61 : g_dc cX7_countHands 61 (.ireturn) 1 62 := ⟨by decide +kernel, rfl⟩
def md_X7_countHands : List Nat := [601, 602, 603, 604, 605, 606, 672, 673, 674, 675, 691, 692, 693, 694, 695, 696, 697, 698]
def mr_X7_countHands : List Nat := [23, 24, 38, 39, 40, 41, 44, 45, 46]
set_option maxHeartbeats 4000000 in
set_option maxRecDepth 100000 in
theorem w_X7_countHands (l : Launch) (X : gX) (ad : Nat → Nat) (F : Nat → Int32) (R : Nat → Nat → Int32) (hI : g_ok LK_wX F) (hA : g_okR LA_wX R) (a0 : Int32) (a1 : Int32) (a2 : Int32) : g_Ci l X yX7_countHands cX7_countHands 6 (some .int) 7 0 0 [.ref (ad 35), .int a0, .int a1, .int a2] (wX X ad F R) (fun r w => ∃ (F' : Nat → Int32) (R' : Nat → Nat → Int32), w = wX X ad F' R' ∧ g_ok LK_wX F' ∧ g_okR LA_wX R' ∧ g_fr md_X7_countHands F F' ∧ g_fr mr_X7_countHands R R' ∧ jv (-2147483648) 2147483647 r ∧ (r, F', R') = sp_X7_countHands F R a0 a1 a2) := by
  refine g_mi (by decide +kernel) (Nat.le_of_ble_eq_true rfl) (fun E cx hret => ?_)
  obtain ⟨SP, hSP⟩ : ∃ z, z = sp_X7_countHands F R a0 a1 a2 := ⟨_, rfl⟩
  have hk0 := hSP
  unfold sp_X7_countHands at hk0
  refine g_iconst cx 0 (by decide) e_X7_countHands_0 ?_
  refine g_istore cx [(4, .int 0), (0, .ref (ad 35)), (1, .int a0), (2, .int a1), (3, .int a2)] e_X7_countHands_1 (by decide) rfl ?_
  refine g_iconst cx 0 (by decide) e_X7_countHands_3 ?_
  refine g_istore cx [(5, .int 0), (4, .int 0), (0, .ref (ad 35)), (1, .int a0), (2, .int a1), (3, .int a2)] e_X7_countHands_4 (by decide) rfl ?_
  have J6 : ∀ (N : Nat) (F3 : Nat → Int32) (R4 : Nat → Nat → Int32) (y1 : Int32) (y2 : Int32), (g_ok LK_wX F3) → (g_fr md_X7_countHands F F3) → (g_okR LA_wX R4) → (g_fr mr_X7_countHands R R4) → (jv (-2147483648) 2147483647 y1) → (jv 0 2147483647 y2) → (SP = K_X7_countHands_6 a0 a1 a2 N F3 R4 y1 y2) → (2147483647 - y2.toInt).toNat < N → G X E 6 0 0 (wX X ad F3 R4) [(0, .ref (ad 35)), (1, .int a0), (2, .int a1), (3, .int a2), (4, .int y1), (5, .int y2)] 6 [] := by
    intro N
    induction N with
    | zero => intro F3 R4 y1 y2 oF3 fF3 oR4 fR4 py1 py2 hkJ6 hm; exact absurd hm (Nat.not_lt_zero _)
    | succ N ih6 =>
      intro F3 R4 y1 y2 oF3 fF3 oR4 fR4 py1 py2 hkJ6 hm6
      have hkK6 : SP = KB_X7_countHands_6 (K_X7_countHands_6 a0 a1 a2 N) a0 a1 a2 F3 R4 y1 y2 := hkJ6
      obtain ⟨b6, hb6⟩ : ∃ z, z = K_X7_countHands_6 a0 a1 a2 N := ⟨_, rfl⟩
      rw [← hb6] at hkK6
      unfold KB_X7_countHands_6 at hkK6
      refine g_iload cx 5 rfl e_X7_countHands_6 ?_
      refine g_iload_n cx 2 rfl e_X7_countHands_8 ?_
      refine g_icmp_ge cx 59 e_X7_countHands_9 (by decide) (fun zc5 => ?_) (fun zc5 => ?_)
      · have hk6 := hkK6.trans (if_pos zc5)
        refine g_iload cx 4 rfl e_X7_countHands_59 ?_
        exact hret e_X7_countHands_61 (Nat.le_of_ble_eq_true rfl) (Nat.le_of_ble_eq_true rfl) rfl ⟨F3, R4, rfl, oF3, oR4, fF3, fR4, py1, (hk6.symm.trans hSP)⟩
      · have p7 := gn_lt 0 2147483646 (gc_nle zc5) py2 (jv_t a1) (by decide)
        have p8 := gn_gt 1 2147483647 (gc_nle zc5) (jv_t a1) py2 (by decide)
        have hk9 := hkK6.trans (if_neg zc5)
        refine g_aload_n cx 0 rfl e_X7_countHands_12 ?_
        refine g_get cx cl_X7 fl_X7_46 35 (.ref (ad 37)) e_X7_countHands_13 rfl rfl ?_
        refine g_getN cx cl_X0 fn_X7_73 37 (.ref (ad 42)) e_X7_countHands_16 rfl rfl ?_
        refine g_iload_n cx 1 rfl e_X7_countHands_19 ?_
        refine g_iload cx 5 rfl e_X7_countHands_20 ?_
        refine g_cVvW cx [.int a0, .int y2] [] (w_X1_drawTold l X ad F3 R4 oF3 oR4 a0 y2) ml_X7_163 yV_X1_drawTold e_X7_countHands_22 (by unfold g_rr; decide) (by decide) 42 rfl rfl rfl (Nat.le_of_ble_eq_true rfl) (fun w11 h12 => ?_)
        obtain ⟨F14, R15, rfl, oF14, oR15, cF14, cR15, hx13⟩ := h12
        have hk16 := k_ls2 hk9 hx13
        have fF14 : g_fr md_X7_countHands F F14 := g_fr_c fF3 cF14 rfl
        have fR15 : g_fr mr_X7_countHands R R15 := g_fr_c fR4 cR15 rfl
        refine g_aload_n cx 0 rfl e_X7_countHands_25 ?_
        refine g_get cx cl_X7 fl_X7_46 35 (.ref (ad 37)) e_X7_countHands_26 rfl rfl ?_
        refine g_cVvW cx [] [] (w_X0_run l X ad F14 R15 oF14 oR15) ml_X7_89 yV_X0_run e_X7_countHands_29 (by unfold g_rr; decide) (by decide) 37 rfl rfl rfl (Nat.le_of_ble_eq_true rfl) (fun w18 h19 => ?_)
        obtain ⟨F21, R22, rfl, oF21, oR22, cF21, cR22, hx20⟩ := h19
        have hk23 := k_ls2 hk16 hx20
        have fF21 : g_fr md_X7_countHands F F21 := g_fr_c fF14 cF21 rfl
        have fR22 : g_fr mr_X7_countHands R R22 := g_fr_c fR15 cR22 rfl
        refine g_iload cx 4 rfl e_X7_countHands_32 ?_
        refine g_aload_n cx 0 rfl e_X7_countHands_34 ?_
        refine g_get cx cl_X7 fl_X7_63 35 (.ref (ad 43)) e_X7_countHands_35 rfl rfl ?_
        refine g_cViW cx [] [.int y1] (w_X4_standing l X ad F21 R22 oF21 oR22) ml_X7_98 yV_X4_standing e_X7_countHands_38 (by unfold g_rr; decide) (by decide) 43 rfl rfl rfl (Nat.le_of_ble_eq_true rfl) (fun r24 w25 h26 => ?_)
        obtain ⟨rfl, pr24, hx27⟩ := h26
        have hk28 := k_ls hk23 hx27
        refine g_iload_n cx 3 rfl e_X7_countHands_41 ?_
        have J50 : ∀ (y29 : Int32), (jv 0 1 y29) → (SP = K_X7_countHands_50 b6 F21 R22 y1 y2 y29) → G X E 6 0 0 (wX X ad F21 R22) [(0, .ref (ad 35)), (1, .int a0), (2, .int a1), (3, .int a2), (5, .int y2)] 50 [.int y29, .int y1] := by
          intro y29 py29 hkJ50
          unfold K_X7_countHands_50 at hkJ50
          refine g_iadd cx e_X7_countHands_50 ?_
          refine g_topi (fun x30 ex30 => ?_)
          have hk31 := k_ls hkJ50 ex30
          refine g_istore cx [(4, .int x30), (0, .ref (ad 35)), (1, .int a0), (2, .int a1), (3, .int a2), (5, .int y2)] e_X7_countHands_51 (by decide) rfl ?_
          obtain ⟨x32, ex32⟩ : ∃ z : Int32, z = y2 + Int32.ofInt 1 := ⟨_, rfl⟩
          have hk33 := k_ls hk31 (show x32 = y2 + 1 from ex32)
          refine g_iinc cx x32 [(5, .int x32), (4, .int x30), (0, .ref (ad 35)), (1, .int a0), (2, .int a1), (3, .int a2)] 5 e_X7_countHands_53 rfl ex32.symm (by decide) rfl ?_
          have zx32 := jv_add 1 2147483647 (show x32 = y2 + 1 from ex32) p7 (jv_k (x := 1) 1 (by decide)) (by decide)
          refine g_goto cx 6 e_X7_countHands_56 (by decide) ?_
          refine g_lsub [2, 3, 4, 5, 1, 0] [(0, .ref (ad 35)), (1, .int a0), (2, .int a1), (3, .int a2), (4, .int x30), (5, .int x32)] rfl ?_
          exact ih6 F21 R22 x30 x32 oF21 fF21 oR22 fR22 (jv_t x30) (jv_w zx32.2 (by decide)) (hk33.trans (by rw [hb6])) (Nat.lt_of_lt_of_le (show (2147483647 - x32.toInt).toNat < (2147483647 - y2.toInt).toNat from by have q0 := (jv_k (x := 1) 1 (by decide)).1; have q1 := (jv_k (x := 1) 1 (by decide)).2; have q2 := p8.1; have q3 := p8.2; have q4 := zx32.2.1; have q5 := zx32.2.2; have q6 := p7.1; have q7 := p7.2; have q8 := (gc_nle zc5); have q9 := (g_eq0 zx32.1); omega) (Nat.le_of_lt_succ hm6))
        refine g_icmp_lt cx 49 e_X7_countHands_42 (by decide) (fun zc34 => ?_) (fun zc34 => ?_)
        · have p35 := gn_gt 1 2147483647 (gc_lt zc34) (jv_t a2) pr24 (by decide)
          have hk36 := hk28.trans (if_pos zc34)
          refine g_iconst cx 0 (by decide) e_X7_countHands_49 ?_
          refine g_lsub [0, 1, 2, 3, 5] [(0, .ref (ad 35)), (1, .int a0), (2, .int a1), (3, .int a2), (5, .int y2)] rfl ?_
          exact J50 0 (jv_w (jv_k (x := 0) 0 (by decide)) (by decide)) hk36
        · have p37 := gn_le (-2147483648) 63 (gc_nlt zc34) (jv_t a2) pr24 (by decide)
          have hk38 := hk28.trans (if_neg zc34)
          refine g_iconst cx 1 (by decide) e_X7_countHands_45 ?_
          refine g_goto cx 50 e_X7_countHands_46 (by decide) ?_
          refine g_lsub [0, 1, 2, 3, 5] [(0, .ref (ad 35)), (1, .int a0), (2, .int a1), (3, .int a2), (5, .int y2)] rfl ?_
          exact J50 1 (jv_w (jv_k (x := 1) 1 (by decide)) (by decide)) hk38
  refine g_lsub [2, 3, 4, 5, 1, 0] [(0, .ref (ad 35)), (1, .int a0), (2, .int a1), (3, .int a2), (4, .int 0), (5, .int 0)] rfl ?_
  exact J6 8589934592 F R 0 0 hI (g_fr_rf F) hA (g_fr_rf R) (jv_w (jv_k (x := 0) 0 (by decide)) (by decide)) (jv_w (jv_k (x := 0) 0 (by decide)) (by decide)) hk0 (show (2147483647 - (0 : Int32).toInt).toNat < 8589934592 from by have q0 := (jv_k (x := 0) 0 (by decide)).1; have q1 := (jv_k (x := 0) 0 (by decide)).2; omega)
def K_X10_commonDivisor_34 (y1 : Int32)  : Int32 :=
  y1
def KB_X10_commonDivisor_7 (b7 : (Int32) → (Int32) → (Int32) → Int32)  (y1 : Int32) (y2 : Int32) (y3 : Int32) : Int32 :=
  if 100 ≤ y3 then K_X10_commonDivisor_34 y1 else if y2 = 0 then K_X10_commonDivisor_34 y1 else k_lt (y1 - y1 / y2 * y2) (fun x13 => k_lt (y3 + 1) (fun x15 => b7 y2 x13 x15))
def K_X10_commonDivisor_7  : Nat → (Int32) → (Int32) → (Int32) → Int32
  | 0 => fun _ _ _ => 0
  | n + 1 => KB_X10_commonDivisor_7 (K_X10_commonDivisor_7 n)
def sp_X10_commonDivisor (F : Nat → Int32) (R : Nat → Nat → Int32) (a0 : Int32) (a1 : Int32) : Int32 :=
  K_X10_commonDivisor_7 8589934592 a0 a1 0
theorem e_X10_commonDivisor_0 : g_dc cX10_commonDivisor 0 (.iload_n 0) 1 1 := ⟨by decide +kernel, rfl⟩
theorem e_X10_commonDivisor_1 : g_dc cX10_commonDivisor 1 (.istore_n 2) 1 2 := ⟨by decide +kernel, rfl⟩
theorem e_X10_commonDivisor_2 : g_dc cX10_commonDivisor 2 (.iload_n 1) 1 3 := ⟨by decide +kernel, rfl⟩
theorem e_X10_commonDivisor_3 : g_dc cX10_commonDivisor 3 (.istore_n 3) 1 4 := ⟨by decide +kernel, rfl⟩
theorem e_X10_commonDivisor_4 : g_dc cX10_commonDivisor 4 (.iconst 0) 1 5 := ⟨by decide +kernel, rfl⟩
theorem e_X10_commonDivisor_5 : g_dc cX10_commonDivisor 5 (.istore 4) 2 7 := ⟨by decide +kernel, rfl⟩
theorem e_X10_commonDivisor_7 : g_dc cX10_commonDivisor 7 (.iload 4) 2 9 := ⟨by decide +kernel, rfl⟩
theorem e_X10_commonDivisor_9 : g_dc cX10_commonDivisor 9 (.bipush 100) 2 11 := ⟨by decide +kernel, rfl⟩
theorem e_X10_commonDivisor_11 : g_dc cX10_commonDivisor 11 (.if_icmp .ge 23) 3 14 := ⟨by decide +kernel, rfl⟩
theorem e_X10_commonDivisor_14 : g_dc cX10_commonDivisor 14 (.iload_n 3) 1 15 := ⟨by decide +kernel, rfl⟩
theorem e_X10_commonDivisor_15 : g_dc cX10_commonDivisor 15 (.ifCond .eq 19) 3 18 := ⟨by decide +kernel, rfl⟩
theorem e_X10_commonDivisor_18 : g_dc cX10_commonDivisor 18 (.iload_n 2) 1 19 := ⟨by decide +kernel, rfl⟩
theorem e_X10_commonDivisor_19 : g_dc cX10_commonDivisor 19 (.iload_n 3) 1 20 := ⟨by decide +kernel, rfl⟩
theorem e_X10_commonDivisor_20 : g_dc cX10_commonDivisor 20 (.irem) 1 21 := ⟨by decide +kernel, rfl⟩
theorem e_X10_commonDivisor_21 : g_dc cX10_commonDivisor 21 (.istore 5) 2 23 := ⟨by decide +kernel, rfl⟩
theorem e_X10_commonDivisor_23 : g_dc cX10_commonDivisor 23 (.iload_n 3) 1 24 := ⟨by decide +kernel, rfl⟩
theorem e_X10_commonDivisor_24 : g_dc cX10_commonDivisor 24 (.istore_n 2) 1 25 := ⟨by decide +kernel, rfl⟩
theorem e_X10_commonDivisor_25 : g_dc cX10_commonDivisor 25 (.iload 5) 2 27 := ⟨by decide +kernel, rfl⟩
theorem e_X10_commonDivisor_27 : g_dc cX10_commonDivisor 27 (.istore_n 3) 1 28 := ⟨by decide +kernel, rfl⟩
theorem e_X10_commonDivisor_28 : g_dc cX10_commonDivisor 28 (.iinc 4 1) 3 31 := ⟨by decide +kernel, rfl⟩
theorem e_X10_commonDivisor_31 : g_dc cX10_commonDivisor 31 (.goto (-24)) 3 34 := ⟨by decide +kernel, rfl⟩
theorem e_X10_commonDivisor_34 : g_dc cX10_commonDivisor 34 (.iload_n 2) 1 35 := ⟨by decide +kernel, rfl⟩
theorem e_X10_commonDivisor_35 : g_dc cX10_commonDivisor 35 (.ireturn) 1 36 := ⟨by decide +kernel, rfl⟩
set_option maxHeartbeats 4000000 in
set_option maxRecDepth 100000 in
theorem w_X10_commonDivisor (l : Launch) (X : gX) (ad : Nat → Nat) (F : Nat → Int32) (R : Nat → Nat → Int32) (hI : g_ok LK_wX F) (hA : g_okR LA_wX R) (a0 : Int32) (a1 : Int32) : g_Ci l X yX10_commonDivisor cX10_commonDivisor 6 (some .int) 1 0 0 [.int a0, .int a1] (wX X ad F R) (fun r w => w = wX X ad F R ∧ jv (-2147483648) 2147483647 r ∧ r = sp_X10_commonDivisor F R a0 a1) := by
  refine g_mi (by decide +kernel) (Nat.le_of_ble_eq_true rfl) (fun E cx hret => ?_)
  obtain ⟨SP, hSP⟩ : ∃ z, z = sp_X10_commonDivisor F R a0 a1 := ⟨_, rfl⟩
  have hk0 := hSP
  unfold sp_X10_commonDivisor at hk0
  refine g_iload_n cx 0 rfl e_X10_commonDivisor_0 ?_
  refine g_istore_n cx [(2, .int a0), (0, .int a0), (1, .int a1)] e_X10_commonDivisor_1 (by decide) rfl ?_
  refine g_iload_n cx 2 rfl e_X10_commonDivisor_2 ?_
  refine g_istore_n cx [(3, .int a1), (2, .int a0), (0, .int a0), (1, .int a1)] e_X10_commonDivisor_3 (by decide) rfl ?_
  refine g_iconst cx 0 (by decide) e_X10_commonDivisor_4 ?_
  refine g_istore cx [(4, .int 0), (3, .int a1), (2, .int a0), (0, .int a0), (1, .int a1)] e_X10_commonDivisor_5 (by decide) rfl ?_
  have J7 : ∀ (N : Nat) (y1 : Int32) (y2 : Int32) (y3 : Int32), (jv (-2147483648) 2147483647 y1) → (jv (-2147483648) 2147483647 y2) → (jv 0 100 y3) → (SP = K_X10_commonDivisor_7 N y1 y2 y3) → (2147483647 - y3.toInt).toNat < N → G X E 6 0 0 (wX X ad F R) [(2, .int y1), (3, .int y2), (4, .int y3)] 7 [] := by
    intro N
    induction N with
    | zero => intro y1 y2 y3 py1 py2 py3 hkJ7 hm; exact absurd hm (Nat.not_lt_zero _)
    | succ N ih7 =>
      intro y1 y2 y3 py1 py2 py3 hkJ7 hm7
      have hkK7 : SP = KB_X10_commonDivisor_7 (K_X10_commonDivisor_7 N) y1 y2 y3 := hkJ7
      obtain ⟨b7, hb7⟩ : ∃ z, z = K_X10_commonDivisor_7 N := ⟨_, rfl⟩
      rw [← hb7] at hkK7
      unfold KB_X10_commonDivisor_7 at hkK7
      refine g_iload cx 2 rfl e_X10_commonDivisor_7 ?_
      refine g_bipush cx 100 (by decide) e_X10_commonDivisor_9 ?_
      have J34 : (SP = K_X10_commonDivisor_34 y1) → G X E 6 0 0 (wX X ad F R) [(2, .int y1)] 34 [] := by
        intro   hkJ34
        unfold K_X10_commonDivisor_34 at hkJ34
        refine g_iload_n cx 0 rfl e_X10_commonDivisor_34 ?_
        exact hret e_X10_commonDivisor_35 (Nat.le_of_ble_eq_true rfl) (Nat.le_of_ble_eq_true rfl) rfl ⟨rfl, py1, (hkJ34.symm.trans hSP)⟩
      refine g_icmp_ge cx 34 e_X10_commonDivisor_11 (by decide) (fun zc4 => ?_) (fun zc4 => ?_)
      · have p5 := gn_ge 100 100 (gc_le zc4) py3 (jv_k (x := 100) 100 (by decide)) (by decide)
        have hk6 := hkK7.trans (if_pos zc4)
        refine g_lsub [0] [(2, .int y1)] rfl ?_
        exact J34  hk6
      · have p7 := gn_lt 0 99 (gc_nle zc4) py3 (jv_k (x := 100) 100 (by decide)) (by decide)
        have hk8 := hkK7.trans (if_neg zc4)
        refine g_iload_n cx 1 rfl e_X10_commonDivisor_14 ?_
        refine g_if_eq cx 34 e_X10_commonDivisor_15 (by decide) (fun zc9 => ?_) (fun zc9 => ?_)
        · have p10 := gn_eq 0 0 (gc_eq zc9) py2 (jv_k (x := 0) 0 (by decide)) (by decide)
          have hk11 := hk8.trans (if_pos zc9)
          refine g_lsub [0] [(2, .int y1)] rfl ?_
          exact J34  hk11
        · have hk12 := hk8.trans (if_neg zc9)
          refine g_iload_n cx 0 rfl e_X10_commonDivisor_18 ?_
          refine g_iload_n cx 1 rfl e_X10_commonDivisor_19 ?_
          refine g_irem cx zc9 e_X10_commonDivisor_20 ?_
          refine g_topi (fun x13 ex13 => ?_)
          have hk14 := k_ls hk12 ex13
          refine g_istore cx [(5, .int x13), (2, .int y1), (3, .int y2), (4, .int y3)] e_X10_commonDivisor_21 (by decide) rfl ?_
          refine g_iload_n cx 2 rfl e_X10_commonDivisor_23 ?_
          refine g_istore_n cx [(2, .int y2), (5, .int x13), (3, .int y2), (4, .int y3)] e_X10_commonDivisor_24 (by decide) rfl ?_
          refine g_iload cx 1 rfl e_X10_commonDivisor_25 ?_
          refine g_istore_n cx [(3, .int x13), (2, .int y2), (5, .int x13), (4, .int y3)] e_X10_commonDivisor_27 (by decide) rfl ?_
          obtain ⟨x15, ex15⟩ : ∃ z : Int32, z = y3 + Int32.ofInt 1 := ⟨_, rfl⟩
          have hk16 := k_ls hk14 (show x15 = y3 + 1 from ex15)
          refine g_iinc cx x15 [(4, .int x15), (3, .int x13), (2, .int y2), (5, .int x13)] 3 e_X10_commonDivisor_28 rfl ex15.symm (by decide) rfl ?_
          have zx15 := jv_add 1 100 (show x15 = y3 + 1 from ex15) p7 (jv_k (x := 1) 1 (by decide)) (by decide)
          refine g_goto cx 7 e_X10_commonDivisor_31 (by decide) ?_
          refine g_lsub [2, 1, 0] [(2, .int y2), (3, .int x13), (4, .int x15)] rfl ?_
          exact ih7 y2 x13 x15 py2 (jv_t x13) (jv_w zx15.2 (by decide)) (hk16.trans (by rw [hb7])) (Nat.lt_of_lt_of_le (show (2147483647 - x15.toInt).toNat < (2147483647 - y3.toInt).toNat from by have q0 := (jv_k (x := 1) 1 (by decide)).1; have q1 := (jv_k (x := 1) 1 (by decide)).2; have q2 := (jv_k (x := 100) 100 (by decide)).1; have q3 := (jv_k (x := 100) 100 (by decide)).2; have q4 := zx15.2.1; have q5 := zx15.2.2; have q6 := p7.1; have q7 := p7.2; have q8 := (gc_nle zc4); have q9 := (g_eq0 zx15.1); omega) (Nat.le_of_lt_succ hm7))
  refine g_lsub [2, 1, 0] [(2, .int a0), (3, .int a1), (4, .int 0)] rfl ?_
  exact J7 8589934592 a0 a1 0 (jv_t a0) (jv_t a1) (jv_w (jv_k (x := 0) 0 (by decide)) (by decide)) hk0 (show (2147483647 - (0 : Int32).toInt).toNat < 8589934592 from by have q0 := (jv_k (x := 0) 0 (by decide)).1; have q1 := (jv_k (x := 0) 0 (by decide)).2; omega)
def K_X10_odds_50 (F : Nat → Int32) (R : Nat → Nat → Int32)  : Int32 × (Nat → Int32) × (Nat → Nat → Int32) :=
  ((-1), F, R)
def K_X10_odds_123 (F30 : Nat → Int32) (R31 : Nat → Nat → Int32) (y39 : Int32) : Int32 × (Nat → Int32) × (Nat → Nat → Int32) :=
  (y39, F30, R31)
def K_X10_odds_106 (F30 : Nat → Int32) (R31 : Nat → Nat → Int32) (r33 : Int32) (y38 : Int32) : Int32 × (Nat → Int32) × (Nat → Nat → Int32) :=
  if r33 = 0 then K_X10_odds_123 F30 R31 y38 else k_lt (y38 / r33) (fun x42 => K_X10_odds_123 F30 R31 x42)
def K_X10_odds_33 (F : Nat → Int32) (R : Nat → Nat → Int32) (a0 : Int32) (a1 : Int32) (a2 : Int32) (y5 : Int32) : Int32 × (Nat → Int32) × (Nat → Nat → Int32) :=
  if y5 = 0 then K_X10_odds_50 F R else if (F 177) = 0 then K_X10_odds_50 F R else k_lt2 (sp_X7_lay_r1_r11 F R) (fun F18 R19 => k_lt (sp_X10_hands F18 R19 a0) (fun r21 => k_lt3 (sp_X7_countHands F18 R19 a0 r21 a1) (fun r26 F30 R31 => k_lt (sp_X10_commonDivisor F30 R31 r26 r21) (fun r33 => if a2 = 0 then K_X10_odds_106 F30 R31 r33 r26 else K_X10_odds_106 F30 R31 r33 r21))))
def K_X10_odds_32 (F : Nat → Int32) (R : Nat → Nat → Int32) (a0 : Int32) (a1 : Int32) (a2 : Int32)  : Int32 × (Nat → Int32) × (Nat → Nat → Int32) :=
  K_X10_odds_33 F R a0 a1 a2 0
def sp_X10_odds (F : Nat → Int32) (R : Nat → Nat → Int32) (a0 : Int32) (a1 : Int32) (a2 : Int32) : Int32 × (Nat → Int32) × (Nat → Nat → Int32) :=
  k_lt (g_in a0 1 3) (fun r1 => if r1 = 0 then K_X10_odds_32 F R a0 a1 a2 else k_lt (g_in a1 0 10) (fun r58 => if r58 = 0 then K_X10_odds_32 F R a0 a1 a2 else k_lt (g_in a2 0 1) (fun r68 => if r68 = 0 then K_X10_odds_32 F R a0 a1 a2 else K_X10_odds_33 F R a0 a1 a2 1)))
theorem e_X10_odds_0 : g_dc cX10_odds 0 (.iload_n 1) 1 1 := ⟨by decide +kernel, rfl⟩
theorem e_X10_odds_1 : g_dc cX10_odds 1 (.iconst 1) 1 2 := ⟨by decide +kernel, rfl⟩
theorem e_X10_odds_2 : g_dc cX10_odds 2 (.iconst 3) 1 3 := ⟨by decide +kernel, rfl⟩
theorem e_X10_odds_3 : g_dc cX10_odds 3 (.invokestatic 82) 3 6 := ⟨by decide +kernel, rfl⟩
theorem e_X10_odds_6 : g_dc cX10_odds 6 (.ifCond .eq 26) 3 9 := ⟨by decide +kernel, rfl⟩
theorem e_X10_odds_9 : g_dc cX10_odds 9 (.iload_n 2) 1 10 := ⟨by decide +kernel, rfl⟩
theorem e_X10_odds_10 : g_dc cX10_odds 10 (.iconst 0) 1 11 := ⟨by decide +kernel, rfl⟩
theorem e_X10_odds_11 : g_dc cX10_odds 11 (.bipush 10) 2 13 := ⟨by decide +kernel, rfl⟩
theorem e_X10_odds_13 : g_dc cX10_odds 13 (.invokestatic 82) 3 16 := ⟨by decide +kernel, rfl⟩
theorem e_X10_odds_16 : g_dc cX10_odds 16 (.ifCond .eq 16) 3 19 := ⟨by decide +kernel, rfl⟩
theorem e_X10_odds_19 : g_dc cX10_odds 19 (.iload_n 3) 1 20 := ⟨by decide +kernel, rfl⟩
theorem e_X10_odds_20 : g_dc cX10_odds 20 (.iconst 0) 1 21 := ⟨by decide +kernel, rfl⟩
theorem e_X10_odds_21 : g_dc cX10_odds 21 (.iconst 1) 1 22 := ⟨by decide +kernel, rfl⟩
theorem e_X10_odds_22 : g_dc cX10_odds 22 (.invokestatic 82) 3 25 := ⟨by decide +kernel, rfl⟩
theorem e_X10_odds_25 : g_dc cX10_odds 25 (.ifCond .eq 7) 3 28 := ⟨by decide +kernel, rfl⟩
theorem e_X10_odds_28 : g_dc cX10_odds 28 (.iconst 1) 1 29 := ⟨by decide +kernel, rfl⟩
theorem e_X10_odds_29 : g_dc cX10_odds 29 (.goto 4) 3 32 := ⟨by decide +kernel, rfl⟩
theorem e_X10_odds_32 : g_dc cX10_odds 32 (.iconst 0) 1 33 := ⟨by decide +kernel, rfl⟩
theorem e_X10_odds_33 : g_dc cX10_odds 33 (.istore 4) 2 35 := ⟨by decide +kernel, rfl⟩
theorem e_X10_odds_35 : g_dc cX10_odds 35 (.iload 4) 2 37 := ⟨by decide +kernel, rfl⟩
theorem e_X10_odds_37 : g_dc cX10_odds 37 (.ifCond .eq 13) 3 40 := ⟨by decide +kernel, rfl⟩
theorem e_X10_odds_40 : g_dc cX10_odds 40 (.aload_n 0) 1 41 := ⟨by decide +kernel, rfl⟩
theorem e_X10_odds_41 : g_dc cX10_odds 41 (.getfield 29) 3 44 := ⟨by decide +kernel, rfl⟩
theorem e_X10_odds_44 : g_dc cX10_odds 44 (.getfield 124) 3 47 := ⟨by decide +kernel, rfl⟩
theorem e_X10_odds_47 : g_dc cX10_odds 47 (.ifCond .ne 5) 3 50 := ⟨by decide +kernel, rfl⟩
theorem e_X10_odds_50 : g_dc cX10_odds 50 (.iconst (-1)) 1 51 := ⟨by decide +kernel, rfl⟩
theorem e_X10_odds_51 : g_dc cX10_odds 51 (.ireturn) 1 52 := ⟨by decide +kernel, rfl⟩
theorem e_X10_odds_52 : g_dc cX10_odds 52 (.aload_n 0) 1 53 := ⟨by decide +kernel, rfl⟩
theorem e_X10_odds_53 : g_dc cX10_odds 53 (.getfield 58) 3 56 := ⟨by decide +kernel, rfl⟩
theorem e_X10_odds_56 : g_dc cX10_odds 56 (.aload_n 0) 1 57 := ⟨by decide +kernel, rfl⟩
theorem e_X10_odds_57 : g_dc cX10_odds 57 (.getfield 10) 3 60 := ⟨by decide +kernel, rfl⟩
theorem e_X10_odds_60 : g_dc cX10_odds 60 (.aload_n 0) 1 61 := ⟨by decide +kernel, rfl⟩
theorem e_X10_odds_61 : g_dc cX10_odds 61 (.getfield 29) 3 64 := ⟨by decide +kernel, rfl⟩
theorem e_X10_odds_64 : g_dc cX10_odds 64 (.invokevirtual 148) 3 67 := ⟨by decide +kernel, rfl⟩
theorem e_X10_odds_67 : g_dc cX10_odds 67 (.iload_n 1) 1 68 := ⟨by decide +kernel, rfl⟩
theorem e_X10_odds_68 : g_dc cX10_odds 68 (.invokestatic 242) 3 71 := ⟨by decide +kernel, rfl⟩
theorem e_X10_odds_71 : g_dc cX10_odds 71 (.istore 5) 2 73 := ⟨by decide +kernel, rfl⟩
theorem e_X10_odds_73 : g_dc cX10_odds 73 (.aload_n 0) 1 74 := ⟨by decide +kernel, rfl⟩
theorem e_X10_odds_74 : g_dc cX10_odds 74 (.getfield 58) 3 77 := ⟨by decide +kernel, rfl⟩
theorem e_X10_odds_77 : g_dc cX10_odds 77 (.iload_n 1) 1 78 := ⟨by decide +kernel, rfl⟩
theorem e_X10_odds_78 : g_dc cX10_odds 78 (.iload 5) 2 80 := ⟨by decide +kernel, rfl⟩
theorem e_X10_odds_80 : g_dc cX10_odds 80 (.iload_n 2) 1 81 := ⟨by decide +kernel, rfl⟩
theorem e_X10_odds_81 : g_dc cX10_odds 81 (.invokevirtual 245) 3 84 := ⟨by decide +kernel, rfl⟩
theorem e_X10_odds_84 : g_dc cX10_odds 84 (.istore 6) 2 86 := ⟨by decide +kernel, rfl⟩
theorem e_X10_odds_86 : g_dc cX10_odds 86 (.iload 6) 2 88 := ⟨by decide +kernel, rfl⟩
theorem e_X10_odds_88 : g_dc cX10_odds 88 (.iload 5) 2 90 := ⟨by decide +kernel, rfl⟩
theorem e_X10_odds_90 : g_dc cX10_odds 90 (.invokestatic 249) 3 93 := ⟨by decide +kernel, rfl⟩
theorem e_X10_odds_93 : g_dc cX10_odds 93 (.istore 7) 2 95 := ⟨by decide +kernel, rfl⟩
theorem e_X10_odds_95 : g_dc cX10_odds 95 (.iload_n 3) 1 96 := ⟨by decide +kernel, rfl⟩
theorem e_X10_odds_96 : g_dc cX10_odds 96 (.ifCond .ne 8) 3 99 := ⟨by decide +kernel, rfl⟩
theorem e_X10_odds_99 : g_dc cX10_odds 99 (.iload 6) 2 101 := ⟨by decide +kernel, rfl⟩
theorem e_X10_odds_101 : g_dc cX10_odds 101 (.goto 5) 3 104 := ⟨by decide +kernel, rfl⟩
theorem e_X10_odds_104 : g_dc cX10_odds 104 (.iload 5) 2 106 := ⟨by decide +kernel, rfl⟩
theorem e_X10_odds_106 : g_dc cX10_odds 106 (.istore 8) 2 108 := ⟨by decide +kernel, rfl⟩
theorem e_X10_odds_108 : g_dc cX10_odds 108 (.iload 7) 2 110 := ⟨by decide +kernel, rfl⟩
theorem e_X10_odds_110 : g_dc cX10_odds 110 (.ifCond .ne 8) 3 113 := ⟨by decide +kernel, rfl⟩
theorem e_X10_odds_113 : g_dc cX10_odds 113 (.iload 8) 2 115 := ⟨by decide +kernel, rfl⟩
theorem e_X10_odds_115 : g_dc cX10_odds 115 (.goto 8) 3 118 := ⟨by decide +kernel, rfl⟩
theorem e_X10_odds_118 : g_dc cX10_odds 118 (.iload 8) 2 120 := ⟨by decide +kernel, rfl⟩
theorem e_X10_odds_120 : g_dc cX10_odds 120 (.iload 7) 2 122 := ⟨by decide +kernel, rfl⟩
theorem e_X10_odds_122 : g_dc cX10_odds 122 (.idiv) 1 123 := ⟨by decide +kernel, rfl⟩
theorem e_X10_odds_123 : g_dc cX10_odds 123 (.ireturn) 1 124 := ⟨by decide +kernel, rfl⟩
def md_X10_odds : List Nat := [80, 81, 82, 83, 84, 241, 601, 602, 603, 604, 605, 606, 672, 673, 674, 675, 691, 692, 693, 694, 695, 696, 697, 698]
def mr_X10_odds : List Nat := [6, 16, 23, 24, 38, 39, 40, 41, 44, 45, 46]
set_option maxHeartbeats 4000000 in
set_option maxRecDepth 100000 in
theorem w_X10_odds (l : Launch) (X : gX) (ad : Nat → Nat) (F : Nat → Int32) (R : Nat → Nat → Int32) (hI : g_ok LK_wX F) (hA : g_okR LA_wX R) (a0 : Int32) (a1 : Int32) (a2 : Int32) : g_Ci l X yX10_odds cX10_odds 9 (some .int) 8 0 0 [.ref (ad 0), .int a0, .int a1, .int a2] (wX X ad F R) (fun r w => ∃ (F' : Nat → Int32) (R' : Nat → Nat → Int32), w = wX X ad F' R' ∧ g_ok LK_wX F' ∧ g_okR LA_wX R' ∧ g_fr md_X10_odds F F' ∧ g_fr mr_X10_odds R R' ∧ jv (-2147483648) 2147483647 r ∧ (r, F', R') = sp_X10_odds F R a0 a1 a2) := by
  refine g_mi (by decide +kernel) (Nat.le_of_ble_eq_true rfl) (fun E cx hret => ?_)
  obtain ⟨SP, hSP⟩ : ∃ z, z = sp_X10_odds F R a0 a1 a2 := ⟨_, rfl⟩
  have hk0 := hSP
  unfold sp_X10_odds at hk0
  refine g_iload_n cx 1 rfl e_X10_odds_0 ?_
  refine g_iconst cx 1 (by decide) e_X10_odds_1 ?_
  refine g_iconst cx 3 (by decide) e_X10_odds_2 ?_
  refine g_cSiW cx [.int a0, .int 1, .int 3] [] (c_X10_within l X (wX X ad F R) a0 1 3) ml_X10_82 yS_X10_within rfl e_X10_odds_3 (by unfold g_rr; decide) (by decide) rfl (Nat.le_of_ble_eq_true rfl) (fun r1 w2 h3 => ?_)
  obtain ⟨rfl, hr1⟩ := h3
  have pr1 : jv 0 1 r1 := by rw [hr1]; exact gi_01 _ _ _
  have hk4 := k_ls hk0 hr1
  have J33 : ∀ (y5 : Int32), (jv 0 1 y5) → (SP = K_X10_odds_33 F R a0 a1 a2 y5) → G X E 9 0 0 (wX X ad F R) [(0, .ref (ad 0)), (1, .int a0), (2, .int a1), (3, .int a2)] 33 [.int y5] := by
    intro y5 py5 hkJ33
    unfold K_X10_odds_33 at hkJ33
    refine g_istore cx [(4, .int y5), (0, .ref (ad 0)), (1, .int a0), (2, .int a1), (3, .int a2)] e_X10_odds_33 (by decide) rfl ?_
    refine g_iload cx 0 rfl e_X10_odds_35 ?_
    have J50 : (SP = K_X10_odds_50 F R) → G X E 9 0 0 (wX X ad F R) [] 50 [] := by
      intro   hkJ50
      unfold K_X10_odds_50 at hkJ50
      refine g_iconst cx (-1) (by decide) e_X10_odds_50 ?_
      exact hret e_X10_odds_51 (Nat.le_of_ble_eq_true rfl) (Nat.le_of_ble_eq_true rfl) rfl ⟨F, R, rfl, hI, hA, (g_fr_rf F), (g_fr_rf R), (jv_w (jv_k (x := (-1)) (-1) (by decide)) (by decide)), (hkJ50.symm.trans hSP)⟩
    refine g_if_eq cx 50 e_X10_odds_37 (by decide) (fun zc6 => ?_) (fun zc6 => ?_)
    · have p7 := gn_eq 0 0 (gc_eq zc6) py5 (jv_k (x := 0) 0 (by decide)) (by decide)
      have hk8 := hkJ33.trans (if_pos zc6)
      refine g_lsub [] [] rfl ?_
      exact J50  hk8
    · have p9 := gn_neL 1 1 (gc_ne zc6) py5 (jv_k (x := 0) 0 (by decide)) (by decide)
      have hk10 := hkJ33.trans (if_neg zc6)
      refine g_aload_n cx 1 rfl e_X10_odds_40 ?_
      refine g_get cx cl_X10 fl_X10_29 0 (.ref (ad 11)) e_X10_odds_41 rfl rfl ?_
      refine g_getN cx cl_X5 fn_X10_124 11 (.int (F 177)) e_X10_odds_44 rfl rfl ?_
      refine g_if_ne cx 52 e_X10_odds_47 (by decide) (fun zc11 => ?_) (fun zc11 => ?_)
      · have p12 := gn_neL 1 60 (gc_ne zc11) (g_ok_g hI 2 rfl) (jv_k (x := 0) 0 (by decide)) (by decide)
        have hk13 := hk10.trans (if_neg zc11)
        refine g_aload_n cx 1 rfl e_X10_odds_52 ?_
        refine g_get cx cl_X10 fl_X10_58 0 (.ref (ad 35)) e_X10_odds_53 rfl rfl ?_
        refine g_aload_n cx 1 rfl e_X10_odds_56 ?_
        refine g_get cx cl_X10 fl_X10_10 0 (.ref (ad 1)) e_X10_odds_57 rfl rfl ?_
        refine g_aload_n cx 1 rfl e_X10_odds_60 ?_
        refine g_get cx cl_X10 fl_X10_29 0 (.ref (ad 11)) e_X10_odds_61 rfl rfl ?_
        refine g_cVvW cx [.ref (ad 1), .ref (ad 11)] [] (w_X7_lay_r1_r11 l X ad F R hI hA) ml_X10_148 yV_X7_lay e_X10_odds_64 (by unfold g_rr; decide) (by decide) 35 rfl rfl rfl (Nat.le_of_ble_eq_true rfl) (fun w15 h16 => ?_)
        obtain ⟨F18, R19, rfl, oF18, oR19, cF18, cR19, hx17⟩ := h16
        have hk20 := k_ls2 hk13 hx17
        have fF18 : g_fr md_X10_odds F F18 := g_fr_c (g_fr_rf F) cF18 rfl
        have fR19 : g_fr mr_X10_odds R R19 := g_fr_c (g_fr_rf R) cR19 rfl
        refine g_iload_n cx 2 rfl e_X10_odds_67 ?_
        refine g_cSiW cx [.int a0] [] (w_X10_hands l X ad F18 R19 oF18 oR19 a0) ml_X10_242 yS_X10_hands rfl e_X10_odds_68 (by unfold g_rr; decide) (by decide) rfl (Nat.le_of_ble_eq_true rfl) (fun r21 w22 h23 => ?_)
        obtain ⟨rfl, pr21, hx24⟩ := h23
        have hk25 := k_ls hk20 hx24
        refine g_istore cx [(5, .int r21), (4, .int y5), (0, .ref (ad 0)), (1, .int a0), (2, .int a1), (3, .int a2)] e_X10_odds_71 (by decide) rfl ?_
        refine g_aload_n cx 2 rfl e_X10_odds_73 ?_
        refine g_get cx cl_X10 fl_X10_58 0 (.ref (ad 35)) e_X10_odds_74 rfl rfl ?_
        refine g_iload_n cx 3 rfl e_X10_odds_77 ?_
        refine g_iload cx 0 rfl e_X10_odds_78 ?_
        refine g_iload_n cx 4 rfl e_X10_odds_80 ?_
        refine g_cViW cx [.int a0, .int r21, .int a1] [] (w_X7_countHands l X ad F18 R19 oF18 oR19 a0 r21 a1) ml_X10_245 yV_X7_countHands e_X10_odds_81 (by unfold g_rr; decide) (by decide) 35 rfl rfl rfl (Nat.le_of_ble_eq_true rfl) (fun r26 w27 h28 => ?_)
        obtain ⟨F30, R31, rfl, oF30, oR31, cF30, cR31, pr26, hx29⟩ := h28
        have hk32 := k_ls3 hk25 hx29
        have fF30 : g_fr md_X10_odds F F30 := g_fr_c fF18 cF30 rfl
        have fR31 : g_fr mr_X10_odds R R31 := g_fr_c fR19 cR31 rfl
        refine g_istore cx [(6, .int r26), (5, .int r21), (4, .int y5), (0, .ref (ad 0)), (1, .int a0), (2, .int a1), (3, .int a2)] e_X10_odds_84 (by decide) rfl ?_
        refine g_iload cx 0 rfl e_X10_odds_86 ?_
        refine g_iload cx 1 rfl e_X10_odds_88 ?_
        refine g_cSiW cx [.int r26, .int r21] [] (w_X10_commonDivisor l X ad F30 R31 oF30 oR31 r26 r21) ml_X10_249 yS_X10_commonDivisor rfl e_X10_odds_90 (by unfold g_rr; decide) (by decide) rfl (Nat.le_of_ble_eq_true rfl) (fun r33 w34 h35 => ?_)
        obtain ⟨rfl, pr33, hx36⟩ := h35
        have hk37 := k_ls hk32 hx36
        refine g_istore cx [(7, .int r33), (6, .int r26), (5, .int r21), (4, .int y5), (0, .ref (ad 0)), (1, .int a0), (2, .int a1), (3, .int a2)] e_X10_odds_93 (by decide) rfl ?_
        refine g_iload_n cx 7 rfl e_X10_odds_95 ?_
        have J106 : ∀ (y38 : Int32), (jv (-2147483648) 2147483647 y38) → (SP = K_X10_odds_106 F30 R31 r33 y38) → G X E 9 0 0 (wX X ad F30 R31) [(7, .int r33)] 106 [.int y38] := by
          intro y38 py38 hkJ106
          unfold K_X10_odds_106 at hkJ106
          refine g_istore cx [(8, .int y38), (7, .int r33)] e_X10_odds_106 (by decide) rfl ?_
          refine g_iload cx 1 rfl e_X10_odds_108 ?_
          have J123 : ∀ (y39 : Int32), (jv (-2147483648) 2147483647 y39) → (SP = K_X10_odds_123 F30 R31 y39) → G X E 9 0 0 (wX X ad F30 R31) [] 123 [.int y39] := by
            intro y39 py39 hkJ123
            unfold K_X10_odds_123 at hkJ123
            exact hret e_X10_odds_123 (Nat.le_of_ble_eq_true rfl) (Nat.le_of_ble_eq_true rfl) rfl ⟨F30, R31, rfl, oF30, oR31, fF30, fR31, py39, (hkJ123.symm.trans hSP)⟩
          refine g_if_ne cx 118 e_X10_odds_110 (by decide) (fun zc40 => ?_) (fun zc40 => ?_)
          · have hk41 := hkJ106.trans (if_neg zc40)
            refine g_iload cx 0 rfl e_X10_odds_118 ?_
            refine g_iload cx 1 rfl e_X10_odds_120 ?_
            refine g_idiv cx zc40 e_X10_odds_122 ?_
            refine g_topi (fun x42 ex42 => ?_)
            have hk43 := k_ls hk41 ex42
            refine g_lsub [] [] rfl ?_
            exact J123 x42 (jv_t x42) hk43
          · have p44 := gn_eq 0 0 (gc_eq zc40) pr33 (jv_k (x := 0) 0 (by decide)) (by decide)
            have hk45 := hkJ106.trans (if_pos zc40)
            refine g_iload cx 0 rfl e_X10_odds_113 ?_
            refine g_goto cx 123 e_X10_odds_115 (by decide) ?_
            refine g_lsub [] [] rfl ?_
            exact J123 y38 py38 hk45
        refine g_if_ne cx 104 e_X10_odds_96 (by decide) (fun zc46 => ?_) (fun zc46 => ?_)
        · have hk47 := hk37.trans (if_neg zc46)
          refine g_iload cx 2 rfl e_X10_odds_104 ?_
          refine g_lsub [0] [(7, .int r33)] rfl ?_
          exact J106 r21 pr21 hk47
        · have p48 := gn_eq 0 0 (gc_eq zc46) (jv_t a2) (jv_k (x := 0) 0 (by decide)) (by decide)
          have hk49 := hk37.trans (if_pos zc46)
          refine g_iload cx 1 rfl e_X10_odds_99 ?_
          refine g_goto cx 106 e_X10_odds_101 (by decide) ?_
          refine g_lsub [0] [(7, .int r33)] rfl ?_
          exact J106 r26 pr26 hk49
      · have p50 := gn_eq 0 0 (gc_eq zc11) (g_ok_g hI 2 rfl) (jv_k (x := 0) 0 (by decide)) (by decide)
        have hk51 := hk10.trans (if_pos zc11)
        refine g_lsub [] [] rfl ?_
        exact J50  hk51
  have J32 : (SP = K_X10_odds_32 F R a0 a1 a2) → G X E 9 0 0 (wX X ad F R) [(0, .ref (ad 0)), (1, .int a0), (2, .int a1), (3, .int a2)] 32 [] := by
    intro   hkJ32
    unfold K_X10_odds_32 at hkJ32
    refine g_iconst cx 0 (by decide) e_X10_odds_32 ?_
    exact J33 0 (jv_w (jv_k (x := 0) 0 (by decide)) (by decide)) hkJ32
  refine g_if_eq cx 32 e_X10_odds_6 (by decide) (fun zc52 => ?_) (fun zc52 => ?_)
  · have p53 := gn_eq 0 0 (gc_eq zc52) pr1 (jv_k (x := 0) 0 (by decide)) (by decide)
    have hk54 := hk4.trans (if_pos zc52)
    exact J32  hk54
  · have p55 := gn_neL 1 1 (gc_ne zc52) pr1 (jv_k (x := 0) 0 (by decide)) (by decide)
    have p56 := jv_i 1 3 (jv_t a0) (gi_in (A := 1) (B := 3) hr1 zc52 (by decide) (by decide)) (by decide)
    have hk57 := hk4.trans (if_neg zc52)
    refine g_iload_n cx 2 rfl e_X10_odds_9 ?_
    refine g_iconst cx 0 (by decide) e_X10_odds_10 ?_
    refine g_bipush cx 10 (by decide) e_X10_odds_11 ?_
    refine g_cSiW cx [.int a1, .int 0, .int 10] [] (c_X10_within l X (wX X ad F R) a1 0 10) ml_X10_82 yS_X10_within rfl e_X10_odds_13 (by unfold g_rr; decide) (by decide) rfl (Nat.le_of_ble_eq_true rfl) (fun r58 w59 h60 => ?_)
    obtain ⟨rfl, hr58⟩ := h60
    have pr58 : jv 0 1 r58 := by rw [hr58]; exact gi_01 _ _ _
    have hk61 := k_ls hk57 hr58
    refine g_if_eq cx 32 e_X10_odds_16 (by decide) (fun zc62 => ?_) (fun zc62 => ?_)
    · have p63 := gn_eq 0 0 (gc_eq zc62) pr58 (jv_k (x := 0) 0 (by decide)) (by decide)
      have hk64 := hk61.trans (if_pos zc62)
      exact J32  hk64
    · have p65 := gn_neL 1 1 (gc_ne zc62) pr58 (jv_k (x := 0) 0 (by decide)) (by decide)
      have p66 := jv_i 0 10 (jv_t a1) (gi_in (A := 0) (B := 10) hr58 zc62 (by decide) (by decide)) (by decide)
      have hk67 := hk61.trans (if_neg zc62)
      refine g_iload_n cx 3 rfl e_X10_odds_19 ?_
      refine g_iconst cx 0 (by decide) e_X10_odds_20 ?_
      refine g_iconst cx 1 (by decide) e_X10_odds_21 ?_
      refine g_cSiW cx [.int a2, .int 0, .int 1] [] (c_X10_within l X (wX X ad F R) a2 0 1) ml_X10_82 yS_X10_within rfl e_X10_odds_22 (by unfold g_rr; decide) (by decide) rfl (Nat.le_of_ble_eq_true rfl) (fun r68 w69 h70 => ?_)
      obtain ⟨rfl, hr68⟩ := h70
      have pr68 : jv 0 1 r68 := by rw [hr68]; exact gi_01 _ _ _
      have hk71 := k_ls hk67 hr68
      refine g_if_eq cx 32 e_X10_odds_25 (by decide) (fun zc72 => ?_) (fun zc72 => ?_)
      · have p73 := gn_eq 0 0 (gc_eq zc72) pr68 (jv_k (x := 0) 0 (by decide)) (by decide)
        have hk74 := hk71.trans (if_pos zc72)
        exact J32  hk74
      · have p75 := gn_neL 1 1 (gc_ne zc72) pr68 (jv_k (x := 0) 0 (by decide)) (by decide)
        have p76 := jv_i 0 1 (jv_t a2) (gi_in (A := 0) (B := 1) hr68 zc72 (by decide) (by decide)) (by decide)
        have hk77 := hk71.trans (if_neg zc72)
        refine g_iconst cx 1 (by decide) e_X10_odds_28 ?_
        refine g_goto cx 33 e_X10_odds_29 (by decide) ?_
        exact J33 1 (jv_w (jv_k (x := 1) 1 (by decide)) (by decide)) hk77
def K_X7_sumHands_49 (b6 : (Nat → Int32) → (Nat → Nat → Int32) → (Int32) → (Int32) → Int32 × (Nat → Int32) × (Nat → Nat → Int32)) (F21 : Nat → Int32) (R22 : Nat → Nat → Int32) (y1 : Int32) (y2 : Int32) (y29 : Int32) : Int32 × (Nat → Int32) × (Nat → Nat → Int32) :=
  k_lt (sp_X4_loss_r5 F21 R22) (fun r30 => k_lt (y29 - r30) (fun x35 => k_lt (y1 + x35) (fun x37 => k_lt (y2 + 1) (fun x39 => b6 F21 R22 x37 x39))))
def KB_X7_sumHands_6 (b6 : (Nat → Int32) → (Nat → Nat → Int32) → (Int32) → (Int32) → Int32 × (Nat → Int32) × (Nat → Nat → Int32)) (a0 : Int32) (a1 : Int32) (a2 : Int32) (F3 : Nat → Int32) (R4 : Nat → Nat → Int32) (y1 : Int32) (y2 : Int32) : Int32 × (Nat → Int32) × (Nat → Nat → Int32) :=
  if a1 ≤ y2 then (y1, F3, R4) else k_lt2 (sp_X1_drawTold F3 R4 a0 y2) (fun F14 R15 => k_lt2 (sp_X0_run F14 R15) (fun F21 R22 => k_lt (sp_X4_allStand F21 R22) (fun r24 => if r24 = 0 then K_X7_sumHands_49 b6 F21 R22 y1 y2 0 else K_X7_sumHands_49 b6 F21 R22 y1 y2 a2)))
def K_X7_sumHands_6 (a0 : Int32) (a1 : Int32) (a2 : Int32) : Nat → (Nat → Int32) → (Nat → Nat → Int32) → (Int32) → (Int32) → Int32 × (Nat → Int32) × (Nat → Nat → Int32)
  | 0 => fun F3 R4 _ _ => (0, F3, R4)
  | n + 1 => KB_X7_sumHands_6 (K_X7_sumHands_6 a0 a1 a2 n) a0 a1 a2
def sp_X7_sumHands (F : Nat → Int32) (R : Nat → Nat → Int32) (a0 : Int32) (a1 : Int32) (a2 : Int32) : Int32 × (Nat → Int32) × (Nat → Nat → Int32) :=
  K_X7_sumHands_6 a0 a1 a2 8589934592 F R 0 0
theorem e_X7_sumHands_0 : g_dc cX7_sumHands 0 (.iconst 0) 1 1 := ⟨by decide +kernel, rfl⟩
theorem e_X7_sumHands_1 : g_dc cX7_sumHands 1 (.istore 4) 2 3 := ⟨by decide +kernel, rfl⟩
theorem e_X7_sumHands_3 : g_dc cX7_sumHands 3 (.iconst 0) 1 4 := ⟨by decide +kernel, rfl⟩
theorem e_X7_sumHands_4 : g_dc cX7_sumHands 4 (.istore 5) 2 6 := ⟨by decide +kernel, rfl⟩
theorem e_X7_sumHands_6 : g_dc cX7_sumHands 6 (.iload 5) 2 8 := ⟨by decide +kernel, rfl⟩
theorem e_X7_sumHands_8 : g_dc cX7_sumHands 8 (.iload_n 2) 1 9 := ⟨by decide +kernel, rfl⟩
theorem e_X7_sumHands_9 : g_dc cX7_sumHands 9 (.if_icmp .ge 61) 3 12 := ⟨by decide +kernel, rfl⟩
theorem e_X7_sumHands_12 : g_dc cX7_sumHands 12 (.aload_n 0) 1 13 := ⟨by decide +kernel, rfl⟩
theorem e_X7_sumHands_13 : g_dc cX7_sumHands 13 (.getfield 46) 3 16 := ⟨by decide +kernel, rfl⟩
theorem e_X7_sumHands_16 : g_dc cX7_sumHands 16 (.getfield 73) 3 19 := ⟨by decide +kernel, rfl⟩
theorem e_X7_sumHands_19 : g_dc cX7_sumHands 19 (.iload_n 1) 1 20 := ⟨by decide +kernel, rfl⟩
theorem e_X7_sumHands_20 : g_dc cX7_sumHands 20 (.iload 5) 2 22 := ⟨by decide +kernel, rfl⟩
theorem e_X7_sumHands_22 : g_dc cX7_sumHands 22 (.invokevirtual 163) 3 25 := ⟨by decide +kernel, rfl⟩
theorem e_X7_sumHands_25 : g_dc cX7_sumHands 25 (.aload_n 0) 1 26 := ⟨by decide +kernel, rfl⟩
theorem e_X7_sumHands_26 : g_dc cX7_sumHands 26 (.getfield 46) 3 29 := ⟨by decide +kernel, rfl⟩
theorem e_X7_sumHands_29 : g_dc cX7_sumHands 29 (.invokevirtual 89) 3 32 := ⟨by decide +kernel, rfl⟩
theorem e_X7_sumHands_32 : g_dc cX7_sumHands 32 (.iload 4) 2 34 := ⟨by decide +kernel, rfl⟩
theorem e_X7_sumHands_34 : g_dc cX7_sumHands 34 (.aload_n 0) 1 35 := ⟨by decide +kernel, rfl⟩
theorem e_X7_sumHands_35 : g_dc cX7_sumHands 35 (.getfield 63) 3 38 := ⟨by decide +kernel, rfl⟩
theorem e_X7_sumHands_38 : g_dc cX7_sumHands 38 (.invokevirtual 92) 3 41 := ⟨by decide +kernel, rfl⟩
theorem e_X7_sumHands_41 : g_dc cX7_sumHands 41 (.ifCond .eq 7) 3 44 := ⟨by decide +kernel, rfl⟩
theorem e_X7_sumHands_44 : g_dc cX7_sumHands 44 (.iload_n 3) 1 45 := ⟨by decide +kernel, rfl⟩
theorem e_X7_sumHands_45 : g_dc cX7_sumHands 45 (.goto 4) 3 48 := ⟨by decide +kernel, rfl⟩
theorem e_X7_sumHands_48 : g_dc cX7_sumHands 48 (.iconst 0) 1 49 := ⟨by decide +kernel, rfl⟩
theorem e_X7_sumHands_49 : g_dc cX7_sumHands 49 (.aload_n 0) 1 50 := ⟨by decide +kernel, rfl⟩
theorem e_X7_sumHands_50 : g_dc cX7_sumHands 50 (.getfield 63) 3 53 := ⟨by decide +kernel, rfl⟩
theorem e_X7_sumHands_53 : g_dc cX7_sumHands 53 (.aload_n 0) 1 54 := ⟨by decide +kernel, rfl⟩
theorem e_X7_sumHands_54 : g_dc cX7_sumHands 54 (.getfield 53) 3 57 := ⟨by decide +kernel, rfl⟩
theorem e_X7_sumHands_57 : g_dc cX7_sumHands 57 (.invokevirtual 166) 3 60 := ⟨by decide +kernel, rfl⟩
theorem e_X7_sumHands_60 : g_dc cX7_sumHands 60 (.isub) 1 61 := ⟨by decide +kernel, rfl⟩
theorem e_X7_sumHands_61 : g_dc cX7_sumHands 61 (.iadd) 1 62 := ⟨by decide +kernel, rfl⟩
theorem e_X7_sumHands_62 : g_dc cX7_sumHands 62 (.istore 4) 2 64 := ⟨by decide +kernel, rfl⟩
theorem e_X7_sumHands_64 : g_dc cX7_sumHands 64 (.iinc 5 1) 3 67 := ⟨by decide +kernel, rfl⟩
theorem e_X7_sumHands_67 : g_dc cX7_sumHands 67 (.goto (-61)) 3 70 := ⟨by decide +kernel, rfl⟩
theorem e_X7_sumHands_70 : g_dc cX7_sumHands 70 (.iload 4) 2 72 := ⟨by decide +kernel, rfl⟩
theorem e_X7_sumHands_72 : g_dc cX7_sumHands 72 (.ireturn) 1 73 := ⟨by decide +kernel, rfl⟩
def md_X7_sumHands : List Nat := [601, 602, 603, 604, 605, 606, 672, 673, 674, 675, 691, 692, 693, 694, 695, 696, 697, 698]
def mr_X7_sumHands : List Nat := [23, 24, 38, 39, 40, 41, 44, 45, 46]
set_option maxHeartbeats 4000000 in
set_option maxRecDepth 100000 in
theorem w_X7_sumHands (l : Launch) (X : gX) (ad : Nat → Nat) (F : Nat → Int32) (R : Nat → Nat → Int32) (hI : g_ok LK_wX F) (hA : g_okR LA_wX R) (a0 : Int32) (a1 : Int32) (a2 : Int32) : g_Ci l X yX7_sumHands cX7_sumHands 6 (some .int) 7 0 0 [.ref (ad 35), .int a0, .int a1, .int a2] (wX X ad F R) (fun r w => ∃ (F' : Nat → Int32) (R' : Nat → Nat → Int32), w = wX X ad F' R' ∧ g_ok LK_wX F' ∧ g_okR LA_wX R' ∧ g_fr md_X7_sumHands F F' ∧ g_fr mr_X7_sumHands R R' ∧ jv (-2147483648) 2147483647 r ∧ (r, F', R') = sp_X7_sumHands F R a0 a1 a2) := by
  refine g_mi (by decide +kernel) (Nat.le_of_ble_eq_true rfl) (fun E cx hret => ?_)
  obtain ⟨SP, hSP⟩ : ∃ z, z = sp_X7_sumHands F R a0 a1 a2 := ⟨_, rfl⟩
  have hk0 := hSP
  unfold sp_X7_sumHands at hk0
  refine g_iconst cx 0 (by decide) e_X7_sumHands_0 ?_
  refine g_istore cx [(4, .int 0), (0, .ref (ad 35)), (1, .int a0), (2, .int a1), (3, .int a2)] e_X7_sumHands_1 (by decide) rfl ?_
  refine g_iconst cx 0 (by decide) e_X7_sumHands_3 ?_
  refine g_istore cx [(5, .int 0), (4, .int 0), (0, .ref (ad 35)), (1, .int a0), (2, .int a1), (3, .int a2)] e_X7_sumHands_4 (by decide) rfl ?_
  have J6 : ∀ (N : Nat) (F3 : Nat → Int32) (R4 : Nat → Nat → Int32) (y1 : Int32) (y2 : Int32), (g_ok LK_wX F3) → (g_fr md_X7_sumHands F F3) → (g_okR LA_wX R4) → (g_fr mr_X7_sumHands R R4) → (jv (-2147483648) 2147483647 y1) → (jv 0 2147483647 y2) → (SP = K_X7_sumHands_6 a0 a1 a2 N F3 R4 y1 y2) → (2147483647 - y2.toInt).toNat < N → G X E 6 0 0 (wX X ad F3 R4) [(0, .ref (ad 35)), (1, .int a0), (2, .int a1), (3, .int a2), (4, .int y1), (5, .int y2)] 6 [] := by
    intro N
    induction N with
    | zero => intro F3 R4 y1 y2 oF3 fF3 oR4 fR4 py1 py2 hkJ6 hm; exact absurd hm (Nat.not_lt_zero _)
    | succ N ih6 =>
      intro F3 R4 y1 y2 oF3 fF3 oR4 fR4 py1 py2 hkJ6 hm6
      have hkK6 : SP = KB_X7_sumHands_6 (K_X7_sumHands_6 a0 a1 a2 N) a0 a1 a2 F3 R4 y1 y2 := hkJ6
      obtain ⟨b6, hb6⟩ : ∃ z, z = K_X7_sumHands_6 a0 a1 a2 N := ⟨_, rfl⟩
      rw [← hb6] at hkK6
      unfold KB_X7_sumHands_6 at hkK6
      refine g_iload cx 5 rfl e_X7_sumHands_6 ?_
      refine g_iload_n cx 2 rfl e_X7_sumHands_8 ?_
      refine g_icmp_ge cx 70 e_X7_sumHands_9 (by decide) (fun zc5 => ?_) (fun zc5 => ?_)
      · have hk6 := hkK6.trans (if_pos zc5)
        refine g_iload cx 4 rfl e_X7_sumHands_70 ?_
        exact hret e_X7_sumHands_72 (Nat.le_of_ble_eq_true rfl) (Nat.le_of_ble_eq_true rfl) rfl ⟨F3, R4, rfl, oF3, oR4, fF3, fR4, py1, (hk6.symm.trans hSP)⟩
      · have p7 := gn_lt 0 2147483646 (gc_nle zc5) py2 (jv_t a1) (by decide)
        have p8 := gn_gt 1 2147483647 (gc_nle zc5) (jv_t a1) py2 (by decide)
        have hk9 := hkK6.trans (if_neg zc5)
        refine g_aload_n cx 0 rfl e_X7_sumHands_12 ?_
        refine g_get cx cl_X7 fl_X7_46 35 (.ref (ad 37)) e_X7_sumHands_13 rfl rfl ?_
        refine g_getN cx cl_X0 fn_X7_73 37 (.ref (ad 42)) e_X7_sumHands_16 rfl rfl ?_
        refine g_iload_n cx 1 rfl e_X7_sumHands_19 ?_
        refine g_iload cx 5 rfl e_X7_sumHands_20 ?_
        refine g_cVvW cx [.int a0, .int y2] [] (w_X1_drawTold l X ad F3 R4 oF3 oR4 a0 y2) ml_X7_163 yV_X1_drawTold e_X7_sumHands_22 (by unfold g_rr; decide) (by decide) 42 rfl rfl rfl (Nat.le_of_ble_eq_true rfl) (fun w11 h12 => ?_)
        obtain ⟨F14, R15, rfl, oF14, oR15, cF14, cR15, hx13⟩ := h12
        have hk16 := k_ls2 hk9 hx13
        have fF14 : g_fr md_X7_sumHands F F14 := g_fr_c fF3 cF14 rfl
        have fR15 : g_fr mr_X7_sumHands R R15 := g_fr_c fR4 cR15 rfl
        refine g_aload_n cx 0 rfl e_X7_sumHands_25 ?_
        refine g_get cx cl_X7 fl_X7_46 35 (.ref (ad 37)) e_X7_sumHands_26 rfl rfl ?_
        refine g_cVvW cx [] [] (w_X0_run l X ad F14 R15 oF14 oR15) ml_X7_89 yV_X0_run e_X7_sumHands_29 (by unfold g_rr; decide) (by decide) 37 rfl rfl rfl (Nat.le_of_ble_eq_true rfl) (fun w18 h19 => ?_)
        obtain ⟨F21, R22, rfl, oF21, oR22, cF21, cR22, hx20⟩ := h19
        have hk23 := k_ls2 hk16 hx20
        have fF21 : g_fr md_X7_sumHands F F21 := g_fr_c fF14 cF21 rfl
        have fR22 : g_fr mr_X7_sumHands R R22 := g_fr_c fR15 cR22 rfl
        refine g_iload cx 4 rfl e_X7_sumHands_32 ?_
        refine g_aload_n cx 0 rfl e_X7_sumHands_34 ?_
        refine g_get cx cl_X7 fl_X7_63 35 (.ref (ad 43)) e_X7_sumHands_35 rfl rfl ?_
        refine g_cViW cx [] [.int y1] (w_X4_allStand l X ad F21 R22 oF21 oR22) ml_X7_92 yV_X4_allStand e_X7_sumHands_38 (by unfold g_rr; decide) (by decide) 43 rfl rfl rfl (Nat.le_of_ble_eq_true rfl) (fun r24 w25 h26 => ?_)
        obtain ⟨rfl, pr24, hx27⟩ := h26
        have hk28 := k_ls hk23 hx27
        have J49 : ∀ (y29 : Int32), (jv (-2147483648) 2147483647 y29) → (SP = K_X7_sumHands_49 b6 F21 R22 y1 y2 y29) → G X E 6 0 0 (wX X ad F21 R22) [(0, .ref (ad 35)), (1, .int a0), (2, .int a1), (3, .int a2), (5, .int y2)] 49 [.int y29, .int y1] := by
          intro y29 py29 hkJ49
          unfold K_X7_sumHands_49 at hkJ49
          refine g_aload_n cx 0 rfl e_X7_sumHands_49 ?_
          refine g_get cx cl_X7 fl_X7_63 35 (.ref (ad 43)) e_X7_sumHands_50 rfl rfl ?_
          refine g_aload_n cx 0 rfl e_X7_sumHands_53 ?_
          refine g_get cx cl_X7 fl_X7_53 35 (.ref (ad 5)) e_X7_sumHands_54 rfl rfl ?_
          refine g_cViW cx [.ref (ad 5)] [.int y29, .int y1] (w_X4_loss_r5 l X ad F21 R22 oF21 oR22) ml_X7_166 yV_X4_loss e_X7_sumHands_57 (by unfold g_rr; decide) (by decide) 43 rfl rfl rfl (Nat.le_of_ble_eq_true rfl) (fun r30 w31 h32 => ?_)
          obtain ⟨rfl, pr30, hx33⟩ := h32
          have hk34 := k_ls hkJ49 hx33
          refine g_isub cx e_X7_sumHands_60 ?_
          refine g_topi (fun x35 ex35 => ?_)
          have hk36 := k_ls hk34 ex35
          refine g_iadd cx e_X7_sumHands_61 ?_
          refine g_topi (fun x37 ex37 => ?_)
          have hk38 := k_ls hk36 ex37
          refine g_istore cx [(4, .int x37), (0, .ref (ad 35)), (1, .int a0), (2, .int a1), (3, .int a2), (5, .int y2)] e_X7_sumHands_62 (by decide) rfl ?_
          obtain ⟨x39, ex39⟩ : ∃ z : Int32, z = y2 + Int32.ofInt 1 := ⟨_, rfl⟩
          have hk40 := k_ls hk38 (show x39 = y2 + 1 from ex39)
          refine g_iinc cx x39 [(5, .int x39), (4, .int x37), (0, .ref (ad 35)), (1, .int a0), (2, .int a1), (3, .int a2)] 5 e_X7_sumHands_64 rfl ex39.symm (by decide) rfl ?_
          have zx39 := jv_add 1 2147483647 (show x39 = y2 + 1 from ex39) p7 (jv_k (x := 1) 1 (by decide)) (by decide)
          refine g_goto cx 6 e_X7_sumHands_67 (by decide) ?_
          refine g_lsub [2, 3, 4, 5, 1, 0] [(0, .ref (ad 35)), (1, .int a0), (2, .int a1), (3, .int a2), (4, .int x37), (5, .int x39)] rfl ?_
          exact ih6 F21 R22 x37 x39 oF21 fF21 oR22 fR22 (jv_t x37) (jv_w zx39.2 (by decide)) (hk40.trans (by rw [hb6])) (Nat.lt_of_lt_of_le (show (2147483647 - x39.toInt).toNat < (2147483647 - y2.toInt).toNat from by have q0 := (jv_k (x := 1) 1 (by decide)).1; have q1 := (jv_k (x := 1) 1 (by decide)).2; have q2 := p8.1; have q3 := p8.2; have q4 := zx39.2.1; have q5 := zx39.2.2; have q6 := p7.1; have q7 := p7.2; have q8 := (gc_nle zc5); have q9 := (g_eq0 zx39.1); omega) (Nat.le_of_lt_succ hm6))
        refine g_if_eq cx 48 e_X7_sumHands_41 (by decide) (fun zc41 => ?_) (fun zc41 => ?_)
        · have p42 := gn_eq 0 0 (gc_eq zc41) pr24 (jv_k (x := 0) 0 (by decide)) (by decide)
          have hk43 := hk28.trans (if_pos zc41)
          refine g_iconst cx 0 (by decide) e_X7_sumHands_48 ?_
          refine g_lsub [0, 1, 2, 3, 5] [(0, .ref (ad 35)), (1, .int a0), (2, .int a1), (3, .int a2), (5, .int y2)] rfl ?_
          exact J49 0 (jv_w (jv_k (x := 0) 0 (by decide)) (by decide)) hk43
        · have p44 := gn_neL 1 1 (gc_ne zc41) pr24 (jv_k (x := 0) 0 (by decide)) (by decide)
          have hk45 := hk28.trans (if_neg zc41)
          refine g_iload_n cx 3 rfl e_X7_sumHands_44 ?_
          refine g_goto cx 49 e_X7_sumHands_45 (by decide) ?_
          refine g_lsub [0, 1, 2, 3, 5] [(0, .ref (ad 35)), (1, .int a0), (2, .int a1), (3, .int a2), (5, .int y2)] rfl ?_
          exact J49 a2 (jv_t a2) hk45
  refine g_lsub [2, 3, 4, 5, 1, 0] [(0, .ref (ad 35)), (1, .int a0), (2, .int a1), (3, .int a2), (4, .int 0), (5, .int 0)] rfl ?_
  exact J6 8589934592 F R 0 0 hI (g_fr_rf F) hA (g_fr_rf R) (jv_w (jv_k (x := 0) 0 (by decide)) (by decide)) (jv_w (jv_k (x := 0) 0 (by decide)) (by decide)) hk0 (show (2147483647 - (0 : Int32).toInt).toNat < 8589934592 from by have q0 := (jv_k (x := 0) 0 (by decide)).1; have q1 := (jv_k (x := 0) 0 (by decide)).2; omega)
def K_X10_should_30 (F : Nat → Int32) (R : Nat → Nat → Int32)  : Int32 × (Nat → Int32) × (Nat → Nat → Int32) :=
  ((-1000000000), F, R)
def sp_X10_should (F : Nat → Int32) (R : Nat → Nat → Int32) (a0 : Int32) (a1 : Int32) : Int32 × (Nat → Int32) × (Nat → Nat → Int32) :=
  k_lt (g_in a0 1 3) (fun r1 => if r1 = 0 then K_X10_should_30 F R else k_lt (g_in a1 0 9999) (fun r11 => if r11 = 0 then K_X10_should_30 F R else if (F 177) = 0 then K_X10_should_30 F R else k_lt2 (sp_X7_lay_r1_r11 F R) (fun F28 R29 => k_lt (sp_X10_hands F28 R29 a0) (fun r31 => k_lt3 (sp_X7_sumHands F28 R29 a0 r31 a1) (fun r36 F40 R41 => (r36, F40, R41))))))
theorem e_X10_should_0 : g_dc cX10_should 0 (.iload_n 1) 1 1 := ⟨by decide +kernel, rfl⟩
theorem e_X10_should_1 : g_dc cX10_should 1 (.iconst 1) 1 2 := ⟨by decide +kernel, rfl⟩
theorem e_X10_should_2 : g_dc cX10_should 2 (.iconst 3) 1 3 := ⟨by decide +kernel, rfl⟩
theorem e_X10_should_3 : g_dc cX10_should 3 (.invokestatic 82) 3 6 := ⟨by decide +kernel, rfl⟩
theorem e_X10_should_6 : g_dc cX10_should 6 (.ifCond .eq 24) 3 9 := ⟨by decide +kernel, rfl⟩
theorem e_X10_should_9 : g_dc cX10_should 9 (.iload_n 2) 1 10 := ⟨by decide +kernel, rfl⟩
theorem e_X10_should_10 : g_dc cX10_should 10 (.iconst 0) 1 11 := ⟨by decide +kernel, rfl⟩
theorem e_X10_should_11 : g_dc cX10_should 11 (.sipush 9999) 3 14 := ⟨by decide +kernel, rfl⟩
theorem e_X10_should_14 : g_dc cX10_should 14 (.invokestatic 82) 3 17 := ⟨by decide +kernel, rfl⟩
theorem e_X10_should_17 : g_dc cX10_should 17 (.ifCond .eq 13) 3 20 := ⟨by decide +kernel, rfl⟩
theorem e_X10_should_20 : g_dc cX10_should 20 (.aload_n 0) 1 21 := ⟨by decide +kernel, rfl⟩
theorem e_X10_should_21 : g_dc cX10_should 21 (.getfield 29) 3 24 := ⟨by decide +kernel, rfl⟩
theorem e_X10_should_24 : g_dc cX10_should 24 (.getfield 124) 3 27 := ⟨by decide +kernel, rfl⟩
theorem e_X10_should_27 : g_dc cX10_should 27 (.ifCond .ne 6) 3 30 := ⟨by decide +kernel, rfl⟩
theorem e_X10_should_30 : g_dc cX10_should 30 (.ldc 252) 2 32 := ⟨by decide +kernel, rfl⟩
theorem e_X10_should_32 : g_dc cX10_should 32 (.ireturn) 1 33 := ⟨by decide +kernel, rfl⟩
theorem e_X10_should_33 : g_dc cX10_should 33 (.aload_n 0) 1 34 := ⟨by decide +kernel, rfl⟩
theorem e_X10_should_34 : g_dc cX10_should 34 (.getfield 58) 3 37 := ⟨by decide +kernel, rfl⟩
theorem e_X10_should_37 : g_dc cX10_should 37 (.aload_n 0) 1 38 := ⟨by decide +kernel, rfl⟩
theorem e_X10_should_38 : g_dc cX10_should 38 (.getfield 10) 3 41 := ⟨by decide +kernel, rfl⟩
theorem e_X10_should_41 : g_dc cX10_should 41 (.aload_n 0) 1 42 := ⟨by decide +kernel, rfl⟩
theorem e_X10_should_42 : g_dc cX10_should 42 (.getfield 29) 3 45 := ⟨by decide +kernel, rfl⟩
theorem e_X10_should_45 : g_dc cX10_should 45 (.invokevirtual 148) 3 48 := ⟨by decide +kernel, rfl⟩
theorem e_X10_should_48 : g_dc cX10_should 48 (.aload_n 0) 1 49 := ⟨by decide +kernel, rfl⟩
theorem e_X10_should_49 : g_dc cX10_should 49 (.getfield 58) 3 52 := ⟨by decide +kernel, rfl⟩
theorem e_X10_should_52 : g_dc cX10_should 52 (.iload_n 1) 1 53 := ⟨by decide +kernel, rfl⟩
theorem e_X10_should_53 : g_dc cX10_should 53 (.iload_n 1) 1 54 := ⟨by decide +kernel, rfl⟩
theorem e_X10_should_54 : g_dc cX10_should 54 (.invokestatic 242) 3 57 := ⟨by decide +kernel, rfl⟩
theorem e_X10_should_57 : g_dc cX10_should 57 (.iload_n 2) 1 58 := ⟨by decide +kernel, rfl⟩
theorem e_X10_should_58 : g_dc cX10_should 58 (.invokevirtual 253) 3 61 := ⟨by decide +kernel, rfl⟩
theorem e_X10_should_61 : g_dc cX10_should 61 (.ireturn) 1 62 := ⟨by decide +kernel, rfl⟩
def md_X10_should : List Nat := [80, 81, 82, 83, 84, 241, 601, 602, 603, 604, 605, 606, 672, 673, 674, 675, 691, 692, 693, 694, 695, 696, 697, 698]
def mr_X10_should : List Nat := [6, 16, 23, 24, 38, 39, 40, 41, 44, 45, 46]
set_option maxHeartbeats 4000000 in
set_option maxRecDepth 100000 in
theorem w_X10_should (l : Launch) (X : gX) (ad : Nat → Nat) (F : Nat → Int32) (R : Nat → Nat → Int32) (hI : g_ok LK_wX F) (hA : g_okR LA_wX R) (a0 : Int32) (a1 : Int32) : g_Ci l X yX10_should cX10_should 3 (some .int) 8 0 0 [.ref (ad 0), .int a0, .int a1] (wX X ad F R) (fun r w => ∃ (F' : Nat → Int32) (R' : Nat → Nat → Int32), w = wX X ad F' R' ∧ g_ok LK_wX F' ∧ g_okR LA_wX R' ∧ g_fr md_X10_should F F' ∧ g_fr mr_X10_should R R' ∧ jv (-2147483648) 2147483647 r ∧ (r, F', R') = sp_X10_should F R a0 a1) := by
  refine g_mi (by decide +kernel) (Nat.le_of_ble_eq_true rfl) (fun E cx hret => ?_)
  obtain ⟨SP, hSP⟩ : ∃ z, z = sp_X10_should F R a0 a1 := ⟨_, rfl⟩
  have hk0 := hSP
  unfold sp_X10_should at hk0
  refine g_iload_n cx 1 rfl e_X10_should_0 ?_
  refine g_iconst cx 1 (by decide) e_X10_should_1 ?_
  refine g_iconst cx 3 (by decide) e_X10_should_2 ?_
  refine g_cSiW cx [.int a0, .int 1, .int 3] [] (c_X10_within l X (wX X ad F R) a0 1 3) ml_X10_82 yS_X10_within rfl e_X10_should_3 (by unfold g_rr; decide) (by decide) rfl (Nat.le_of_ble_eq_true rfl) (fun r1 w2 h3 => ?_)
  obtain ⟨rfl, hr1⟩ := h3
  have pr1 : jv 0 1 r1 := by rw [hr1]; exact gi_01 _ _ _
  have hk4 := k_ls hk0 hr1
  have J30 : (SP = K_X10_should_30 F R) → G X E 3 0 0 (wX X ad F R) [] 30 [] := by
    intro   hkJ30
    unfold K_X10_should_30 at hkJ30
    refine g_ldc cx (-1000000000) kc_X10_252 e_X10_should_30 ?_
    exact hret e_X10_should_32 (Nat.le_of_ble_eq_true rfl) (Nat.le_of_ble_eq_true rfl) rfl ⟨F, R, rfl, hI, hA, (g_fr_rf F), (g_fr_rf R), (jv_w (jv_k (x := (-1000000000)) (-1000000000) (by decide)) (by decide)), (hkJ30.symm.trans hSP)⟩
  refine g_if_eq cx 30 e_X10_should_6 (by decide) (fun zc5 => ?_) (fun zc5 => ?_)
  · have p6 := gn_eq 0 0 (gc_eq zc5) pr1 (jv_k (x := 0) 0 (by decide)) (by decide)
    have hk7 := hk4.trans (if_pos zc5)
    refine g_lsub [] [] rfl ?_
    exact J30  hk7
  · have p8 := gn_neL 1 1 (gc_ne zc5) pr1 (jv_k (x := 0) 0 (by decide)) (by decide)
    have p9 := jv_i 1 3 (jv_t a0) (gi_in (A := 1) (B := 3) hr1 zc5 (by decide) (by decide)) (by decide)
    have hk10 := hk4.trans (if_neg zc5)
    refine g_iload_n cx 2 rfl e_X10_should_9 ?_
    refine g_iconst cx 0 (by decide) e_X10_should_10 ?_
    refine g_sipush cx 9999 (by decide) e_X10_should_11 ?_
    refine g_cSiW cx [.int a1, .int 0, .int 9999] [] (c_X10_within l X (wX X ad F R) a1 0 9999) ml_X10_82 yS_X10_within rfl e_X10_should_14 (by unfold g_rr; decide) (by decide) rfl (Nat.le_of_ble_eq_true rfl) (fun r11 w12 h13 => ?_)
    obtain ⟨rfl, hr11⟩ := h13
    have pr11 : jv 0 1 r11 := by rw [hr11]; exact gi_01 _ _ _
    have hk14 := k_ls hk10 hr11
    refine g_if_eq cx 30 e_X10_should_17 (by decide) (fun zc15 => ?_) (fun zc15 => ?_)
    · have p16 := gn_eq 0 0 (gc_eq zc15) pr11 (jv_k (x := 0) 0 (by decide)) (by decide)
      have hk17 := hk14.trans (if_pos zc15)
      refine g_lsub [] [] rfl ?_
      exact J30  hk17
    · have p18 := gn_neL 1 1 (gc_ne zc15) pr11 (jv_k (x := 0) 0 (by decide)) (by decide)
      have p19 := jv_i 0 9999 (jv_t a1) (gi_in (A := 0) (B := 9999) hr11 zc15 (by decide) (by decide)) (by decide)
      have hk20 := hk14.trans (if_neg zc15)
      refine g_aload_n cx 0 rfl e_X10_should_20 ?_
      refine g_get cx cl_X10 fl_X10_29 0 (.ref (ad 11)) e_X10_should_21 rfl rfl ?_
      refine g_getN cx cl_X5 fn_X10_124 11 (.int (F 177)) e_X10_should_24 rfl rfl ?_
      refine g_if_ne cx 33 e_X10_should_27 (by decide) (fun zc21 => ?_) (fun zc21 => ?_)
      · have p22 := gn_neL 1 60 (gc_ne zc21) (g_ok_g hI 2 rfl) (jv_k (x := 0) 0 (by decide)) (by decide)
        have hk23 := hk20.trans (if_neg zc21)
        refine g_aload_n cx 0 rfl e_X10_should_33 ?_
        refine g_get cx cl_X10 fl_X10_58 0 (.ref (ad 35)) e_X10_should_34 rfl rfl ?_
        refine g_aload_n cx 0 rfl e_X10_should_37 ?_
        refine g_get cx cl_X10 fl_X10_10 0 (.ref (ad 1)) e_X10_should_38 rfl rfl ?_
        refine g_aload_n cx 0 rfl e_X10_should_41 ?_
        refine g_get cx cl_X10 fl_X10_29 0 (.ref (ad 11)) e_X10_should_42 rfl rfl ?_
        refine g_cVvW cx [.ref (ad 1), .ref (ad 11)] [] (w_X7_lay_r1_r11 l X ad F R hI hA) ml_X10_148 yV_X7_lay e_X10_should_45 (by unfold g_rr; decide) (by decide) 35 rfl rfl rfl (Nat.le_of_ble_eq_true rfl) (fun w25 h26 => ?_)
        obtain ⟨F28, R29, rfl, oF28, oR29, cF28, cR29, hx27⟩ := h26
        have hk30 := k_ls2 hk23 hx27
        have fF28 : g_fr md_X10_should F F28 := g_fr_c (g_fr_rf F) cF28 rfl
        have fR29 : g_fr mr_X10_should R R29 := g_fr_c (g_fr_rf R) cR29 rfl
        refine g_aload_n cx 0 rfl e_X10_should_48 ?_
        refine g_get cx cl_X10 fl_X10_58 0 (.ref (ad 35)) e_X10_should_49 rfl rfl ?_
        refine g_iload_n cx 1 rfl e_X10_should_52 ?_
        refine g_iload_n cx 1 rfl e_X10_should_53 ?_
        refine g_cSiW cx [.int a0] [.int a0, .ref (ad 35)] (w_X10_hands l X ad F28 R29 oF28 oR29 a0) ml_X10_242 yS_X10_hands rfl e_X10_should_54 (by unfold g_rr; decide) (by decide) rfl (Nat.le_of_ble_eq_true rfl) (fun r31 w32 h33 => ?_)
        obtain ⟨rfl, pr31, hx34⟩ := h33
        have hk35 := k_ls hk30 hx34
        refine g_iload_n cx 2 rfl e_X10_should_57 ?_
        refine g_cViW cx [.int a0, .int r31, .int a1] [] (w_X7_sumHands l X ad F28 R29 oF28 oR29 a0 r31 a1) ml_X10_253 yV_X7_sumHands e_X10_should_58 (by unfold g_rr; decide) (by decide) 35 rfl rfl rfl (Nat.le_of_ble_eq_true rfl) (fun r36 w37 h38 => ?_)
        obtain ⟨F40, R41, rfl, oF40, oR41, cF40, cR41, pr36, hx39⟩ := h38
        have hk42 := k_ls3 hk35 hx39
        have fF40 : g_fr md_X10_should F F40 := g_fr_c fF28 cF40 rfl
        have fR41 : g_fr mr_X10_should R R41 := g_fr_c fR29 cR41 rfl
        exact hret e_X10_should_61 (Nat.le_of_ble_eq_true rfl) (Nat.le_of_ble_eq_true rfl) rfl ⟨F40, R41, rfl, oF40, oR41, fF40, fR41, pr36, (hk42.symm.trans hSP)⟩
      · have p43 := gn_eq 0 0 (gc_eq zc21) (g_ok_g hI 2 rfl) (jv_k (x := 0) 0 (by decide)) (by decide)
        have hk44 := hk20.trans (if_pos zc21)
        refine g_lsub [] [] rfl ?_
        exact J30  hk44
