theorem g_mz_F (x : Int32) : g_mz x < 8589934592 := by
  unfold g_mz
  split <;> omega
def sp_X1_draw (F : Nat → Int32) (R : Nat → Nat → Int32) (a0 : Int32) : Int32 × (Nat → Int32) × (Nat → Nat → Int32) :=
  if (F 672) = 0 then if a0 < (F 674) then k_lt ((F 675) - (F 675) / 10 * 10) (fun x8 => k_lt ((F 675) / 10) (fun x10 => k_lt (upd F 675 x10) (fun F12 => (x8, F12, R)))) else ((-1), F, R) else k_lt (25173 * (F 673)) (fun x16 => k_lt (x16 + 13849) (fun x18 => k_lt (x18 &&& 65535) (fun x20 => k_lt (upd F 673 x20) (fun F22 => k_lt (x20 - x20 / 10 * 10) (fun x24 => (x24, F22, R))))))
theorem e_X1_draw_0 : g_dc cX1_draw 0 (.aload_n 0) 1 1 := ⟨by decide +kernel, rfl⟩
theorem e_X1_draw_1 : g_dc cX1_draw 1 (.getfield 9) 3 4 := ⟨by decide +kernel, rfl⟩
theorem e_X1_draw_4 : g_dc cX1_draw 4 (.ifCond .eq 30) 3 7 := ⟨by decide +kernel, rfl⟩
theorem e_X1_draw_7 : g_dc cX1_draw 7 (.aload_n 0) 1 8 := ⟨by decide +kernel, rfl⟩
theorem e_X1_draw_8 : g_dc cX1_draw 8 (.sipush 25173) 3 11 := ⟨by decide +kernel, rfl⟩
theorem e_X1_draw_11 : g_dc cX1_draw 11 (.aload_n 0) 1 12 := ⟨by decide +kernel, rfl⟩
theorem e_X1_draw_12 : g_dc cX1_draw 12 (.getfield 15) 3 15 := ⟨by decide +kernel, rfl⟩
theorem e_X1_draw_15 : g_dc cX1_draw 15 (.imul) 1 16 := ⟨by decide +kernel, rfl⟩
theorem e_X1_draw_16 : g_dc cX1_draw 16 (.sipush 13849) 3 19 := ⟨by decide +kernel, rfl⟩
theorem e_X1_draw_19 : g_dc cX1_draw 19 (.iadd) 1 20 := ⟨by decide +kernel, rfl⟩
theorem e_X1_draw_20 : g_dc cX1_draw 20 (.ldc 25) 2 22 := ⟨by decide +kernel, rfl⟩
theorem e_X1_draw_22 : g_dc cX1_draw 22 (.iand) 1 23 := ⟨by decide +kernel, rfl⟩
theorem e_X1_draw_23 : g_dc cX1_draw 23 (.putfield 15) 3 26 := ⟨by decide +kernel, rfl⟩
theorem e_X1_draw_26 : g_dc cX1_draw 26 (.aload_n 0) 1 27 := ⟨by decide +kernel, rfl⟩
theorem e_X1_draw_27 : g_dc cX1_draw 27 (.getfield 15) 3 30 := ⟨by decide +kernel, rfl⟩
theorem e_X1_draw_30 : g_dc cX1_draw 30 (.bipush 10) 2 32 := ⟨by decide +kernel, rfl⟩
theorem e_X1_draw_32 : g_dc cX1_draw 32 (.irem) 1 33 := ⟨by decide +kernel, rfl⟩
theorem e_X1_draw_33 : g_dc cX1_draw 33 (.ireturn) 1 34 := ⟨by decide +kernel, rfl⟩
theorem e_X1_draw_34 : g_dc cX1_draw 34 (.iload_n 1) 1 35 := ⟨by decide +kernel, rfl⟩
theorem e_X1_draw_35 : g_dc cX1_draw 35 (.aload_n 0) 1 36 := ⟨by decide +kernel, rfl⟩
theorem e_X1_draw_36 : g_dc cX1_draw 36 (.getfield 19) 3 39 := ⟨by decide +kernel, rfl⟩
theorem e_X1_draw_39 : g_dc cX1_draw 39 (.if_icmp .lt 5) 3 42 := ⟨by decide +kernel, rfl⟩
theorem e_X1_draw_42 : g_dc cX1_draw 42 (.iconst (-1)) 1 43 := ⟨by decide +kernel, rfl⟩
theorem e_X1_draw_43 : g_dc cX1_draw 43 (.ireturn) 1 44 := ⟨by decide +kernel, rfl⟩
theorem e_X1_draw_44 : g_dc cX1_draw 44 (.aload_n 0) 1 45 := ⟨by decide +kernel, rfl⟩
theorem e_X1_draw_45 : g_dc cX1_draw 45 (.getfield 22) 3 48 := ⟨by decide +kernel, rfl⟩
theorem e_X1_draw_48 : g_dc cX1_draw 48 (.bipush 10) 2 50 := ⟨by decide +kernel, rfl⟩
theorem e_X1_draw_50 : g_dc cX1_draw 50 (.irem) 1 51 := ⟨by decide +kernel, rfl⟩
theorem e_X1_draw_51 : g_dc cX1_draw 51 (.istore_n 2) 1 52 := ⟨by decide +kernel, rfl⟩
theorem e_X1_draw_52 : g_dc cX1_draw 52 (.aload_n 0) 1 53 := ⟨by decide +kernel, rfl⟩
theorem e_X1_draw_53 : g_dc cX1_draw 53 (.dup) 1 54 := ⟨by decide +kernel, rfl⟩
theorem e_X1_draw_54 : g_dc cX1_draw 54 (.getfield 22) 3 57 := ⟨by decide +kernel, rfl⟩
theorem e_X1_draw_57 : g_dc cX1_draw 57 (.bipush 10) 2 59 := ⟨by decide +kernel, rfl⟩
theorem e_X1_draw_59 : g_dc cX1_draw 59 (.idiv) 1 60 := ⟨by decide +kernel, rfl⟩
theorem e_X1_draw_60 : g_dc cX1_draw 60 (.putfield 22) 3 63 := ⟨by decide +kernel, rfl⟩
theorem e_X1_draw_63 : g_dc cX1_draw 63 (.iload_n 2) 1 64 := ⟨by decide +kernel, rfl⟩
theorem e_X1_draw_64 : g_dc cX1_draw 64 (.ireturn) 1 65 := ⟨by decide +kernel, rfl⟩
def md_X1_draw : List Nat := [673, 675]
def mr_X1_draw : List Nat := []
set_option maxHeartbeats 4000000 in
set_option maxRecDepth 100000 in
theorem w_X1_draw (l : Launch) (X : gX) (ad : Nat → Nat) (F : Nat → Int32) (R : Nat → Nat → Int32) (hI : g_ok LK_wX F) (hA : g_okR LA_wX R) (a0 : Int32) : g_Ci l X yX1_draw cX1_draw 3 (some .int) 1 0 0 [.ref (ad 42), .int a0] (wX X ad F R) (fun r w => ∃ (F' : Nat → Int32) (R' : Nat → Nat → Int32), w = wX X ad F' R' ∧ g_ok LK_wX F' ∧ g_okR LA_wX R' ∧ g_fr md_X1_draw F F' ∧ g_fr mr_X1_draw R R' ∧ jv (-2147483648) 2147483647 r ∧ (r, F', R') = sp_X1_draw F R a0) := by
  refine g_mi (by decide +kernel) (Nat.le_of_ble_eq_true rfl) (fun E cx hret => ?_)
  obtain ⟨SP, hSP⟩ : ∃ z, z = sp_X1_draw F R a0 := ⟨_, rfl⟩
  have hk0 := hSP
  unfold sp_X1_draw at hk0
  refine g_aload_n cx 0 rfl e_X1_draw_0 ?_
  refine g_get cx cl_X1 fl_X1_9 42 (.int (F 672)) e_X1_draw_1 rfl rfl ?_
  refine g_if_eq cx 34 e_X1_draw_4 (by decide) (fun zc1 => ?_) (fun zc1 => ?_)
  · have p2 := gn_eq 0 0 (gc_eq zc1) (jv_t (F 672)) (jv_k (x := 0) 0 (by decide)) (by decide)
    have hk3 := hk0.trans (if_pos zc1)
    refine g_iload_n cx 1 rfl e_X1_draw_34 ?_
    refine g_aload_n cx 0 rfl e_X1_draw_35 ?_
    refine g_get cx cl_X1 fl_X1_19 42 (.int (F 674)) e_X1_draw_36 rfl rfl ?_
    refine g_icmp_lt cx 44 e_X1_draw_39 (by decide) (fun zc4 => ?_) (fun zc4 => ?_)
    · have p5 := gn_lt (-2147483648) 2147483646 (gc_lt zc4) (jv_t a0) (jv_t (F 674)) (by decide)
      have p6 := gn_gt (-2147483647) 2147483647 (gc_lt zc4) (jv_t (F 674)) (jv_t a0) (by decide)
      have hk7 := hk3.trans (if_pos zc4)
      refine g_aload_n cx 0 rfl e_X1_draw_44 ?_
      refine g_get cx cl_X1 fl_X1_22 42 (.int (F 675)) e_X1_draw_45 rfl rfl ?_
      refine g_bipush cx 10 (by decide) e_X1_draw_48 ?_
      refine g_irem cx (by decide) e_X1_draw_50 ?_
      refine g_topi (fun x8 ex8 => ?_)
      have hk9 := k_ls hk7 ex8
      refine g_istore_n cx [(2, .int x8), (0, .ref (ad 42)), (1, .int a0)] e_X1_draw_51 (by decide) rfl ?_
      refine g_aload_n cx 1 rfl e_X1_draw_52 ?_
      refine g_dup cx rfl e_X1_draw_53 ?_
      refine g_get cx cl_X1 fl_X1_22 42 (.int (F 675)) e_X1_draw_54 rfl rfl ?_
      refine g_bipush cx 10 (by decide) e_X1_draw_57 ?_
      refine g_idiv cx (by decide) e_X1_draw_59 ?_
      refine g_topi (fun x10 ex10 => ?_)
      have hk11 := k_ls hk9 ex10
      refine g_put cx cl_X1 fl_X1_22 42 (wX X ad (upd F 675 x10) R) e_X1_draw_60 rfl rfl rfl rfl (Nat.le_of_ble_eq_true rfl) rfl ?_
      obtain ⟨F12, hF12⟩ : ∃ z, z = upd F 675 x10 := ⟨_, rfl⟩
      rw [← hF12]
      have hk13 := k_ls hk11 hF12
      have oF12 : g_ok LK_wX F12 := by rw [hF12]; exact g_ok_u hI rfl
      have fF12 : g_fr md_X1_draw F F12 := by rw [hF12]; exact g_fr_u (g_fr_rf F) rfl
      refine g_iload_n cx 0 rfl e_X1_draw_63 ?_
      exact hret e_X1_draw_64 (Nat.le_of_ble_eq_true rfl) (Nat.le_of_ble_eq_true rfl) rfl ⟨F12, R, rfl, oF12, hA, fF12, (g_fr_rf R), (jv_t x8), (hk13.symm.trans hSP)⟩
    · have hk14 := hk3.trans (if_neg zc4)
      refine g_iconst cx (-1) (by decide) e_X1_draw_42 ?_
      exact hret e_X1_draw_43 (Nat.le_of_ble_eq_true rfl) (Nat.le_of_ble_eq_true rfl) rfl ⟨F, R, rfl, hI, hA, (g_fr_rf F), (g_fr_rf R), (jv_w (jv_k (x := (-1)) (-1) (by decide)) (by decide)), (hk14.symm.trans hSP)⟩
  · have hk15 := hk0.trans (if_neg zc1)
    refine g_aload_n cx 0 rfl e_X1_draw_7 ?_
    refine g_sipush cx 25173 (by decide) e_X1_draw_8 ?_
    refine g_aload_n cx 0 rfl e_X1_draw_11 ?_
    refine g_get cx cl_X1 fl_X1_15 42 (.int (F 673)) e_X1_draw_12 rfl rfl ?_
    refine g_imul cx e_X1_draw_15 ?_
    refine g_topi (fun x16 ex16 => ?_)
    have hk17 := k_ls hk15 ex16
    refine g_sipush cx 13849 (by decide) e_X1_draw_16 ?_
    refine g_iadd cx e_X1_draw_19 ?_
    refine g_topi (fun x18 ex18 => ?_)
    have hk19 := k_ls hk17 ex18
    refine g_ldc cx 65535 kc_X1_25 e_X1_draw_20 ?_
    refine g_iand cx e_X1_draw_22 ?_
    refine g_topi (fun x20 ex20 => ?_)
    have hk21 := k_ls hk19 ex20
    have px20 := jv_and 0 65535 ex20 (jv_k (x := 65535) 65535 (by decide)) (by decide)
    refine g_put cx cl_X1 fl_X1_15 42 (wX X ad (upd F 673 x20) R) e_X1_draw_23 rfl rfl rfl rfl (Nat.le_of_ble_eq_true rfl) rfl ?_
    obtain ⟨F22, hF22⟩ : ∃ z, z = upd F 673 x20 := ⟨_, rfl⟩
    rw [← hF22]
    have hk23 := k_ls hk21 hF22
    have oF22 : g_ok LK_wX F22 := by rw [hF22]; exact g_ok_u hI rfl
    have fF22 : g_fr md_X1_draw F F22 := by rw [hF22]; exact g_fr_u (g_fr_rf F) rfl
    refine g_aload_n cx 0 rfl e_X1_draw_26 ?_
    refine g_get cx cl_X1 fl_X1_15 42 (.int (F22 673)) e_X1_draw_27 rfl rfl ?_
    refine g_toi x20 (g_pu1 hF22) ?_
    refine g_bipush cx 10 (by decide) e_X1_draw_30 ?_
    refine g_irem cx (by decide) e_X1_draw_32 ?_
    refine g_topi (fun x24 ex24 => ?_)
    have hk25 := k_ls hk23 ex24
    have zx24 := jv_rem 0 9 ex24 px20 (jv_k (x := 10) 10 (by decide)) (by decide)
    exact hret e_X1_draw_33 (Nat.le_of_ble_eq_true rfl) (Nat.le_of_ble_eq_true rfl) rfl ⟨F22, R, rfl, oF22, hA, fF22, (g_fr_rf R), (jv_w zx24.2 (by decide)), (hk25.symm.trans hSP)⟩
def sp_X1_drawFrom (F : Nat → Int32) (R : Nat → Nat → Int32) (a0 : Int32) : (Nat → Int32) × (Nat → Nat → Int32) :=
  k_lt (upd F 672 1) (fun F1 => k_lt (upd F1 673 a0) (fun F3 => (F3, R)))
theorem e_X1_drawFrom_0 : g_dc cX1_drawFrom 0 (.aload_n 0) 1 1 := ⟨by decide +kernel, rfl⟩
theorem e_X1_drawFrom_1 : g_dc cX1_drawFrom 1 (.iconst 1) 1 2 := ⟨by decide +kernel, rfl⟩
theorem e_X1_drawFrom_2 : g_dc cX1_drawFrom 2 (.putfield 9) 3 5 := ⟨by decide +kernel, rfl⟩
theorem e_X1_drawFrom_5 : g_dc cX1_drawFrom 5 (.aload_n 0) 1 6 := ⟨by decide +kernel, rfl⟩
theorem e_X1_drawFrom_6 : g_dc cX1_drawFrom 6 (.iload_n 1) 1 7 := ⟨by decide +kernel, rfl⟩
theorem e_X1_drawFrom_7 : g_dc cX1_drawFrom 7 (.putfield 15) 3 10 := ⟨by decide +kernel, rfl⟩
theorem e_X1_drawFrom_10 : g_dc cX1_drawFrom 10 (.return_) 1 11 := ⟨by decide +kernel, rfl⟩
def md_X1_drawFrom : List Nat := [672, 673]
def mr_X1_drawFrom : List Nat := []
set_option maxHeartbeats 4000000 in
set_option maxRecDepth 100000 in
theorem w_X1_drawFrom (l : Launch) (X : gX) (ad : Nat → Nat) (F : Nat → Int32) (R : Nat → Nat → Int32) (hI : g_ok LK_wX F) (hA : g_okR LA_wX R) (a0 : Int32) : g_Cv l X yX1_drawFrom cX1_drawFrom 2 1 0 0 [.ref (ad 42), .int a0] (wX X ad F R) (fun w => ∃ (F' : Nat → Int32) (R' : Nat → Nat → Int32), w = wX X ad F' R' ∧ g_ok LK_wX F' ∧ g_okR LA_wX R' ∧ g_fr md_X1_drawFrom F F' ∧ g_fr mr_X1_drawFrom R R' ∧ (F', R') = sp_X1_drawFrom F R a0) := by
  refine g_mv (by decide +kernel) (Nat.le_of_ble_eq_true rfl) (fun E cx hret => ?_)
  obtain ⟨SP, hSP⟩ : ∃ z, z = sp_X1_drawFrom F R a0 := ⟨_, rfl⟩
  have hk0 := hSP
  unfold sp_X1_drawFrom at hk0
  refine g_aload_n cx 0 rfl e_X1_drawFrom_0 ?_
  refine g_iconst cx 1 (by decide) e_X1_drawFrom_1 ?_
  refine g_put cx cl_X1 fl_X1_9 42 (wX X ad (upd F 672 1) R) e_X1_drawFrom_2 rfl rfl rfl rfl (Nat.le_of_ble_eq_true rfl) rfl ?_
  obtain ⟨F1, hF1⟩ : ∃ z, z = upd F 672 1 := ⟨_, rfl⟩
  rw [← hF1]
  have hk2 := k_ls hk0 hF1
  have oF1 : g_ok LK_wX F1 := by rw [hF1]; exact g_ok_u hI rfl
  have fF1 : g_fr md_X1_drawFrom F F1 := by rw [hF1]; exact g_fr_u (g_fr_rf F) rfl
  refine g_aload_n cx 0 rfl e_X1_drawFrom_5 ?_
  refine g_iload_n cx 1 rfl e_X1_drawFrom_6 ?_
  refine g_put cx cl_X1 fl_X1_15 42 (wX X ad (upd F1 673 a0) R) e_X1_drawFrom_7 rfl rfl rfl rfl (Nat.le_of_ble_eq_true rfl) rfl ?_
  obtain ⟨F3, hF3⟩ : ∃ z, z = upd F1 673 a0 := ⟨_, rfl⟩
  rw [← hF3]
  have hk4 := k_ls hk2 hF3
  have oF3 : g_ok LK_wX F3 := by rw [hF3]; exact g_ok_u oF1 rfl
  have fF3 : g_fr md_X1_drawFrom F F3 := by rw [hF3]; exact g_fr_u fF1 rfl
  exact hret e_X1_drawFrom_10 (Nat.le_of_ble_eq_true rfl) (Nat.le_of_ble_eq_true rfl) ⟨F3, R, rfl, oF3, hA, fF3, (g_fr_rf R), (hk4.symm.trans hSP)⟩
def sp_X1_drawTold (F : Nat → Int32) (R : Nat → Nat → Int32) (a0 : Int32) (a1 : Int32) : (Nat → Int32) × (Nat → Nat → Int32) :=
  k_lt (upd F 672 0) (fun F1 => k_lt (upd F1 674 a0) (fun F3 => k_lt (upd F3 675 a1) (fun F5 => (F5, R))))
theorem e_X1_drawTold_0 : g_dc cX1_drawTold 0 (.aload_n 0) 1 1 := ⟨by decide +kernel, rfl⟩
theorem e_X1_drawTold_1 : g_dc cX1_drawTold 1 (.iconst 0) 1 2 := ⟨by decide +kernel, rfl⟩
theorem e_X1_drawTold_2 : g_dc cX1_drawTold 2 (.putfield 9) 3 5 := ⟨by decide +kernel, rfl⟩
theorem e_X1_drawTold_5 : g_dc cX1_drawTold 5 (.aload_n 0) 1 6 := ⟨by decide +kernel, rfl⟩
theorem e_X1_drawTold_6 : g_dc cX1_drawTold 6 (.iload_n 1) 1 7 := ⟨by decide +kernel, rfl⟩
theorem e_X1_drawTold_7 : g_dc cX1_drawTold 7 (.putfield 19) 3 10 := ⟨by decide +kernel, rfl⟩
theorem e_X1_drawTold_10 : g_dc cX1_drawTold 10 (.aload_n 0) 1 11 := ⟨by decide +kernel, rfl⟩
theorem e_X1_drawTold_11 : g_dc cX1_drawTold 11 (.iload_n 2) 1 12 := ⟨by decide +kernel, rfl⟩
theorem e_X1_drawTold_12 : g_dc cX1_drawTold 12 (.putfield 22) 3 15 := ⟨by decide +kernel, rfl⟩
theorem e_X1_drawTold_15 : g_dc cX1_drawTold 15 (.return_) 1 16 := ⟨by decide +kernel, rfl⟩
def md_X1_drawTold : List Nat := [672, 674, 675]
def mr_X1_drawTold : List Nat := []
set_option maxHeartbeats 4000000 in
set_option maxRecDepth 100000 in
theorem w_X1_drawTold (l : Launch) (X : gX) (ad : Nat → Nat) (F : Nat → Int32) (R : Nat → Nat → Int32) (hI : g_ok LK_wX F) (hA : g_okR LA_wX R) (a0 : Int32) (a1 : Int32) : g_Cv l X yX1_drawTold cX1_drawTold 3 1 0 0 [.ref (ad 42), .int a0, .int a1] (wX X ad F R) (fun w => ∃ (F' : Nat → Int32) (R' : Nat → Nat → Int32), w = wX X ad F' R' ∧ g_ok LK_wX F' ∧ g_okR LA_wX R' ∧ g_fr md_X1_drawTold F F' ∧ g_fr mr_X1_drawTold R R' ∧ (F', R') = sp_X1_drawTold F R a0 a1) := by
  refine g_mv (by decide +kernel) (Nat.le_of_ble_eq_true rfl) (fun E cx hret => ?_)
  obtain ⟨SP, hSP⟩ : ∃ z, z = sp_X1_drawTold F R a0 a1 := ⟨_, rfl⟩
  have hk0 := hSP
  unfold sp_X1_drawTold at hk0
  refine g_aload_n cx 0 rfl e_X1_drawTold_0 ?_
  refine g_iconst cx 0 (by decide) e_X1_drawTold_1 ?_
  refine g_put cx cl_X1 fl_X1_9 42 (wX X ad (upd F 672 0) R) e_X1_drawTold_2 rfl rfl rfl rfl (Nat.le_of_ble_eq_true rfl) rfl ?_
  obtain ⟨F1, hF1⟩ : ∃ z, z = upd F 672 0 := ⟨_, rfl⟩
  rw [← hF1]
  have hk2 := k_ls hk0 hF1
  have oF1 : g_ok LK_wX F1 := by rw [hF1]; exact g_ok_u hI rfl
  have fF1 : g_fr md_X1_drawTold F F1 := by rw [hF1]; exact g_fr_u (g_fr_rf F) rfl
  refine g_aload_n cx 0 rfl e_X1_drawTold_5 ?_
  refine g_iload_n cx 1 rfl e_X1_drawTold_6 ?_
  refine g_put cx cl_X1 fl_X1_19 42 (wX X ad (upd F1 674 a0) R) e_X1_drawTold_7 rfl rfl rfl rfl (Nat.le_of_ble_eq_true rfl) rfl ?_
  obtain ⟨F3, hF3⟩ : ∃ z, z = upd F1 674 a0 := ⟨_, rfl⟩
  rw [← hF3]
  have hk4 := k_ls hk2 hF3
  have oF3 : g_ok LK_wX F3 := by rw [hF3]; exact g_ok_u oF1 rfl
  have fF3 : g_fr md_X1_drawTold F F3 := by rw [hF3]; exact g_fr_u fF1 rfl
  refine g_aload_n cx 0 rfl e_X1_drawTold_10 ?_
  refine g_iload_n cx 2 rfl e_X1_drawTold_11 ?_
  refine g_put cx cl_X1 fl_X1_22 42 (wX X ad (upd F3 675 a1) R) e_X1_drawTold_12 rfl rfl rfl rfl (Nat.le_of_ble_eq_true rfl) rfl ?_
  obtain ⟨F5, hF5⟩ : ∃ z, z = upd F3 675 a1 := ⟨_, rfl⟩
  rw [← hF5]
  have hk6 := k_ls hk4 hF5
  have oF5 : g_ok LK_wX F5 := by rw [hF5]; exact g_ok_u oF3 rfl
  have fF5 : g_fr md_X1_drawTold F F5 := by rw [hF5]; exact g_fr_u fF3 rfl
  exact hret e_X1_drawTold_15 (Nat.le_of_ble_eq_true rfl) (Nat.le_of_ble_eq_true rfl) ⟨F5, R, rfl, oF5, hA, fF5, (g_fr_rf R), (hk6.symm.trans hSP)⟩
def sp_X1_holdStill (F : Nat → Int32) (R : Nat → Nat → Int32) : (Nat → Int32) × (Nat → Nat → Int32) :=
  k_lt (upd F 672 0) (fun F1 => k_lt (upd F1 674 0) (fun F3 => (F3, R)))
theorem e_X1_holdStill_0 : g_dc cX1_holdStill 0 (.aload_n 0) 1 1 := ⟨by decide +kernel, rfl⟩
theorem e_X1_holdStill_1 : g_dc cX1_holdStill 1 (.iconst 0) 1 2 := ⟨by decide +kernel, rfl⟩
theorem e_X1_holdStill_2 : g_dc cX1_holdStill 2 (.putfield 9) 3 5 := ⟨by decide +kernel, rfl⟩
theorem e_X1_holdStill_5 : g_dc cX1_holdStill 5 (.aload_n 0) 1 6 := ⟨by decide +kernel, rfl⟩
theorem e_X1_holdStill_6 : g_dc cX1_holdStill 6 (.iconst 0) 1 7 := ⟨by decide +kernel, rfl⟩
theorem e_X1_holdStill_7 : g_dc cX1_holdStill 7 (.putfield 19) 3 10 := ⟨by decide +kernel, rfl⟩
theorem e_X1_holdStill_10 : g_dc cX1_holdStill 10 (.return_) 1 11 := ⟨by decide +kernel, rfl⟩
def md_X1_holdStill : List Nat := [672, 674]
def mr_X1_holdStill : List Nat := []
set_option maxHeartbeats 4000000 in
set_option maxRecDepth 100000 in
theorem w_X1_holdStill (l : Launch) (X : gX) (ad : Nat → Nat) (F : Nat → Int32) (R : Nat → Nat → Int32) (hI : g_ok LK_wX F) (hA : g_okR LA_wX R) : g_Cv l X yX1_holdStill cX1_holdStill 1 1 0 0 [.ref (ad 42)] (wX X ad F R) (fun w => ∃ (F' : Nat → Int32) (R' : Nat → Nat → Int32), w = wX X ad F' R' ∧ g_ok LK_wX F' ∧ g_okR LA_wX R' ∧ g_fr md_X1_holdStill F F' ∧ g_fr mr_X1_holdStill R R' ∧ (F', R') = sp_X1_holdStill F R) := by
  refine g_mv (by decide +kernel) (Nat.le_of_ble_eq_true rfl) (fun E cx hret => ?_)
  obtain ⟨SP, hSP⟩ : ∃ z, z = sp_X1_holdStill F R := ⟨_, rfl⟩
  have hk0 := hSP
  unfold sp_X1_holdStill at hk0
  refine g_aload_n cx 0 rfl e_X1_holdStill_0 ?_
  refine g_iconst cx 0 (by decide) e_X1_holdStill_1 ?_
  refine g_put cx cl_X1 fl_X1_9 42 (wX X ad (upd F 672 0) R) e_X1_holdStill_2 rfl rfl rfl rfl (Nat.le_of_ble_eq_true rfl) rfl ?_
  obtain ⟨F1, hF1⟩ : ∃ z, z = upd F 672 0 := ⟨_, rfl⟩
  rw [← hF1]
  have hk2 := k_ls hk0 hF1
  have oF1 : g_ok LK_wX F1 := by rw [hF1]; exact g_ok_u hI rfl
  have fF1 : g_fr md_X1_holdStill F F1 := by rw [hF1]; exact g_fr_u (g_fr_rf F) rfl
  refine g_aload_n cx 0 rfl e_X1_holdStill_5 ?_
  refine g_iconst cx 0 (by decide) e_X1_holdStill_6 ?_
  refine g_put cx cl_X1 fl_X1_19 42 (wX X ad (upd F1 674 0) R) e_X1_holdStill_7 rfl rfl rfl rfl (Nat.le_of_ble_eq_true rfl) rfl ?_
  obtain ⟨F3, hF3⟩ : ∃ z, z = upd F1 674 0 := ⟨_, rfl⟩
  rw [← hF3]
  have hk4 := k_ls hk2 hF3
  have oF3 : g_ok LK_wX F3 := by rw [hF3]; exact g_ok_u oF1 rfl
  have fF3 : g_fr md_X1_holdStill F F3 := by rw [hF3]; exact g_fr_u fF1 rfl
  exact hret e_X1_holdStill_10 (Nat.le_of_ble_eq_true rfl) (Nat.le_of_ble_eq_true rfl) ⟨F3, R, rfl, oF3, hA, fF3, (g_fr_rf R), (hk4.symm.trans hSP)⟩
def K_X8_side_5_35  (y5 : Int32) : Int32 :=
  y5
def K_X8_side_5_34   : Int32 :=
  K_X8_side_5_35 0
def sp_X8_side_5 (F : Nat → Int32) (R : Nat → Nat → Int32) (a0 : Int32) (a1 : Int32) : Int32 :=
  k_lt (g_in a0 0 9) (fun r1 => if r1 = 0 then K_X8_side_5_34 else k_lt (g_in a1 0 7) (fun r12 => if r12 = 0 then K_X8_side_5_34 else k_lt (a0 * 8) (fun x22 => k_lt (x22 + a1) (fun x24 => k_lt (R 6 (Int32.toNatClampNeg x24)) (fun x26 => K_X8_side_5_35 x26)))))
set_option maxHeartbeats 4000000 in
set_option maxRecDepth 100000 in
theorem w_X8_side_5 (l : Launch) (X : gX) (ad : Nat → Nat) (F : Nat → Int32) (R : Nat → Nat → Int32) (hI : g_ok LK_wX F) (hA : g_okR LA_wX R) (a0 : Int32) (a1 : Int32) : g_Ci l X yX8_side cX8_side 3 (some .int) 2 0 0 [.ref (ad 5), .int a0, .int a1] (wX X ad F R) (fun r w => w = wX X ad F R ∧ jv (-2147483648) 2147483647 r ∧ r = sp_X8_side_5 F R a0 a1) := by
  refine g_mi (by decide +kernel) (Nat.le_of_ble_eq_true rfl) (fun E cx hret => ?_)
  obtain ⟨SP, hSP⟩ : ∃ z, z = sp_X8_side_5 F R a0 a1 := ⟨_, rfl⟩
  have hk0 := hSP
  unfold sp_X8_side_5 at hk0
  refine g_iload_n cx 1 rfl e_X8_side_0 ?_
  refine g_iconst cx 0 (by decide) e_X8_side_1 ?_
  refine g_bipush cx 9 (by decide) e_X8_side_2 ?_
  refine g_cNiW cx [.int a0, .int 0, .int 9] [] (c_X10_within l X (wX X ad F R) a0 0 9) mn_X8_31 yS_X10_within e_X8_side_4 (by unfold g_rr; decide) (by decide) rfl (Nat.le_of_ble_eq_true rfl) (fun r1 w2 h3 => ?_)
  obtain ⟨rfl, hr1⟩ := h3
  have pr1 : jv 0 1 r1 := by rw [hr1]; exact gi_01 _ _ _
  have hk4 := k_ls hk0 hr1
  have J35 : ∀ (y5 : Int32), (jv (-2147483648) 2147483647 y5) → (SP = K_X8_side_5_35 y5) → G X E 3 0 0 (wX X ad F R) [] 35 [.int y5] := by
    intro y5 py5 hkJ35
    unfold K_X8_side_5_35 at hkJ35
    exact hret e_X8_side_35 (Nat.le_of_ble_eq_true rfl) (Nat.le_of_ble_eq_true rfl) rfl ⟨rfl, py5, (hkJ35.symm.trans hSP)⟩
  have J34 : (SP = K_X8_side_5_34) → G X E 3 0 0 (wX X ad F R) [] 34 [] := by
    intro   hkJ34
    unfold K_X8_side_5_34 at hkJ34
    refine g_iconst cx 0 (by decide) e_X8_side_34 ?_
    exact J35 0 (jv_w (jv_k (x := 0) 0 (by decide)) (by decide)) hkJ34
  refine g_if_eq cx 34 e_X8_side_7 (by decide) (fun zc6 => ?_) (fun zc6 => ?_)
  · have p7 := gn_eq 0 0 (gc_eq zc6) pr1 (jv_k (x := 0) 0 (by decide)) (by decide)
    have hk8 := hk4.trans (if_pos zc6)
    refine g_lsub [] [] rfl ?_
    exact J34  hk8
  · have p9 := gn_neL 1 1 (gc_ne zc6) pr1 (jv_k (x := 0) 0 (by decide)) (by decide)
    have p10 := jv_i 0 9 (jv_t a0) (gi_in (A := 0) (B := 9) hr1 zc6 (by decide) (by decide)) (by decide)
    have hk11 := hk4.trans (if_neg zc6)
    refine g_iload_n cx 2 rfl e_X8_side_10 ?_
    refine g_iconst cx 0 (by decide) e_X8_side_11 ?_
    refine g_bipush cx 7 (by decide) e_X8_side_12 ?_
    refine g_cNiW cx [.int a1, .int 0, .int 7] [] (c_X10_within l X (wX X ad F R) a1 0 7) mn_X8_31 yS_X10_within e_X8_side_14 (by unfold g_rr; decide) (by decide) rfl (Nat.le_of_ble_eq_true rfl) (fun r12 w13 h14 => ?_)
    obtain ⟨rfl, hr12⟩ := h14
    have pr12 : jv 0 1 r12 := by rw [hr12]; exact gi_01 _ _ _
    have hk15 := k_ls hk11 hr12
    refine g_if_eq cx 34 e_X8_side_17 (by decide) (fun zc16 => ?_) (fun zc16 => ?_)
    · have p17 := gn_eq 0 0 (gc_eq zc16) pr12 (jv_k (x := 0) 0 (by decide)) (by decide)
      have hk18 := hk15.trans (if_pos zc16)
      refine g_lsub [] [] rfl ?_
      exact J34  hk18
    · have p19 := gn_neL 1 1 (gc_ne zc16) pr12 (jv_k (x := 0) 0 (by decide)) (by decide)
      have p20 := jv_i 0 7 (jv_t a1) (gi_in (A := 0) (B := 7) hr12 zc16 (by decide) (by decide)) (by decide)
      have hk21 := hk15.trans (if_neg zc16)
      refine g_aload_n cx 0 rfl e_X8_side_20 ?_
      refine g_get cx cl_X8 fl_X8_27 5 (.ref (ad 6)) e_X8_side_21 rfl rfl ?_
      refine g_iload_n cx 1 rfl e_X8_side_24 ?_
      refine g_bipush cx 8 (by decide) e_X8_side_25 ?_
      refine g_imul cx e_X8_side_27 ?_
      refine g_topi (fun x22 ex22 => ?_)
      have hk23 := k_ls hk21 ex22
      have zx22 := jv_mul 0 72 ex22 p10 (jv_k (x := 8) 8 (by decide)) (by decide)
      refine g_iload_n cx 2 rfl e_X8_side_28 ?_
      refine g_iadd cx e_X8_side_29 ?_
      refine g_topi (fun x24 ex24 => ?_)
      have hk25 := k_ls hk23 ex24
      have zx24 := jv_add 0 79 ex24 zx22.2 p20 (by decide)
      refine g_iald cx 6 e_X8_side_30 rfl (jv_ix 80 zx24.2 (by decide)) ?_
      refine g_topi (fun x26 ex26 => ?_)
      have hk27 := k_ls hk25 ex26
      refine g_goto cx 35 e_X8_side_31 (by decide) ?_
      refine g_lsub [] [] rfl ?_
      exact J35 x26 (jv_t x26) hk27
def KB_X4_begin_r5_46 (b46 : (Nat → Nat → Int32) → (Int32) → (Nat → Int32) × (Nat → Nat → Int32)) (F : Nat → Int32) (R7 : Nat → Nat → Int32) (y6 : Int32) : (Nat → Int32) × (Nat → Nat → Int32) :=
  if 30 ≤ y6 then k_lt (upd F 691 (F 83)) (fun F11 => k_lt (upd F11 692 0) (fun F13 => k_lt (upd F13 693 0) (fun F15 => k_lt (upd F15 694 0) (fun F17 => k_lt (upd F17 695 0) (fun F19 => k_lt (upd F19 696 0) (fun F21 => k_lt (upd F21 697 0) (fun F23 => k_lt (upd F23 698 (F 81)) (fun F25 => (F25, R7))))))))) else k_lt (g_u R7 46 (upd (R7 46) (Int32.toNatClampNeg y6) 0)) (fun R29 => k_lt (y6 + 1) (fun x31 => b46 R29 x31))
def K_X4_begin_r5_46 (F : Nat → Int32) : Nat → (Nat → Nat → Int32) → (Int32) → (Nat → Int32) × (Nat → Nat → Int32)
  | 0 => fun R7 _ => (F, R7)
  | n + 1 => KB_X4_begin_r5_46 (K_X4_begin_r5_46 F n) F
def KB_X4_begin_r5_7 (b7 : (Nat → Nat → Int32) → (Int32) → (Nat → Int32) × (Nat → Nat → Int32)) (F : Nat → Int32) (R2 : Nat → Nat → Int32) (y1 : Int32) : (Nat → Int32) × (Nat → Nat → Int32) :=
  if 10 ≤ y1 then K_X4_begin_r5_46 F 8589934592 R2 0 else k_lt (sp_X8_side_5 F R2 y1 1) (fun r35 => k_lt (g_u R2 44 (upd (R2 44) (Int32.toNatClampNeg y1) r35)) (fun R40 => k_lt (sp_X8_side_5 F R40 y1 6) (fun r42 => k_lt (g_u R40 45 (upd (R40 45) (Int32.toNatClampNeg y1) r42)) (fun R47 => k_lt (y1 + 1) (fun x49 => b7 R47 x49)))))
def K_X4_begin_r5_7 (F : Nat → Int32) : Nat → (Nat → Nat → Int32) → (Int32) → (Nat → Int32) × (Nat → Nat → Int32)
  | 0 => fun R2 _ => (F, R2)
  | n + 1 => KB_X4_begin_r5_7 (K_X4_begin_r5_7 F n) F
def sp_X4_begin_r5 (F : Nat → Int32) (R : Nat → Nat → Int32) : (Nat → Int32) × (Nat → Nat → Int32) :=
  K_X4_begin_r5_7 F 8589934592 R 0
theorem e_X4_begin_0 : g_dc cX4_begin 0 (.aload_n 1) 1 1 := ⟨by decide +kernel, rfl⟩
theorem e_X4_begin_1 : g_dc cX4_begin 1 (.ifnonnull 4) 3 4 := ⟨by decide +kernel, rfl⟩
theorem e_X4_begin_5 : g_dc cX4_begin 5 (.iconst 0) 1 6 := ⟨by decide +kernel, rfl⟩
theorem e_X4_begin_6 : g_dc cX4_begin 6 (.istore_n 2) 1 7 := ⟨by decide +kernel, rfl⟩
theorem e_X4_begin_7 : g_dc cX4_begin 7 (.iload_n 2) 1 8 := ⟨by decide +kernel, rfl⟩
theorem e_X4_begin_8 : g_dc cX4_begin 8 (.bipush 10) 2 10 := ⟨by decide +kernel, rfl⟩
theorem e_X4_begin_10 : g_dc cX4_begin 10 (.if_icmp .ge 34) 3 13 := ⟨by decide +kernel, rfl⟩
theorem e_X4_begin_13 : g_dc cX4_begin 13 (.aload_n 0) 1 14 := ⟨by decide +kernel, rfl⟩
theorem e_X4_begin_14 : g_dc cX4_begin 14 (.getfield 9) 3 17 := ⟨by decide +kernel, rfl⟩
theorem e_X4_begin_17 : g_dc cX4_begin 17 (.iload_n 2) 1 18 := ⟨by decide +kernel, rfl⟩
theorem e_X4_begin_18 : g_dc cX4_begin 18 (.aload_n 1) 1 19 := ⟨by decide +kernel, rfl⟩
theorem e_X4_begin_19 : g_dc cX4_begin 19 (.iload_n 2) 1 20 := ⟨by decide +kernel, rfl⟩
theorem e_X4_begin_20 : g_dc cX4_begin 20 (.iconst 1) 1 21 := ⟨by decide +kernel, rfl⟩
theorem e_X4_begin_21 : g_dc cX4_begin 21 (.invokevirtual 46) 3 24 := ⟨by decide +kernel, rfl⟩
theorem e_X4_begin_24 : g_dc cX4_begin 24 (.iastore) 1 25 := ⟨by decide +kernel, rfl⟩
theorem e_X4_begin_25 : g_dc cX4_begin 25 (.aload_n 0) 1 26 := ⟨by decide +kernel, rfl⟩
theorem e_X4_begin_26 : g_dc cX4_begin 26 (.getfield 15) 3 29 := ⟨by decide +kernel, rfl⟩
theorem e_X4_begin_29 : g_dc cX4_begin 29 (.iload_n 2) 1 30 := ⟨by decide +kernel, rfl⟩
theorem e_X4_begin_30 : g_dc cX4_begin 30 (.aload_n 1) 1 31 := ⟨by decide +kernel, rfl⟩
theorem e_X4_begin_31 : g_dc cX4_begin 31 (.iload_n 2) 1 32 := ⟨by decide +kernel, rfl⟩
theorem e_X4_begin_32 : g_dc cX4_begin 32 (.bipush 6) 2 34 := ⟨by decide +kernel, rfl⟩
theorem e_X4_begin_34 : g_dc cX4_begin 34 (.invokevirtual 46) 3 37 := ⟨by decide +kernel, rfl⟩
theorem e_X4_begin_37 : g_dc cX4_begin 37 (.iastore) 1 38 := ⟨by decide +kernel, rfl⟩
theorem e_X4_begin_38 : g_dc cX4_begin 38 (.iinc 2 1) 3 41 := ⟨by decide +kernel, rfl⟩
theorem e_X4_begin_41 : g_dc cX4_begin 41 (.goto (-34)) 3 44 := ⟨by decide +kernel, rfl⟩
theorem e_X4_begin_44 : g_dc cX4_begin 44 (.iconst 0) 1 45 := ⟨by decide +kernel, rfl⟩
theorem e_X4_begin_45 : g_dc cX4_begin 45 (.istore_n 2) 1 46 := ⟨by decide +kernel, rfl⟩
theorem e_X4_begin_46 : g_dc cX4_begin 46 (.iload_n 2) 1 47 := ⟨by decide +kernel, rfl⟩
theorem e_X4_begin_47 : g_dc cX4_begin 47 (.aload_n 0) 1 48 := ⟨by decide +kernel, rfl⟩
theorem e_X4_begin_48 : g_dc cX4_begin 48 (.getfield 18) 3 51 := ⟨by decide +kernel, rfl⟩
theorem e_X4_begin_51 : g_dc cX4_begin 51 (.arraylength) 1 52 := ⟨by decide +kernel, rfl⟩
theorem e_X4_begin_52 : g_dc cX4_begin 52 (.if_icmp .ge 16) 3 55 := ⟨by decide +kernel, rfl⟩
theorem e_X4_begin_55 : g_dc cX4_begin 55 (.aload_n 0) 1 56 := ⟨by decide +kernel, rfl⟩
theorem e_X4_begin_56 : g_dc cX4_begin 56 (.getfield 18) 3 59 := ⟨by decide +kernel, rfl⟩
theorem e_X4_begin_59 : g_dc cX4_begin 59 (.iload_n 2) 1 60 := ⟨by decide +kernel, rfl⟩
theorem e_X4_begin_60 : g_dc cX4_begin 60 (.iconst 0) 1 61 := ⟨by decide +kernel, rfl⟩
theorem e_X4_begin_61 : g_dc cX4_begin 61 (.iastore) 1 62 := ⟨by decide +kernel, rfl⟩
theorem e_X4_begin_62 : g_dc cX4_begin 62 (.iinc 2 1) 3 65 := ⟨by decide +kernel, rfl⟩
theorem e_X4_begin_65 : g_dc cX4_begin 65 (.goto (-19)) 3 68 := ⟨by decide +kernel, rfl⟩
theorem e_X4_begin_68 : g_dc cX4_begin 68 (.aload_n 0) 1 69 := ⟨by decide +kernel, rfl⟩
theorem e_X4_begin_69 : g_dc cX4_begin 69 (.aload_n 1) 1 70 := ⟨by decide +kernel, rfl⟩
theorem e_X4_begin_70 : g_dc cX4_begin 70 (.getfield 52) 3 73 := ⟨by decide +kernel, rfl⟩
theorem e_X4_begin_73 : g_dc cX4_begin 73 (.putfield 21) 3 76 := ⟨by decide +kernel, rfl⟩
theorem e_X4_begin_76 : g_dc cX4_begin 76 (.aload_n 0) 1 77 := ⟨by decide +kernel, rfl⟩
theorem e_X4_begin_77 : g_dc cX4_begin 77 (.iconst 0) 1 78 := ⟨by decide +kernel, rfl⟩
theorem e_X4_begin_78 : g_dc cX4_begin 78 (.putfield 25) 3 81 := ⟨by decide +kernel, rfl⟩
theorem e_X4_begin_81 : g_dc cX4_begin 81 (.aload_n 0) 1 82 := ⟨by decide +kernel, rfl⟩
theorem e_X4_begin_82 : g_dc cX4_begin 82 (.iconst 0) 1 83 := ⟨by decide +kernel, rfl⟩
theorem e_X4_begin_83 : g_dc cX4_begin 83 (.putfield 28) 3 86 := ⟨by decide +kernel, rfl⟩
theorem e_X4_begin_86 : g_dc cX4_begin 86 (.aload_n 0) 1 87 := ⟨by decide +kernel, rfl⟩
theorem e_X4_begin_87 : g_dc cX4_begin 87 (.iconst 0) 1 88 := ⟨by decide +kernel, rfl⟩
theorem e_X4_begin_88 : g_dc cX4_begin 88 (.putfield 31) 3 91 := ⟨by decide +kernel, rfl⟩
theorem e_X4_begin_91 : g_dc cX4_begin 91 (.aload_n 0) 1 92 := ⟨by decide +kernel, rfl⟩
theorem e_X4_begin_92 : g_dc cX4_begin 92 (.iconst 0) 1 93 := ⟨by decide +kernel, rfl⟩
theorem e_X4_begin_93 : g_dc cX4_begin 93 (.putfield 34) 3 96 := ⟨by decide +kernel, rfl⟩
theorem e_X4_begin_96 : g_dc cX4_begin 96 (.aload_n 0) 1 97 := ⟨by decide +kernel, rfl⟩
theorem e_X4_begin_97 : g_dc cX4_begin 97 (.iconst 0) 1 98 := ⟨by decide +kernel, rfl⟩
theorem e_X4_begin_98 : g_dc cX4_begin 98 (.putfield 37) 3 101 := ⟨by decide +kernel, rfl⟩
theorem e_X4_begin_101 : g_dc cX4_begin 101 (.aload_n 0) 1 102 := ⟨by decide +kernel, rfl⟩
theorem e_X4_begin_102 : g_dc cX4_begin 102 (.iconst 0) 1 103 := ⟨by decide +kernel, rfl⟩
theorem e_X4_begin_103 : g_dc cX4_begin 103 (.putfield 40) 3 106 := ⟨by decide +kernel, rfl⟩
theorem e_X4_begin_106 : g_dc cX4_begin 106 (.aload_n 0) 1 107 := ⟨by decide +kernel, rfl⟩
theorem e_X4_begin_107 : g_dc cX4_begin 107 (.aload_n 1) 1 108 := ⟨by decide +kernel, rfl⟩
theorem e_X4_begin_108 : g_dc cX4_begin 108 (.getfield 53) 3 111 := ⟨by decide +kernel, rfl⟩
theorem e_X4_begin_111 : g_dc cX4_begin 111 (.putfield 43) 3 114 := ⟨by decide +kernel, rfl⟩
theorem e_X4_begin_114 : g_dc cX4_begin 114 (.return_) 1 115 := ⟨by decide +kernel, rfl⟩
def md_X4_begin_r5 : List Nat := [691, 692, 693, 694, 695, 696, 697, 698]
def mr_X4_begin_r5 : List Nat := [44, 45, 46]
set_option maxHeartbeats 4000000 in
set_option maxRecDepth 100000 in
theorem w_X4_begin_r5 (l : Launch) (X : gX) (ad : Nat → Nat) (F : Nat → Int32) (R : Nat → Nat → Int32) (hI : g_ok LK_wX F) (hA : g_okR LA_wX R) : g_Cv l X yX4_begin cX4_begin 3 3 0 0 [.ref (ad 43), .ref (ad 5)] (wX X ad F R) (fun w => ∃ (F' : Nat → Int32) (R' : Nat → Nat → Int32), w = wX X ad F' R' ∧ g_ok LK_wX F' ∧ g_okR LA_wX R' ∧ g_fr md_X4_begin_r5 F F' ∧ g_fr mr_X4_begin_r5 R R' ∧ (F', R') = sp_X4_begin_r5 F R) := by
  refine g_mv (by decide +kernel) (Nat.le_of_ble_eq_true rfl) (fun E cx hret => ?_)
  obtain ⟨SP, hSP⟩ : ∃ z, z = sp_X4_begin_r5 F R := ⟨_, rfl⟩
  have hk0 := hSP
  unfold sp_X4_begin_r5 at hk0
  refine g_aload_n cx 1 rfl e_X4_begin_0 ?_
  refine g_ifnonnull cx 5 e_X4_begin_1 (by decide) ?_
  refine g_iconst cx 0 (by decide) e_X4_begin_5 ?_
  refine g_istore_n cx [(2, .int 0), (0, .ref (ad 43)), (1, .ref (ad 5))] e_X4_begin_6 (by decide) rfl ?_
  have J7 : ∀ (N : Nat) (R2 : Nat → Nat → Int32) (y1 : Int32), (g_okR LA_wX R2) → (g_fr mr_X4_begin_r5 R R2) → (jv 0 10 y1) → (SP = K_X4_begin_r5_7 F N R2 y1) → (2147483647 - y1.toInt).toNat < N → G X E 3 0 0 (wX X ad F R2) [(0, .ref (ad 43)), (1, .ref (ad 5)), (2, .int y1)] 7 [] := by
    intro N
    induction N with
    | zero => intro R2 y1 oR2 fR2 py1 hkJ7 hm; exact absurd hm (Nat.not_lt_zero _)
    | succ N ih7 =>
      intro R2 y1 oR2 fR2 py1 hkJ7 hm7
      have hkK7 : SP = KB_X4_begin_r5_7 (K_X4_begin_r5_7 F N) F R2 y1 := hkJ7
      obtain ⟨b7, hb7⟩ : ∃ z, z = K_X4_begin_r5_7 F N := ⟨_, rfl⟩
      rw [← hb7] at hkK7
      unfold KB_X4_begin_r5_7 at hkK7
      refine g_iload_n cx 2 rfl e_X4_begin_7 ?_
      refine g_bipush cx 10 (by decide) e_X4_begin_8 ?_
      refine g_icmp_ge cx 44 e_X4_begin_10 (by decide) (fun zc3 => ?_) (fun zc3 => ?_)
      · have p4 := gn_ge 10 10 (gc_le zc3) py1 (jv_k (x := 10) 10 (by decide)) (by decide)
        have hk5 := hkK7.trans (if_pos zc3)
        refine g_iconst cx 0 (by decide) e_X4_begin_44 ?_
        refine g_istore_n cx [(2, .int 0), (0, .ref (ad 43)), (1, .ref (ad 5))] e_X4_begin_45 (by decide) rfl ?_
        have J46 : ∀ (N : Nat) (R7 : Nat → Nat → Int32) (y6 : Int32), (g_okR LA_wX R7) → (g_fr mr_X4_begin_r5 R R7) → (jv 0 60 y6) → (SP = K_X4_begin_r5_46 F N R7 y6) → (2147483647 - y6.toInt).toNat < N → G X E 3 0 0 (wX X ad F R7) [(0, .ref (ad 43)), (1, .ref (ad 5)), (2, .int y6)] 46 [] := by
          intro N
          induction N with
          | zero => intro R7 y6 oR7 fR7 py6 hkJ46 hm; exact absurd hm (Nat.not_lt_zero _)
          | succ N ih46 =>
            intro R7 y6 oR7 fR7 py6 hkJ46 hm46
            have hkK46 : SP = KB_X4_begin_r5_46 (K_X4_begin_r5_46 F N) F R7 y6 := hkJ46
            obtain ⟨b46, hb46⟩ : ∃ z, z = K_X4_begin_r5_46 F N := ⟨_, rfl⟩
            rw [← hb46] at hkK46
            unfold KB_X4_begin_r5_46 at hkK46
            refine g_iload_n cx 2 rfl e_X4_begin_46 ?_
            refine g_aload_n cx 0 rfl e_X4_begin_47 ?_
            refine g_get cx cl_X4 fl_X4_18 43 (.ref (ad 46)) e_X4_begin_48 rfl rfl ?_
            refine g_alen cx 46 30 e_X4_begin_51 rfl (by decide) ?_
            refine g_icmp_ge cx 68 e_X4_begin_52 (by decide) (fun zc8 => ?_) (fun zc8 => ?_)
            · have p9 := gn_ge 30 60 (gc_le zc8) py6 (jv_k (x := 30) 30 (by decide)) (by decide)
              have hk10 := hkK46.trans (if_pos zc8)
              refine g_aload_n cx 0 rfl e_X4_begin_68 ?_
              refine g_aload_n cx 1 rfl e_X4_begin_69 ?_
              refine g_getN cx cl_X8 fn_X4_52 5 (.int (F 83)) e_X4_begin_70 rfl rfl ?_
              refine g_put cx cl_X4 fl_X4_21 43 (wX X ad (upd F 691 (F 83)) R7) e_X4_begin_73 rfl rfl rfl rfl (Nat.le_of_ble_eq_true rfl) rfl ?_
              obtain ⟨F11, hF11⟩ : ∃ z, z = upd F 691 (F 83) := ⟨_, rfl⟩
              rw [← hF11]
              have hk12 := k_ls hk10 hF11
              have oF11 : g_ok LK_wX F11 := by rw [hF11]; exact g_ok_u hI rfl
              have fF11 : g_fr md_X4_begin_r5 F F11 := by rw [hF11]; exact g_fr_u (g_fr_rf F) rfl
              refine g_aload_n cx 0 rfl e_X4_begin_76 ?_
              refine g_iconst cx 0 (by decide) e_X4_begin_77 ?_
              refine g_put cx cl_X4 fl_X4_25 43 (wX X ad (upd F11 692 0) R7) e_X4_begin_78 rfl rfl rfl rfl (Nat.le_of_ble_eq_true rfl) rfl ?_
              obtain ⟨F13, hF13⟩ : ∃ z, z = upd F11 692 0 := ⟨_, rfl⟩
              rw [← hF13]
              have hk14 := k_ls hk12 hF13
              have oF13 : g_ok LK_wX F13 := by rw [hF13]; exact g_ok_u oF11 rfl
              have fF13 : g_fr md_X4_begin_r5 F F13 := by rw [hF13]; exact g_fr_u fF11 rfl
              refine g_aload_n cx 0 rfl e_X4_begin_81 ?_
              refine g_iconst cx 0 (by decide) e_X4_begin_82 ?_
              refine g_put cx cl_X4 fl_X4_28 43 (wX X ad (upd F13 693 0) R7) e_X4_begin_83 rfl rfl rfl rfl (Nat.le_of_ble_eq_true rfl) rfl ?_
              obtain ⟨F15, hF15⟩ : ∃ z, z = upd F13 693 0 := ⟨_, rfl⟩
              rw [← hF15]
              have hk16 := k_ls hk14 hF15
              have oF15 : g_ok LK_wX F15 := by rw [hF15]; exact g_ok_u oF13 rfl
              have fF15 : g_fr md_X4_begin_r5 F F15 := by rw [hF15]; exact g_fr_u fF13 rfl
              refine g_aload_n cx 0 rfl e_X4_begin_86 ?_
              refine g_iconst cx 0 (by decide) e_X4_begin_87 ?_
              refine g_put cx cl_X4 fl_X4_31 43 (wX X ad (upd F15 694 0) R7) e_X4_begin_88 rfl rfl rfl rfl (Nat.le_of_ble_eq_true rfl) rfl ?_
              obtain ⟨F17, hF17⟩ : ∃ z, z = upd F15 694 0 := ⟨_, rfl⟩
              rw [← hF17]
              have hk18 := k_ls hk16 hF17
              have oF17 : g_ok LK_wX F17 := by rw [hF17]; exact g_ok_u oF15 rfl
              have fF17 : g_fr md_X4_begin_r5 F F17 := by rw [hF17]; exact g_fr_u fF15 rfl
              refine g_aload_n cx 0 rfl e_X4_begin_91 ?_
              refine g_iconst cx 0 (by decide) e_X4_begin_92 ?_
              refine g_put cx cl_X4 fl_X4_34 43 (wX X ad (upd F17 695 0) R7) e_X4_begin_93 rfl rfl rfl rfl (Nat.le_of_ble_eq_true rfl) rfl ?_
              obtain ⟨F19, hF19⟩ : ∃ z, z = upd F17 695 0 := ⟨_, rfl⟩
              rw [← hF19]
              have hk20 := k_ls hk18 hF19
              have oF19 : g_ok LK_wX F19 := by rw [hF19]; exact g_ok_u oF17 rfl
              have fF19 : g_fr md_X4_begin_r5 F F19 := by rw [hF19]; exact g_fr_u fF17 rfl
              refine g_aload_n cx 0 rfl e_X4_begin_96 ?_
              refine g_iconst cx 0 (by decide) e_X4_begin_97 ?_
              refine g_put cx cl_X4 fl_X4_37 43 (wX X ad (upd F19 696 0) R7) e_X4_begin_98 rfl rfl rfl rfl (Nat.le_of_ble_eq_true rfl) rfl ?_
              obtain ⟨F21, hF21⟩ : ∃ z, z = upd F19 696 0 := ⟨_, rfl⟩
              rw [← hF21]
              have hk22 := k_ls hk20 hF21
              have oF21 : g_ok LK_wX F21 := by rw [hF21]; exact g_ok_u oF19 rfl
              have fF21 : g_fr md_X4_begin_r5 F F21 := by rw [hF21]; exact g_fr_u fF19 rfl
              refine g_aload_n cx 0 rfl e_X4_begin_101 ?_
              refine g_iconst cx 0 (by decide) e_X4_begin_102 ?_
              refine g_put cx cl_X4 fl_X4_40 43 (wX X ad (upd F21 697 0) R7) e_X4_begin_103 rfl rfl rfl rfl (Nat.le_of_ble_eq_true rfl) rfl ?_
              obtain ⟨F23, hF23⟩ : ∃ z, z = upd F21 697 0 := ⟨_, rfl⟩
              rw [← hF23]
              have hk24 := k_ls hk22 hF23
              have oF23 : g_ok LK_wX F23 := by rw [hF23]; exact g_ok_u oF21 rfl
              have fF23 : g_fr md_X4_begin_r5 F F23 := by rw [hF23]; exact g_fr_u fF21 rfl
              refine g_aload_n cx 0 rfl e_X4_begin_106 ?_
              refine g_aload_n cx 1 rfl e_X4_begin_107 ?_
              refine g_getN cx cl_X8 fn_X4_53 5 (.int (F23 81)) e_X4_begin_108 rfl rfl ?_
              refine g_toi (F 81) (((((((g_pu2 hF23 rfl).trans (g_pu2 hF21 rfl)).trans (g_pu2 hF19 rfl)).trans (g_pu2 hF17 rfl)).trans (g_pu2 hF15 rfl)).trans (g_pu2 hF13 rfl)).trans (g_pu2 hF11 rfl)) ?_
              refine g_put cx cl_X4 fl_X4_43 43 (wX X ad (upd F23 698 (F 81)) R7) e_X4_begin_111 rfl rfl rfl rfl (Nat.le_of_ble_eq_true rfl) rfl ?_
              obtain ⟨F25, hF25⟩ : ∃ z, z = upd F23 698 (F 81) := ⟨_, rfl⟩
              rw [← hF25]
              have hk26 := k_ls hk24 hF25
              have oF25 : g_ok LK_wX F25 := by rw [hF25]; exact g_ok_u oF23 rfl
              have fF25 : g_fr md_X4_begin_r5 F F25 := by rw [hF25]; exact g_fr_u fF23 rfl
              exact hret e_X4_begin_114 (Nat.le_of_ble_eq_true rfl) (Nat.le_of_ble_eq_true rfl) ⟨F25, R7, rfl, oF25, oR7, fF25, fR7, (hk26.symm.trans hSP)⟩
            · have p27 := gn_lt 0 29 (gc_nle zc8) py6 (jv_k (x := 30) 30 (by decide)) (by decide)
              have hk28 := hkK46.trans (if_neg zc8)
              refine g_aload_n cx 0 rfl e_X4_begin_55 ?_
              refine g_get cx cl_X4 fl_X4_18 43 (.ref (ad 46)) e_X4_begin_56 rfl rfl ?_
              refine g_iload_n cx 2 rfl e_X4_begin_59 ?_
              refine g_iconst cx 0 (by decide) e_X4_begin_60 ?_
              refine g_iast cx 46 (wX X ad F (g_u R7 46 (upd (R7 46) (Int32.toNatClampNeg y6) 0))) e_X4_begin_61 rfl (jv_ix 30 p27 (by decide)) rfl ?_
              obtain ⟨R29, hR29⟩ : ∃ z, z = g_u R7 46 (upd (R7 46) (Int32.toNatClampNeg y6) 0) := ⟨_, rfl⟩
              rw [← hR29]
              have hk30 := k_ls hk28 hR29
              have oR29 : g_okR LA_wX R29 := by rw [hR29]; exact g_okR_u oR7 rfl
              have fR29 : g_fr mr_X4_begin_r5 R R29 := by rw [hR29]; exact g_fr_r fR7 rfl
              obtain ⟨x31, ex31⟩ : ∃ z : Int32, z = y6 + Int32.ofInt 1 := ⟨_, rfl⟩
              have hk32 := k_ls hk30 (show x31 = y6 + 1 from ex31)
              refine g_iinc cx x31 [(2, .int x31), (0, .ref (ad 43)), (1, .ref (ad 5))] 2 e_X4_begin_62 rfl ex31.symm (by decide) rfl ?_
              have zx31 := jv_add 1 30 (show x31 = y6 + 1 from ex31) p27 (jv_k (x := 1) 1 (by decide)) (by decide)
              refine g_goto cx 46 e_X4_begin_65 (by decide) ?_
              refine g_lsub [1, 2, 0] [(0, .ref (ad 43)), (1, .ref (ad 5)), (2, .int x31)] rfl ?_
              exact ih46 R29 x31 oR29 fR29 (jv_w zx31.2 (by decide)) (hk32.trans (by rw [hb46])) (Nat.lt_of_lt_of_le (show (2147483647 - x31.toInt).toNat < (2147483647 - y6.toInt).toNat from by have q0 := (jv_k (x := 1) 1 (by decide)).1; have q1 := (jv_k (x := 1) 1 (by decide)).2; have q2 := (jv_k (x := 30) 30 (by decide)).1; have q3 := (jv_k (x := 30) 30 (by decide)).2; have q4 := zx31.2.1; have q5 := zx31.2.2; have q6 := p27.1; have q7 := p27.2; have q8 := (gc_nle zc8); have q9 := (g_eq0 zx31.1); omega) (Nat.le_of_lt_succ hm46))
        refine g_lsub [1, 2, 0] [(0, .ref (ad 43)), (1, .ref (ad 5)), (2, .int 0)] rfl ?_
        exact J46 8589934592 R2 0 oR2 fR2 (jv_w (jv_k (x := 0) 0 (by decide)) (by decide)) hk5 (show (2147483647 - (0 : Int32).toInt).toNat < 8589934592 from by have q0 := (jv_k (x := 0) 0 (by decide)).1; have q1 := (jv_k (x := 0) 0 (by decide)).2; omega)
      · have p33 := gn_lt 0 9 (gc_nle zc3) py1 (jv_k (x := 10) 10 (by decide)) (by decide)
        have hk34 := hkK7.trans (if_neg zc3)
        refine g_aload_n cx 0 rfl e_X4_begin_13 ?_
        refine g_get cx cl_X4 fl_X4_9 43 (.ref (ad 44)) e_X4_begin_14 rfl rfl ?_
        refine g_iload_n cx 2 rfl e_X4_begin_17 ?_
        refine g_aload_n cx 1 rfl e_X4_begin_18 ?_
        refine g_iload_n cx 2 rfl e_X4_begin_19 ?_
        refine g_iconst cx 1 (by decide) e_X4_begin_20 ?_
        refine g_cViW cx [.int y1, .int 1] [.int y1, .ref (ad 44)] (w_X8_side_5 l X ad F R2 hI oR2 y1 1) ml_X4_46 yV_X8_side e_X4_begin_21 (by unfold g_rr; decide) (by decide) 5 rfl rfl rfl (Nat.le_of_ble_eq_true rfl) (fun r35 w36 h37 => ?_)
        obtain ⟨rfl, pr35, hx38⟩ := h37
        have hk39 := k_ls hk34 hx38
        refine g_iast cx 44 (wX X ad F (g_u R2 44 (upd (R2 44) (Int32.toNatClampNeg y1) r35))) e_X4_begin_24 rfl (jv_ix 10 p33 (by decide)) rfl ?_
        obtain ⟨R40, hR40⟩ : ∃ z, z = g_u R2 44 (upd (R2 44) (Int32.toNatClampNeg y1) r35) := ⟨_, rfl⟩
        rw [← hR40]
        have hk41 := k_ls hk39 hR40
        have oR40 : g_okR LA_wX R40 := by rw [hR40]; exact g_okR_u oR2 rfl
        have fR40 : g_fr mr_X4_begin_r5 R R40 := by rw [hR40]; exact g_fr_r fR2 rfl
        refine g_aload_n cx 0 rfl e_X4_begin_25 ?_
        refine g_get cx cl_X4 fl_X4_15 43 (.ref (ad 45)) e_X4_begin_26 rfl rfl ?_
        refine g_iload_n cx 2 rfl e_X4_begin_29 ?_
        refine g_aload_n cx 1 rfl e_X4_begin_30 ?_
        refine g_iload_n cx 2 rfl e_X4_begin_31 ?_
        refine g_bipush cx 6 (by decide) e_X4_begin_32 ?_
        refine g_cViW cx [.int y1, .int 6] [.int y1, .ref (ad 45)] (w_X8_side_5 l X ad F R40 hI oR40 y1 6) ml_X4_46 yV_X8_side e_X4_begin_34 (by unfold g_rr; decide) (by decide) 5 rfl rfl rfl (Nat.le_of_ble_eq_true rfl) (fun r42 w43 h44 => ?_)
        obtain ⟨rfl, pr42, hx45⟩ := h44
        have hk46 := k_ls hk41 hx45
        refine g_iast cx 45 (wX X ad F (g_u R40 45 (upd (R40 45) (Int32.toNatClampNeg y1) r42))) e_X4_begin_37 rfl (jv_ix 10 p33 (by decide)) rfl ?_
        obtain ⟨R47, hR47⟩ : ∃ z, z = g_u R40 45 (upd (R40 45) (Int32.toNatClampNeg y1) r42) := ⟨_, rfl⟩
        rw [← hR47]
        have hk48 := k_ls hk46 hR47
        have oR47 : g_okR LA_wX R47 := by rw [hR47]; exact g_okR_u oR40 rfl
        have fR47 : g_fr mr_X4_begin_r5 R R47 := by rw [hR47]; exact g_fr_r fR40 rfl
        obtain ⟨x49, ex49⟩ : ∃ z : Int32, z = y1 + Int32.ofInt 1 := ⟨_, rfl⟩
        have hk50 := k_ls hk48 (show x49 = y1 + 1 from ex49)
        refine g_iinc cx x49 [(2, .int x49), (0, .ref (ad 43)), (1, .ref (ad 5))] 2 e_X4_begin_38 rfl ex49.symm (by decide) rfl ?_
        have zx49 := jv_add 1 10 (show x49 = y1 + 1 from ex49) p33 (jv_k (x := 1) 1 (by decide)) (by decide)
        refine g_goto cx 7 e_X4_begin_41 (by decide) ?_
        refine g_lsub [1, 2, 0] [(0, .ref (ad 43)), (1, .ref (ad 5)), (2, .int x49)] rfl ?_
        exact ih7 R47 x49 oR47 fR47 (jv_w zx49.2 (by decide)) (hk50.trans (by rw [hb7])) (Nat.lt_of_lt_of_le (show (2147483647 - x49.toInt).toNat < (2147483647 - y1.toInt).toNat from by have q0 := (jv_k (x := 1) 1 (by decide)).1; have q1 := (jv_k (x := 1) 1 (by decide)).2; have q2 := (jv_k (x := 10) 10 (by decide)).1; have q3 := (jv_k (x := 10) 10 (by decide)).2; have q4 := zx49.2.1; have q5 := zx49.2.2; have q6 := p33.1; have q7 := p33.2; have q8 := (gc_nle zc3); have q9 := (g_eq0 zx49.1); omega) (Nat.le_of_lt_succ hm7))
  refine g_lsub [1, 2, 0] [(0, .ref (ad 43)), (1, .ref (ad 5)), (2, .int 0)] rfl ?_
  exact J7 8589934592 R 0 hA (g_fr_rf R) (jv_w (jv_k (x := 0) 0 (by decide)) (by decide)) hk0 (show (2147483647 - (0 : Int32).toInt).toNat < 8589934592 from by have q0 := (jv_k (x := 0) 0 (by decide)).1; have q1 := (jv_k (x := 0) 0 (by decide)).2; omega)
def K_X4_lead_34 (F : Nat → Int32) (R5 : Nat → Nat → Int32) : (Nat → Int32) × (Nat → Nat → Int32) :=
  (F, R5)
def sp_X4_lead (F : Nat → Int32) (R : Nat → Nat → Int32) (a0 : Int32) (a1 : Int32) (a2 : Int32) : (Nat → Int32) × (Nat → Nat → Int32) :=
  k_lt (g_in a0 0 9) (fun r1 => if r1 = 0 then K_X4_lead_34 F R else k_lt (g_in a1 0 2) (fun r12 => if r12 = 0 then K_X4_lead_34 F R else k_lt (a1 * 10) (fun x22 => k_lt (x22 + a0) (fun x24 => k_lt (R 46 (Int32.toNatClampNeg x24)) (fun x26 => k_lt (x26 + a2) (fun x28 => k_lt (g_u R 46 (upd (R 46) (Int32.toNatClampNeg x24) x28)) (fun R30 => K_X4_lead_34 F R30)))))))
theorem e_X4_lead_0 : g_dc cX4_lead 0 (.iload_n 1) 1 1 := ⟨by decide +kernel, rfl⟩
theorem e_X4_lead_1 : g_dc cX4_lead 1 (.iconst 0) 1 2 := ⟨by decide +kernel, rfl⟩
theorem e_X4_lead_2 : g_dc cX4_lead 2 (.bipush 9) 2 4 := ⟨by decide +kernel, rfl⟩
theorem e_X4_lead_4 : g_dc cX4_lead 4 (.invokestatic 54) 3 7 := ⟨by decide +kernel, rfl⟩
theorem e_X4_lead_7 : g_dc cX4_lead 7 (.ifCond .eq 27) 3 10 := ⟨by decide +kernel, rfl⟩
theorem e_X4_lead_10 : g_dc cX4_lead 10 (.iload_n 2) 1 11 := ⟨by decide +kernel, rfl⟩
theorem e_X4_lead_11 : g_dc cX4_lead 11 (.iconst 0) 1 12 := ⟨by decide +kernel, rfl⟩
theorem e_X4_lead_12 : g_dc cX4_lead 12 (.iconst 2) 1 13 := ⟨by decide +kernel, rfl⟩
theorem e_X4_lead_13 : g_dc cX4_lead 13 (.invokestatic 54) 3 16 := ⟨by decide +kernel, rfl⟩
theorem e_X4_lead_16 : g_dc cX4_lead 16 (.ifCond .eq 18) 3 19 := ⟨by decide +kernel, rfl⟩
theorem e_X4_lead_19 : g_dc cX4_lead 19 (.aload_n 0) 1 20 := ⟨by decide +kernel, rfl⟩
theorem e_X4_lead_20 : g_dc cX4_lead 20 (.getfield 18) 3 23 := ⟨by decide +kernel, rfl⟩
theorem e_X4_lead_23 : g_dc cX4_lead 23 (.iload_n 2) 1 24 := ⟨by decide +kernel, rfl⟩
theorem e_X4_lead_24 : g_dc cX4_lead 24 (.bipush 10) 2 26 := ⟨by decide +kernel, rfl⟩
theorem e_X4_lead_26 : g_dc cX4_lead 26 (.imul) 1 27 := ⟨by decide +kernel, rfl⟩
theorem e_X4_lead_27 : g_dc cX4_lead 27 (.iload_n 1) 1 28 := ⟨by decide +kernel, rfl⟩
theorem e_X4_lead_28 : g_dc cX4_lead 28 (.iadd) 1 29 := ⟨by decide +kernel, rfl⟩
theorem e_X4_lead_29 : g_dc cX4_lead 29 (.dup2) 1 30 := ⟨by decide +kernel, rfl⟩
theorem e_X4_lead_30 : g_dc cX4_lead 30 (.iaload) 1 31 := ⟨by decide +kernel, rfl⟩
theorem e_X4_lead_31 : g_dc cX4_lead 31 (.iload_n 3) 1 32 := ⟨by decide +kernel, rfl⟩
theorem e_X4_lead_32 : g_dc cX4_lead 32 (.iadd) 1 33 := ⟨by decide +kernel, rfl⟩
theorem e_X4_lead_33 : g_dc cX4_lead 33 (.iastore) 1 34 := ⟨by decide +kernel, rfl⟩
theorem e_X4_lead_34 : g_dc cX4_lead 34 (.return_) 1 35 := ⟨by decide +kernel, rfl⟩
def md_X4_lead : List Nat := []
def mr_X4_lead : List Nat := [46]
set_option maxHeartbeats 4000000 in
set_option maxRecDepth 100000 in
theorem w_X4_lead (l : Launch) (X : gX) (ad : Nat → Nat) (F : Nat → Int32) (R : Nat → Nat → Int32) (hI : g_ok LK_wX F) (hA : g_okR LA_wX R) (a0 : Int32) (a1 : Int32) (a2 : Int32) : g_Cv l X yX4_lead cX4_lead 4 2 0 0 [.ref (ad 43), .int a0, .int a1, .int a2] (wX X ad F R) (fun w => ∃ (F' : Nat → Int32) (R' : Nat → Nat → Int32), w = wX X ad F' R' ∧ g_ok LK_wX F' ∧ g_okR LA_wX R' ∧ g_fr md_X4_lead F F' ∧ g_fr mr_X4_lead R R' ∧ (F', R') = sp_X4_lead F R a0 a1 a2) := by
  refine g_mv (by decide +kernel) (Nat.le_of_ble_eq_true rfl) (fun E cx hret => ?_)
  obtain ⟨SP, hSP⟩ : ∃ z, z = sp_X4_lead F R a0 a1 a2 := ⟨_, rfl⟩
  have hk0 := hSP
  unfold sp_X4_lead at hk0
  refine g_iload_n cx 1 rfl e_X4_lead_0 ?_
  refine g_iconst cx 0 (by decide) e_X4_lead_1 ?_
  refine g_bipush cx 9 (by decide) e_X4_lead_2 ?_
  refine g_cNiW cx [.int a0, .int 0, .int 9] [] (c_X10_within l X (wX X ad F R) a0 0 9) mn_X4_54 yS_X10_within e_X4_lead_4 (by unfold g_rr; decide) (by decide) rfl (Nat.le_of_ble_eq_true rfl) (fun r1 w2 h3 => ?_)
  obtain ⟨rfl, hr1⟩ := h3
  have pr1 : jv 0 1 r1 := by rw [hr1]; exact gi_01 _ _ _
  have hk4 := k_ls hk0 hr1
  have J34 : ∀ (R5 : Nat → Nat → Int32), (g_okR LA_wX R5) → (g_fr mr_X4_lead R R5) → (SP = K_X4_lead_34 F R5) → G X E 4 0 0 (wX X ad F R5) [] 34 [] := by
    intro R5 oR5 fR5 hkJ34
    unfold K_X4_lead_34 at hkJ34
    exact hret e_X4_lead_34 (Nat.le_of_ble_eq_true rfl) (Nat.le_of_ble_eq_true rfl) ⟨F, R5, rfl, hI, oR5, (g_fr_rf F), fR5, (hkJ34.symm.trans hSP)⟩
  refine g_if_eq cx 34 e_X4_lead_7 (by decide) (fun zc6 => ?_) (fun zc6 => ?_)
  · have p7 := gn_eq 0 0 (gc_eq zc6) pr1 (jv_k (x := 0) 0 (by decide)) (by decide)
    have hk8 := hk4.trans (if_pos zc6)
    refine g_lsub [] [] rfl ?_
    exact J34 R hA (g_fr_rf R) hk8
  · have p9 := gn_neL 1 1 (gc_ne zc6) pr1 (jv_k (x := 0) 0 (by decide)) (by decide)
    have p10 := jv_i 0 9 (jv_t a0) (gi_in (A := 0) (B := 9) hr1 zc6 (by decide) (by decide)) (by decide)
    have hk11 := hk4.trans (if_neg zc6)
    refine g_iload_n cx 2 rfl e_X4_lead_10 ?_
    refine g_iconst cx 0 (by decide) e_X4_lead_11 ?_
    refine g_iconst cx 2 (by decide) e_X4_lead_12 ?_
    refine g_cNiW cx [.int a1, .int 0, .int 2] [] (c_X10_within l X (wX X ad F R) a1 0 2) mn_X4_54 yS_X10_within e_X4_lead_13 (by unfold g_rr; decide) (by decide) rfl (Nat.le_of_ble_eq_true rfl) (fun r12 w13 h14 => ?_)
    obtain ⟨rfl, hr12⟩ := h14
    have pr12 : jv 0 1 r12 := by rw [hr12]; exact gi_01 _ _ _
    have hk15 := k_ls hk11 hr12
    refine g_if_eq cx 34 e_X4_lead_16 (by decide) (fun zc16 => ?_) (fun zc16 => ?_)
    · have p17 := gn_eq 0 0 (gc_eq zc16) pr12 (jv_k (x := 0) 0 (by decide)) (by decide)
      have hk18 := hk15.trans (if_pos zc16)
      refine g_lsub [] [] rfl ?_
      exact J34 R hA (g_fr_rf R) hk18
    · have p19 := gn_neL 1 1 (gc_ne zc16) pr12 (jv_k (x := 0) 0 (by decide)) (by decide)
      have p20 := jv_i 0 2 (jv_t a1) (gi_in (A := 0) (B := 2) hr12 zc16 (by decide) (by decide)) (by decide)
      have hk21 := hk15.trans (if_neg zc16)
      refine g_aload_n cx 0 rfl e_X4_lead_19 ?_
      refine g_get cx cl_X4 fl_X4_18 43 (.ref (ad 46)) e_X4_lead_20 rfl rfl ?_
      refine g_iload_n cx 2 rfl e_X4_lead_23 ?_
      refine g_bipush cx 10 (by decide) e_X4_lead_24 ?_
      refine g_imul cx e_X4_lead_26 ?_
      refine g_topi (fun x22 ex22 => ?_)
      have hk23 := k_ls hk21 ex22
      have zx22 := jv_mul 0 20 ex22 p20 (jv_k (x := 10) 10 (by decide)) (by decide)
      refine g_iload_n cx 1 rfl e_X4_lead_27 ?_
      refine g_iadd cx e_X4_lead_28 ?_
      refine g_topi (fun x24 ex24 => ?_)
      have hk25 := k_ls hk23 ex24
      have zx24 := jv_add 0 29 ex24 zx22.2 p10 (by decide)
      refine g_dup2 cx rfl rfl e_X4_lead_29 ?_
      refine g_iald cx 46 e_X4_lead_30 rfl (jv_ix 30 zx24.2 (by decide)) ?_
      refine g_topi (fun x26 ex26 => ?_)
      have hk27 := k_ls hk25 ex26
      refine g_iload_n cx 3 rfl e_X4_lead_31 ?_
      refine g_iadd cx e_X4_lead_32 ?_
      refine g_topi (fun x28 ex28 => ?_)
      have hk29 := k_ls hk27 ex28
      refine g_iast cx 46 (wX X ad F (g_u R 46 (upd (R 46) (Int32.toNatClampNeg x24) x28))) e_X4_lead_33 rfl (jv_ix 30 zx24.2 (by decide)) rfl ?_
      obtain ⟨R30, hR30⟩ : ∃ z, z = g_u R 46 (upd (R 46) (Int32.toNatClampNeg x24) x28) := ⟨_, rfl⟩
      rw [← hR30]
      have hk31 := k_ls hk29 hR30
      have oR30 : g_okR LA_wX R30 := by rw [hR30]; exact g_okR_u hA rfl
      have fR30 : g_fr mr_X4_lead R R30 := by rw [hR30]; exact g_fr_r (g_fr_rf R) rfl
      refine g_lsub [] [] rfl ?_
      exact J34 R30 oR30 fR30 hk31
def sp_X4_standingSet (F : Nat → Int32) (R : Nat → Nat → Int32) : Int32 :=
  k_lt ((F 692) ||| (F 693)) (fun x1 => k_lt (x1 ^^^ (-1)) (fun x3 => k_lt ((F 691) &&& x3) (fun x5 => x5)))
theorem e_X4_standingSet_0 : g_dc cX4_standingSet 0 (.aload_n 0) 1 1 := ⟨by decide +kernel, rfl⟩
theorem e_X4_standingSet_1 : g_dc cX4_standingSet 1 (.getfield 21) 3 4 := ⟨by decide +kernel, rfl⟩
theorem e_X4_standingSet_4 : g_dc cX4_standingSet 4 (.aload_n 0) 1 5 := ⟨by decide +kernel, rfl⟩
theorem e_X4_standingSet_5 : g_dc cX4_standingSet 5 (.getfield 25) 3 8 := ⟨by decide +kernel, rfl⟩
theorem e_X4_standingSet_8 : g_dc cX4_standingSet 8 (.aload_n 0) 1 9 := ⟨by decide +kernel, rfl⟩
theorem e_X4_standingSet_9 : g_dc cX4_standingSet 9 (.getfield 28) 3 12 := ⟨by decide +kernel, rfl⟩
theorem e_X4_standingSet_12 : g_dc cX4_standingSet 12 (.ior) 1 13 := ⟨by decide +kernel, rfl⟩
theorem e_X4_standingSet_13 : g_dc cX4_standingSet 13 (.iconst (-1)) 1 14 := ⟨by decide +kernel, rfl⟩
theorem e_X4_standingSet_14 : g_dc cX4_standingSet 14 (.ixor) 1 15 := ⟨by decide +kernel, rfl⟩
theorem e_X4_standingSet_15 : g_dc cX4_standingSet 15 (.iand) 1 16 := ⟨by decide +kernel, rfl⟩
theorem e_X4_standingSet_16 : g_dc cX4_standingSet 16 (.ireturn) 1 17 := ⟨by decide +kernel, rfl⟩
set_option maxHeartbeats 4000000 in
set_option maxRecDepth 100000 in
theorem w_X4_standingSet (l : Launch) (X : gX) (ad : Nat → Nat) (F : Nat → Int32) (R : Nat → Nat → Int32) (hI : g_ok LK_wX F) (hA : g_okR LA_wX R) : g_Ci l X yX4_standingSet cX4_standingSet 1 (some .int) 1 0 0 [.ref (ad 43)] (wX X ad F R) (fun r w => w = wX X ad F R ∧ jv (-2147483648) 2147483647 r ∧ r = sp_X4_standingSet F R) := by
  refine g_mi (by decide +kernel) (Nat.le_of_ble_eq_true rfl) (fun E cx hret => ?_)
  obtain ⟨SP, hSP⟩ : ∃ z, z = sp_X4_standingSet F R := ⟨_, rfl⟩
  have hk0 := hSP
  unfold sp_X4_standingSet at hk0
  refine g_aload_n cx 0 rfl e_X4_standingSet_0 ?_
  refine g_get cx cl_X4 fl_X4_21 43 (.int (F 691)) e_X4_standingSet_1 rfl rfl ?_
  refine g_aload_n cx 0 rfl e_X4_standingSet_4 ?_
  refine g_get cx cl_X4 fl_X4_25 43 (.int (F 692)) e_X4_standingSet_5 rfl rfl ?_
  refine g_aload_n cx 0 rfl e_X4_standingSet_8 ?_
  refine g_get cx cl_X4 fl_X4_28 43 (.int (F 693)) e_X4_standingSet_9 rfl rfl ?_
  refine g_ior cx e_X4_standingSet_12 ?_
  refine g_topi (fun x1 ex1 => ?_)
  have hk2 := k_ls hk0 ex1
  refine g_iconst cx (-1) (by decide) e_X4_standingSet_13 ?_
  refine g_ixor cx e_X4_standingSet_14 ?_
  refine g_topi (fun x3 ex3 => ?_)
  have hk4 := k_ls hk2 ex3
  refine g_iand cx e_X4_standingSet_15 ?_
  refine g_topi (fun x5 ex5 => ?_)
  have hk6 := k_ls hk4 ex5
  exact hret e_X4_standingSet_16 (Nat.le_of_ble_eq_true rfl) (Nat.le_of_ble_eq_true rfl) rfl ⟨rfl, (jv_t x5), (hk6.symm.trans hSP)⟩
def sp_X4_standing (F : Nat → Int32) (R : Nat → Nat → Int32) : Int32 :=
  k_lt (sp_X4_standingSet F R) (fun r1 => k_lt (sp_J6_bitCount_0f7a4_s0 r1) (fun r6 => r6))
theorem e_X4_standing_0 : g_dc cX4_standing 0 (.aload_n 0) 1 1 := ⟨by decide +kernel, rfl⟩
theorem e_X4_standing_1 : g_dc cX4_standing 1 (.invokevirtual 58) 3 4 := ⟨by decide +kernel, rfl⟩
theorem e_X4_standing_4 : g_dc cX4_standing 4 (.invokestatic 62) 3 7 := ⟨by decide +kernel, rfl⟩
theorem e_X4_standing_7 : g_dc cX4_standing 7 (.ireturn) 1 8 := ⟨by decide +kernel, rfl⟩
set_option maxHeartbeats 4000000 in
set_option maxRecDepth 100000 in
theorem w_X4_standing (l : Launch) (X : gX) (ad : Nat → Nat) (F : Nat → Int32) (R : Nat → Nat → Int32) (hI : g_ok LK_wX F) (hA : g_okR LA_wX R) : g_Ci l X yX4_standing cX4_standing 1 (some .int) 2 0 0 [.ref (ad 43)] (wX X ad F R) (fun r w => w = wX X ad F R ∧ jv 0 63 r ∧ r = sp_X4_standing F R) := by
  refine g_mi (by decide +kernel) (Nat.le_of_ble_eq_true rfl) (fun E cx hret => ?_)
  obtain ⟨SP, hSP⟩ : ∃ z, z = sp_X4_standing F R := ⟨_, rfl⟩
  have hk0 := hSP
  unfold sp_X4_standing at hk0
  refine g_aload_n cx 0 rfl e_X4_standing_0 ?_
  refine g_cViW cx [] [] (w_X4_standingSet l X ad F R hI hA) ml_X4_58 yV_X4_standingSet e_X4_standing_1 (by unfold g_rr; decide) (by decide) 43 rfl rfl rfl (Nat.le_of_ble_eq_true rfl) (fun r1 w2 h3 => ?_)
  obtain ⟨rfl, pr1, hx4⟩ := h3
  have hk5 := k_ls hk0 hx4
  refine g_cOiW cx [.int r1] [] (w_J6_bitCount_0f7a4_s0 l X (wX X ad F R) r1) ml_X4_62 yS_J6_bitCount_0f7a4 e_X4_standing_4 (by unfold g_rr; decide) (by decide) rfl (Nat.le_of_ble_eq_true rfl) (fun r6 w7 h8 => ?_)
  obtain ⟨rfl, pr6, hr6⟩ := h8
  have hk9 := k_ls hk5 hr6
  exact hret e_X4_standing_7 (Nat.le_of_ble_eq_true rfl) (Nat.le_of_ble_eq_true rfl) rfl ⟨rfl, pr6, (hk9.symm.trans hSP)⟩
def KB_X4_inches_4 (b4 : (Int32) → (Int32) → Int32) (R : Nat → Nat → Int32) (y1 : Int32) (y2 : Int32) : Int32 :=
  if 30 ≤ y2 then y1 else k_lt (R 46 (Int32.toNatClampNeg y2)) (fun x8 => k_lt (y1 + x8) (fun x10 => k_lt (y2 + 1) (fun x12 => b4 x10 x12)))
def K_X4_inches_4 (R : Nat → Nat → Int32) : Nat → (Int32) → (Int32) → Int32
  | 0 => fun _ _ => 0
  | n + 1 => KB_X4_inches_4 (K_X4_inches_4 R n) R
def sp_X4_inches (F : Nat → Int32) (R : Nat → Nat → Int32) : Int32 :=
  K_X4_inches_4 R 8589934592 0 0
theorem e_X4_inches_0 : g_dc cX4_inches 0 (.iconst 0) 1 1 := ⟨by decide +kernel, rfl⟩
theorem e_X4_inches_1 : g_dc cX4_inches 1 (.istore_n 1) 1 2 := ⟨by decide +kernel, rfl⟩
theorem e_X4_inches_2 : g_dc cX4_inches 2 (.iconst 0) 1 3 := ⟨by decide +kernel, rfl⟩
theorem e_X4_inches_3 : g_dc cX4_inches 3 (.istore_n 2) 1 4 := ⟨by decide +kernel, rfl⟩
theorem e_X4_inches_4 : g_dc cX4_inches 4 (.iload_n 2) 1 5 := ⟨by decide +kernel, rfl⟩
theorem e_X4_inches_5 : g_dc cX4_inches 5 (.aload_n 0) 1 6 := ⟨by decide +kernel, rfl⟩
theorem e_X4_inches_6 : g_dc cX4_inches 6 (.getfield 18) 3 9 := ⟨by decide +kernel, rfl⟩
theorem e_X4_inches_9 : g_dc cX4_inches 9 (.arraylength) 1 10 := ⟨by decide +kernel, rfl⟩
theorem e_X4_inches_10 : g_dc cX4_inches 10 (.if_icmp .ge 18) 3 13 := ⟨by decide +kernel, rfl⟩
theorem e_X4_inches_13 : g_dc cX4_inches 13 (.iload_n 1) 1 14 := ⟨by decide +kernel, rfl⟩
theorem e_X4_inches_14 : g_dc cX4_inches 14 (.aload_n 0) 1 15 := ⟨by decide +kernel, rfl⟩
theorem e_X4_inches_15 : g_dc cX4_inches 15 (.getfield 18) 3 18 := ⟨by decide +kernel, rfl⟩
theorem e_X4_inches_18 : g_dc cX4_inches 18 (.iload_n 2) 1 19 := ⟨by decide +kernel, rfl⟩
theorem e_X4_inches_19 : g_dc cX4_inches 19 (.iaload) 1 20 := ⟨by decide +kernel, rfl⟩
theorem e_X4_inches_20 : g_dc cX4_inches 20 (.iadd) 1 21 := ⟨by decide +kernel, rfl⟩
theorem e_X4_inches_21 : g_dc cX4_inches 21 (.istore_n 1) 1 22 := ⟨by decide +kernel, rfl⟩
theorem e_X4_inches_22 : g_dc cX4_inches 22 (.iinc 2 1) 3 25 := ⟨by decide +kernel, rfl⟩
theorem e_X4_inches_25 : g_dc cX4_inches 25 (.goto (-21)) 3 28 := ⟨by decide +kernel, rfl⟩
theorem e_X4_inches_28 : g_dc cX4_inches 28 (.iload_n 1) 1 29 := ⟨by decide +kernel, rfl⟩
theorem e_X4_inches_29 : g_dc cX4_inches 29 (.ireturn) 1 30 := ⟨by decide +kernel, rfl⟩
set_option maxHeartbeats 4000000 in
set_option maxRecDepth 100000 in
theorem w_X4_inches (l : Launch) (X : gX) (ad : Nat → Nat) (F : Nat → Int32) (R : Nat → Nat → Int32) (hI : g_ok LK_wX F) (hA : g_okR LA_wX R) : g_Ci l X yX4_inches cX4_inches 3 (some .int) 1 0 0 [.ref (ad 43)] (wX X ad F R) (fun r w => w = wX X ad F R ∧ jv (-2147483648) 2147483647 r ∧ r = sp_X4_inches F R) := by
  refine g_mi (by decide +kernel) (Nat.le_of_ble_eq_true rfl) (fun E cx hret => ?_)
  obtain ⟨SP, hSP⟩ : ∃ z, z = sp_X4_inches F R := ⟨_, rfl⟩
  have hk0 := hSP
  unfold sp_X4_inches at hk0
  refine g_iconst cx 0 (by decide) e_X4_inches_0 ?_
  refine g_istore_n cx [(1, .int 0), (0, .ref (ad 43))] e_X4_inches_1 (by decide) rfl ?_
  refine g_iconst cx 0 (by decide) e_X4_inches_2 ?_
  refine g_istore_n cx [(2, .int 0), (1, .int 0), (0, .ref (ad 43))] e_X4_inches_3 (by decide) rfl ?_
  have J4 : ∀ (N : Nat) (y1 : Int32) (y2 : Int32), (jv (-2147483648) 2147483647 y1) → (jv 0 60 y2) → (SP = K_X4_inches_4 R N y1 y2) → (2147483647 - y2.toInt).toNat < N → G X E 3 0 0 (wX X ad F R) [(0, .ref (ad 43)), (1, .int y1), (2, .int y2)] 4 [] := by
    intro N
    induction N with
    | zero => intro y1 y2 py1 py2 hkJ4 hm; exact absurd hm (Nat.not_lt_zero _)
    | succ N ih4 =>
      intro y1 y2 py1 py2 hkJ4 hm4
      have hkK4 : SP = KB_X4_inches_4 (K_X4_inches_4 R N) R y1 y2 := hkJ4
      obtain ⟨b4, hb4⟩ : ∃ z, z = K_X4_inches_4 R N := ⟨_, rfl⟩
      rw [← hb4] at hkK4
      unfold KB_X4_inches_4 at hkK4
      refine g_iload_n cx 2 rfl e_X4_inches_4 ?_
      refine g_aload_n cx 0 rfl e_X4_inches_5 ?_
      refine g_get cx cl_X4 fl_X4_18 43 (.ref (ad 46)) e_X4_inches_6 rfl rfl ?_
      refine g_alen cx 46 30 e_X4_inches_9 rfl (by decide) ?_
      refine g_icmp_ge cx 28 e_X4_inches_10 (by decide) (fun zc3 => ?_) (fun zc3 => ?_)
      · have p4 := gn_ge 30 60 (gc_le zc3) py2 (jv_k (x := 30) 30 (by decide)) (by decide)
        have hk5 := hkK4.trans (if_pos zc3)
        refine g_iload_n cx 1 rfl e_X4_inches_28 ?_
        exact hret e_X4_inches_29 (Nat.le_of_ble_eq_true rfl) (Nat.le_of_ble_eq_true rfl) rfl ⟨rfl, py1, (hk5.symm.trans hSP)⟩
      · have p6 := gn_lt 0 29 (gc_nle zc3) py2 (jv_k (x := 30) 30 (by decide)) (by decide)
        have hk7 := hkK4.trans (if_neg zc3)
        refine g_iload_n cx 1 rfl e_X4_inches_13 ?_
        refine g_aload_n cx 0 rfl e_X4_inches_14 ?_
        refine g_get cx cl_X4 fl_X4_18 43 (.ref (ad 46)) e_X4_inches_15 rfl rfl ?_
        refine g_iload_n cx 2 rfl e_X4_inches_18 ?_
        refine g_iald cx 46 e_X4_inches_19 rfl (jv_ix 30 p6 (by decide)) ?_
        refine g_topi (fun x8 ex8 => ?_)
        have hk9 := k_ls hk7 ex8
        refine g_iadd cx e_X4_inches_20 ?_
        refine g_topi (fun x10 ex10 => ?_)
        have hk11 := k_ls hk9 ex10
        refine g_istore_n cx [(1, .int x10), (0, .ref (ad 43)), (2, .int y2)] e_X4_inches_21 (by decide) rfl ?_
        obtain ⟨x12, ex12⟩ : ∃ z : Int32, z = y2 + Int32.ofInt 1 := ⟨_, rfl⟩
        have hk13 := k_ls hk11 (show x12 = y2 + 1 from ex12)
        refine g_iinc cx x12 [(2, .int x12), (1, .int x10), (0, .ref (ad 43))] 2 e_X4_inches_22 rfl ex12.symm (by decide) rfl ?_
        have zx12 := jv_add 1 30 (show x12 = y2 + 1 from ex12) p6 (jv_k (x := 1) 1 (by decide)) (by decide)
        refine g_goto cx 4 e_X4_inches_25 (by decide) ?_
        refine g_lsub [2, 1, 0] [(0, .ref (ad 43)), (1, .int x10), (2, .int x12)] rfl ?_
        exact ih4 x10 x12 (jv_t x10) (jv_w zx12.2 (by decide)) (hk13.trans (by rw [hb4])) (Nat.lt_of_lt_of_le (show (2147483647 - x12.toInt).toNat < (2147483647 - y2.toInt).toNat from by have q0 := (jv_k (x := 1) 1 (by decide)).1; have q1 := (jv_k (x := 1) 1 (by decide)).2; have q2 := (jv_k (x := 30) 30 (by decide)).1; have q3 := (jv_k (x := 30) 30 (by decide)).2; have q4 := zx12.2.1; have q5 := zx12.2.2; have q6 := p6.1; have q7 := p6.2; have q8 := (gc_nle zc3); have q9 := (g_eq0 zx12.1); omega) (Nat.le_of_lt_succ hm4))
  refine g_lsub [2, 1, 0] [(0, .ref (ad 43)), (1, .int 0), (2, .int 0)] rfl ?_
  exact J4 8589934592 0 0 (jv_w (jv_k (x := 0) 0 (by decide)) (by decide)) (jv_w (jv_k (x := 0) 0 (by decide)) (by decide)) hk0 (show (2147483647 - (0 : Int32).toInt).toNat < 8589934592 from by have q0 := (jv_k (x := 0) 0 (by decide)).1; have q1 := (jv_k (x := 0) 0 (by decide)).2; omega)
def K_X4_isOver_16  (y5 : Int32) : Int32 :=
  y5
def sp_X4_isOver (F : Nat → Int32) (R : Nat → Nat → Int32) (a0 : Int32) : Int32 :=
  k_lt (1 <<< (a0 &&& 31)) (fun x1 => k_lt ((F 693) &&& x1) (fun x3 => if x3 = 0 then K_X4_isOver_16 0 else K_X4_isOver_16 1))
theorem e_X4_isOver_0 : g_dc cX4_isOver 0 (.aload_n 0) 1 1 := ⟨by decide +kernel, rfl⟩
theorem e_X4_isOver_1 : g_dc cX4_isOver 1 (.getfield 28) 3 4 := ⟨by decide +kernel, rfl⟩
theorem e_X4_isOver_4 : g_dc cX4_isOver 4 (.iconst 1) 1 5 := ⟨by decide +kernel, rfl⟩
theorem e_X4_isOver_5 : g_dc cX4_isOver 5 (.iload_n 1) 1 6 := ⟨by decide +kernel, rfl⟩
theorem e_X4_isOver_6 : g_dc cX4_isOver 6 (.ishl) 1 7 := ⟨by decide +kernel, rfl⟩
theorem e_X4_isOver_7 : g_dc cX4_isOver 7 (.iand) 1 8 := ⟨by decide +kernel, rfl⟩
theorem e_X4_isOver_8 : g_dc cX4_isOver 8 (.ifCond .eq 7) 3 11 := ⟨by decide +kernel, rfl⟩
theorem e_X4_isOver_11 : g_dc cX4_isOver 11 (.iconst 1) 1 12 := ⟨by decide +kernel, rfl⟩
theorem e_X4_isOver_12 : g_dc cX4_isOver 12 (.goto 4) 3 15 := ⟨by decide +kernel, rfl⟩
theorem e_X4_isOver_15 : g_dc cX4_isOver 15 (.iconst 0) 1 16 := ⟨by decide +kernel, rfl⟩
theorem e_X4_isOver_16 : g_dc cX4_isOver 16 (.ireturn) 1 17 := ⟨by decide +kernel, rfl⟩
set_option maxHeartbeats 4000000 in
set_option maxRecDepth 100000 in
theorem w_X4_isOver (l : Launch) (X : gX) (ad : Nat → Nat) (F : Nat → Int32) (R : Nat → Nat → Int32) (hI : g_ok LK_wX F) (hA : g_okR LA_wX R) (a0 : Int32) : g_Ci l X yX4_isOver cX4_isOver 2 (some .boolean) 1 0 0 [.ref (ad 43), .int a0] (wX X ad F R) (fun r w => w = wX X ad F R ∧ jv 0 1 r ∧ r = sp_X4_isOver F R a0) := by
  refine g_mi (by decide +kernel) (Nat.le_of_ble_eq_true rfl) (fun E cx hret => ?_)
  obtain ⟨SP, hSP⟩ : ∃ z, z = sp_X4_isOver F R a0 := ⟨_, rfl⟩
  have hk0 := hSP
  unfold sp_X4_isOver at hk0
  refine g_aload_n cx 0 rfl e_X4_isOver_0 ?_
  refine g_get cx cl_X4 fl_X4_28 43 (.int (F 693)) e_X4_isOver_1 rfl rfl ?_
  refine g_iconst cx 1 (by decide) e_X4_isOver_4 ?_
  refine g_iload_n cx 1 rfl e_X4_isOver_5 ?_
  refine g_ishl cx e_X4_isOver_6 ?_
  refine g_topi (fun x1 ex1 => ?_)
  have hk2 := k_ls hk0 ex1
  refine g_iand cx e_X4_isOver_7 ?_
  refine g_topi (fun x3 ex3 => ?_)
  have hk4 := k_ls hk2 ex3
  have J16 : ∀ (y5 : Int32), (jv 0 1 y5) → (SP = K_X4_isOver_16 y5) → G X E 2 0 0 (wX X ad F R) [] 16 [.int y5] := by
    intro y5 py5 hkJ16
    unfold K_X4_isOver_16 at hkJ16
    exact hret e_X4_isOver_16 (Nat.le_of_ble_eq_true rfl) (Nat.le_of_ble_eq_true rfl) (g_narb py5) ⟨rfl, py5, (hkJ16.symm.trans hSP)⟩
  refine g_if_eq cx 15 e_X4_isOver_8 (by decide) (fun zc6 => ?_) (fun zc6 => ?_)
  · have p7 := gn_eq 0 0 (gc_eq zc6) (jv_t x3) (jv_k (x := 0) 0 (by decide)) (by decide)
    have hk8 := hk4.trans (if_pos zc6)
    refine g_iconst cx 0 (by decide) e_X4_isOver_15 ?_
    refine g_lsub [] [] rfl ?_
    exact J16 0 (jv_w (jv_k (x := 0) 0 (by decide)) (by decide)) hk8
  · have hk9 := hk4.trans (if_neg zc6)
    refine g_iconst cx 1 (by decide) e_X4_isOver_11 ?_
    refine g_goto cx 16 e_X4_isOver_12 (by decide) ?_
    refine g_lsub [] [] rfl ?_
    exact J16 1 (jv_w (jv_k (x := 1) 1 (by decide)) (by decide)) hk9
def K_X4_tellThing_21   : Int32 :=
  (-1)
def K_X4_tellThing_78  (y27 : Int32) : Int32 :=
  y27
def sp_X4_tellThing (F : Nat → Int32) (R : Nat → Nat → Int32) (a0 : Int32) (a1 : Int32) : Int32 :=
  k_lt (g_in a0 0 9) (fun r1 => if r1 = 0 then K_X4_tellThing_21 else k_lt (1 <<< (a0 &&& 31)) (fun x11 => k_lt ((F 691) &&& x11) (fun x13 => if x13 = 0 then K_X4_tellThing_21 else k_lt (a1) (fun zy17 => if zy17.toInt = 1 then k_lt (sp_X4_isOver F R a0) (fun r22 => if r22 = 0 then k_lt (R 44 (Int32.toNatClampNeg a0)) (fun x31 => K_X4_tellThing_78 x31) else K_X4_tellThing_78 (-1)) else if zy17.toInt = 2 then k_lt (R 46 (Int32.toNatClampNeg a0)) (fun x37 => k_lt (10 + a0) (fun x39 => k_lt (R 46 (Int32.toNatClampNeg x39)) (fun x41 => k_lt (x37 + x41) (fun x43 => k_lt (20 + a0) (fun x45 => k_lt (R 46 (Int32.toNatClampNeg x45)) (fun x47 => k_lt (x43 + x47) (fun x49 => x49))))))) else if zy17.toInt = 3 then k_lt (R 46 (Int32.toNatClampNeg a0)) (fun x53 => x53) else if zy17.toInt = 4 then k_lt (10 + a0) (fun x57 => k_lt (R 46 (Int32.toNatClampNeg x57)) (fun x59 => x59)) else if zy17.toInt = 5 then k_lt (20 + a0) (fun x63 => k_lt (R 46 (Int32.toNatClampNeg x63)) (fun x65 => x65)) else k_lt (R 45 (Int32.toNatClampNeg a0)) (fun x68 => x68)))))
theorem e_X4_tellThing_0 : g_dc cX4_tellThing 0 (.iload_n 1) 1 1 := ⟨by decide +kernel, rfl⟩
theorem e_X4_tellThing_1 : g_dc cX4_tellThing 1 (.iconst 0) 1 2 := ⟨by decide +kernel, rfl⟩
theorem e_X4_tellThing_2 : g_dc cX4_tellThing 2 (.bipush 9) 2 4 := ⟨by decide +kernel, rfl⟩
theorem e_X4_tellThing_4 : g_dc cX4_tellThing 4 (.invokestatic 54) 3 7 := ⟨by decide +kernel, rfl⟩
theorem e_X4_tellThing_7 : g_dc cX4_tellThing 7 (.ifCond .eq 14) 3 10 := ⟨by decide +kernel, rfl⟩
theorem e_X4_tellThing_10 : g_dc cX4_tellThing 10 (.aload_n 0) 1 11 := ⟨by decide +kernel, rfl⟩
theorem e_X4_tellThing_11 : g_dc cX4_tellThing 11 (.getfield 21) 3 14 := ⟨by decide +kernel, rfl⟩
theorem e_X4_tellThing_14 : g_dc cX4_tellThing 14 (.iconst 1) 1 15 := ⟨by decide +kernel, rfl⟩
theorem e_X4_tellThing_15 : g_dc cX4_tellThing 15 (.iload_n 1) 1 16 := ⟨by decide +kernel, rfl⟩
theorem e_X4_tellThing_16 : g_dc cX4_tellThing 16 (.ishl) 1 17 := ⟨by decide +kernel, rfl⟩
theorem e_X4_tellThing_17 : g_dc cX4_tellThing 17 (.iand) 1 18 := ⟨by decide +kernel, rfl⟩
theorem e_X4_tellThing_18 : g_dc cX4_tellThing 18 (.ifCond .ne 5) 3 21 := ⟨by decide +kernel, rfl⟩
theorem e_X4_tellThing_21 : g_dc cX4_tellThing 21 (.iconst (-1)) 1 22 := ⟨by decide +kernel, rfl⟩
theorem e_X4_tellThing_22 : g_dc cX4_tellThing 22 (.ireturn) 1 23 := ⟨by decide +kernel, rfl⟩
theorem e_X4_tellThing_23 : g_dc cX4_tellThing 23 (.iload_n 2) 1 24 := ⟨by decide +kernel, rfl⟩
theorem e_X4_tellThing_24 : g_dc cX4_tellThing 24 (.tableswitch 109 1 5 #[36, 55, 82, 89, 99]) 36 60 := ⟨by decide +kernel, rfl⟩
theorem e_X4_tellThing_60 : g_dc cX4_tellThing 60 (.aload_n 0) 1 61 := ⟨by decide +kernel, rfl⟩
theorem e_X4_tellThing_61 : g_dc cX4_tellThing 61 (.iload_n 1) 1 62 := ⟨by decide +kernel, rfl⟩
theorem e_X4_tellThing_62 : g_dc cX4_tellThing 62 (.invokevirtual 77) 3 65 := ⟨by decide +kernel, rfl⟩
theorem e_X4_tellThing_65 : g_dc cX4_tellThing 65 (.ifCond .eq 7) 3 68 := ⟨by decide +kernel, rfl⟩
theorem e_X4_tellThing_68 : g_dc cX4_tellThing 68 (.iconst (-1)) 1 69 := ⟨by decide +kernel, rfl⟩
theorem e_X4_tellThing_69 : g_dc cX4_tellThing 69 (.goto 9) 3 72 := ⟨by decide +kernel, rfl⟩
theorem e_X4_tellThing_72 : g_dc cX4_tellThing 72 (.aload_n 0) 1 73 := ⟨by decide +kernel, rfl⟩
theorem e_X4_tellThing_73 : g_dc cX4_tellThing 73 (.getfield 9) 3 76 := ⟨by decide +kernel, rfl⟩
theorem e_X4_tellThing_76 : g_dc cX4_tellThing 76 (.iload_n 1) 1 77 := ⟨by decide +kernel, rfl⟩
theorem e_X4_tellThing_77 : g_dc cX4_tellThing 77 (.iaload) 1 78 := ⟨by decide +kernel, rfl⟩
theorem e_X4_tellThing_78 : g_dc cX4_tellThing 78 (.ireturn) 1 79 := ⟨by decide +kernel, rfl⟩
theorem e_X4_tellThing_79 : g_dc cX4_tellThing 79 (.aload_n 0) 1 80 := ⟨by decide +kernel, rfl⟩
theorem e_X4_tellThing_80 : g_dc cX4_tellThing 80 (.getfield 18) 3 83 := ⟨by decide +kernel, rfl⟩
theorem e_X4_tellThing_83 : g_dc cX4_tellThing 83 (.iload_n 1) 1 84 := ⟨by decide +kernel, rfl⟩
theorem e_X4_tellThing_84 : g_dc cX4_tellThing 84 (.iaload) 1 85 := ⟨by decide +kernel, rfl⟩
theorem e_X4_tellThing_85 : g_dc cX4_tellThing 85 (.aload_n 0) 1 86 := ⟨by decide +kernel, rfl⟩
theorem e_X4_tellThing_86 : g_dc cX4_tellThing 86 (.getfield 18) 3 89 := ⟨by decide +kernel, rfl⟩
theorem e_X4_tellThing_89 : g_dc cX4_tellThing 89 (.bipush 10) 2 91 := ⟨by decide +kernel, rfl⟩
theorem e_X4_tellThing_91 : g_dc cX4_tellThing 91 (.iload_n 1) 1 92 := ⟨by decide +kernel, rfl⟩
theorem e_X4_tellThing_92 : g_dc cX4_tellThing 92 (.iadd) 1 93 := ⟨by decide +kernel, rfl⟩
theorem e_X4_tellThing_93 : g_dc cX4_tellThing 93 (.iaload) 1 94 := ⟨by decide +kernel, rfl⟩
theorem e_X4_tellThing_94 : g_dc cX4_tellThing 94 (.iadd) 1 95 := ⟨by decide +kernel, rfl⟩
theorem e_X4_tellThing_95 : g_dc cX4_tellThing 95 (.aload_n 0) 1 96 := ⟨by decide +kernel, rfl⟩
theorem e_X4_tellThing_96 : g_dc cX4_tellThing 96 (.getfield 18) 3 99 := ⟨by decide +kernel, rfl⟩
theorem e_X4_tellThing_99 : g_dc cX4_tellThing 99 (.bipush 20) 2 101 := ⟨by decide +kernel, rfl⟩
theorem e_X4_tellThing_101 : g_dc cX4_tellThing 101 (.iload_n 1) 1 102 := ⟨by decide +kernel, rfl⟩
theorem e_X4_tellThing_102 : g_dc cX4_tellThing 102 (.iadd) 1 103 := ⟨by decide +kernel, rfl⟩
theorem e_X4_tellThing_103 : g_dc cX4_tellThing 103 (.iaload) 1 104 := ⟨by decide +kernel, rfl⟩
theorem e_X4_tellThing_104 : g_dc cX4_tellThing 104 (.iadd) 1 105 := ⟨by decide +kernel, rfl⟩
theorem e_X4_tellThing_105 : g_dc cX4_tellThing 105 (.ireturn) 1 106 := ⟨by decide +kernel, rfl⟩
theorem e_X4_tellThing_106 : g_dc cX4_tellThing 106 (.aload_n 0) 1 107 := ⟨by decide +kernel, rfl⟩
theorem e_X4_tellThing_107 : g_dc cX4_tellThing 107 (.getfield 18) 3 110 := ⟨by decide +kernel, rfl⟩
theorem e_X4_tellThing_110 : g_dc cX4_tellThing 110 (.iload_n 1) 1 111 := ⟨by decide +kernel, rfl⟩
theorem e_X4_tellThing_111 : g_dc cX4_tellThing 111 (.iaload) 1 112 := ⟨by decide +kernel, rfl⟩
theorem e_X4_tellThing_112 : g_dc cX4_tellThing 112 (.ireturn) 1 113 := ⟨by decide +kernel, rfl⟩
theorem e_X4_tellThing_113 : g_dc cX4_tellThing 113 (.aload_n 0) 1 114 := ⟨by decide +kernel, rfl⟩
theorem e_X4_tellThing_114 : g_dc cX4_tellThing 114 (.getfield 18) 3 117 := ⟨by decide +kernel, rfl⟩
theorem e_X4_tellThing_117 : g_dc cX4_tellThing 117 (.bipush 10) 2 119 := ⟨by decide +kernel, rfl⟩
theorem e_X4_tellThing_119 : g_dc cX4_tellThing 119 (.iload_n 1) 1 120 := ⟨by decide +kernel, rfl⟩
theorem e_X4_tellThing_120 : g_dc cX4_tellThing 120 (.iadd) 1 121 := ⟨by decide +kernel, rfl⟩
theorem e_X4_tellThing_121 : g_dc cX4_tellThing 121 (.iaload) 1 122 := ⟨by decide +kernel, rfl⟩
theorem e_X4_tellThing_122 : g_dc cX4_tellThing 122 (.ireturn) 1 123 := ⟨by decide +kernel, rfl⟩
theorem e_X4_tellThing_123 : g_dc cX4_tellThing 123 (.aload_n 0) 1 124 := ⟨by decide +kernel, rfl⟩
theorem e_X4_tellThing_124 : g_dc cX4_tellThing 124 (.getfield 18) 3 127 := ⟨by decide +kernel, rfl⟩
theorem e_X4_tellThing_127 : g_dc cX4_tellThing 127 (.bipush 20) 2 129 := ⟨by decide +kernel, rfl⟩
theorem e_X4_tellThing_129 : g_dc cX4_tellThing 129 (.iload_n 1) 1 130 := ⟨by decide +kernel, rfl⟩
theorem e_X4_tellThing_130 : g_dc cX4_tellThing 130 (.iadd) 1 131 := ⟨by decide +kernel, rfl⟩
theorem e_X4_tellThing_131 : g_dc cX4_tellThing 131 (.iaload) 1 132 := ⟨by decide +kernel, rfl⟩
theorem e_X4_tellThing_132 : g_dc cX4_tellThing 132 (.ireturn) 1 133 := ⟨by decide +kernel, rfl⟩
theorem e_X4_tellThing_133 : g_dc cX4_tellThing 133 (.aload_n 0) 1 134 := ⟨by decide +kernel, rfl⟩
theorem e_X4_tellThing_134 : g_dc cX4_tellThing 134 (.getfield 15) 3 137 := ⟨by decide +kernel, rfl⟩
theorem e_X4_tellThing_137 : g_dc cX4_tellThing 137 (.iload_n 1) 1 138 := ⟨by decide +kernel, rfl⟩
theorem e_X4_tellThing_138 : g_dc cX4_tellThing 138 (.iaload) 1 139 := ⟨by decide +kernel, rfl⟩
theorem e_X4_tellThing_139 : g_dc cX4_tellThing 139 (.ireturn) 1 140 := ⟨by decide +kernel, rfl⟩
set_option maxHeartbeats 4000000 in
set_option maxRecDepth 100000 in
theorem w_X4_tellThing (l : Launch) (X : gX) (ad : Nat → Nat) (F : Nat → Int32) (R : Nat → Nat → Int32) (hI : g_ok LK_wX F) (hA : g_okR LA_wX R) (a0 : Int32) (a1 : Int32) : g_Ci l X yX4_tellThing cX4_tellThing 3 (some .int) 2 0 0 [.ref (ad 43), .int a0, .int a1] (wX X ad F R) (fun r w => w = wX X ad F R ∧ jv (-2147483648) 2147483647 r ∧ r = sp_X4_tellThing F R a0 a1) := by
  refine g_mi (by decide +kernel) (Nat.le_of_ble_eq_true rfl) (fun E cx hret => ?_)
  obtain ⟨SP, hSP⟩ : ∃ z, z = sp_X4_tellThing F R a0 a1 := ⟨_, rfl⟩
  have hk0 := hSP
  unfold sp_X4_tellThing at hk0
  refine g_iload_n cx 1 rfl e_X4_tellThing_0 ?_
  refine g_iconst cx 0 (by decide) e_X4_tellThing_1 ?_
  refine g_bipush cx 9 (by decide) e_X4_tellThing_2 ?_
  refine g_cNiW cx [.int a0, .int 0, .int 9] [] (c_X10_within l X (wX X ad F R) a0 0 9) mn_X4_54 yS_X10_within e_X4_tellThing_4 (by unfold g_rr; decide) (by decide) rfl (Nat.le_of_ble_eq_true rfl) (fun r1 w2 h3 => ?_)
  obtain ⟨rfl, hr1⟩ := h3
  have pr1 : jv 0 1 r1 := by rw [hr1]; exact gi_01 _ _ _
  have hk4 := k_ls hk0 hr1
  have J21 : (SP = K_X4_tellThing_21) → G X E 3 0 0 (wX X ad F R) [] 21 [] := by
    intro   hkJ21
    unfold K_X4_tellThing_21 at hkJ21
    refine g_iconst cx (-1) (by decide) e_X4_tellThing_21 ?_
    exact hret e_X4_tellThing_22 (Nat.le_of_ble_eq_true rfl) (Nat.le_of_ble_eq_true rfl) rfl ⟨rfl, (jv_w (jv_k (x := (-1)) (-1) (by decide)) (by decide)), (hkJ21.symm.trans hSP)⟩
  refine g_if_eq cx 21 e_X4_tellThing_7 (by decide) (fun zc5 => ?_) (fun zc5 => ?_)
  · have p6 := gn_eq 0 0 (gc_eq zc5) pr1 (jv_k (x := 0) 0 (by decide)) (by decide)
    have hk7 := hk4.trans (if_pos zc5)
    refine g_lsub [] [] rfl ?_
    exact J21  hk7
  · have p8 := gn_neL 1 1 (gc_ne zc5) pr1 (jv_k (x := 0) 0 (by decide)) (by decide)
    have p9 := jv_i 0 9 (jv_t a0) (gi_in (A := 0) (B := 9) hr1 zc5 (by decide) (by decide)) (by decide)
    have hk10 := hk4.trans (if_neg zc5)
    refine g_aload_n cx 0 rfl e_X4_tellThing_10 ?_
    refine g_get cx cl_X4 fl_X4_21 43 (.int (F 691)) e_X4_tellThing_11 rfl rfl ?_
    refine g_iconst cx 1 (by decide) e_X4_tellThing_14 ?_
    refine g_iload_n cx 1 rfl e_X4_tellThing_15 ?_
    refine g_ishl cx e_X4_tellThing_16 ?_
    refine g_topi (fun x11 ex11 => ?_)
    have hk12 := k_ls hk10 ex11
    refine g_iand cx e_X4_tellThing_17 ?_
    refine g_topi (fun x13 ex13 => ?_)
    have hk14 := k_ls hk12 ex13
    refine g_if_ne cx 23 e_X4_tellThing_18 (by decide) (fun zc15 => ?_) (fun zc15 => ?_)
    · have hk16 := hk14.trans (if_neg zc15)
      refine g_iload_n cx 2 rfl e_X4_tellThing_23 ?_
      refine g_topi (fun zy17 ezy17 => ?_)
      have hk18 := k_ls hk16 ezy17
      rcases g_sw 1 5 zy17 with ⟨zw19n, zw19h, zw19e⟩ | zw19
      · have zw19d : zw19n = 0 ∨ zw19n = 1 ∨ zw19n = 2 ∨ zw19n = 3 ∨ zw19n = 4 := by omega
        rcases zw19d with rfl | rfl | rfl | rfl | rfl
        · refine g_tableIn cx 60 e_X4_tellThing_24 (by rw [zw19e]; decide) (by rw [zw19e]; decide) (by rw [zw19e]; rfl) (by decide) ?_
          have p20 : jv 1 1 a1 := by rw [← ezy17]; exact jv_k 1 (by rw [zw19e]; rfl)
          have hk21 := (hk18.trans (if_pos (by rw [zw19e]; decide)))
          refine g_aload_n cx 0 rfl e_X4_tellThing_60 ?_
          refine g_iload_n cx 1 rfl e_X4_tellThing_61 ?_
          refine g_cViW cx [.int a0] [] (w_X4_isOver l X ad F R hI hA a0) ml_X4_77 yV_X4_isOver e_X4_tellThing_62 (by unfold g_rr; decide) (by decide) 43 rfl rfl rfl (Nat.le_of_ble_eq_true rfl) (fun r22 w23 h24 => ?_)
          obtain ⟨rfl, pr22, hx25⟩ := h24
          have hk26 := k_ls hk21 hx25
          have J78 : ∀ (y27 : Int32), (jv (-2147483648) 2147483647 y27) → (SP = K_X4_tellThing_78 y27) → G X E 3 0 0 (wX X ad F R) [] 78 [.int y27] := by
            intro y27 py27 hkJ78
            unfold K_X4_tellThing_78 at hkJ78
            exact hret e_X4_tellThing_78 (Nat.le_of_ble_eq_true rfl) (Nat.le_of_ble_eq_true rfl) rfl ⟨rfl, py27, (hkJ78.symm.trans hSP)⟩
          refine g_if_eq cx 72 e_X4_tellThing_65 (by decide) (fun zc28 => ?_) (fun zc28 => ?_)
          · have p29 := gn_eq 0 0 (gc_eq zc28) pr22 (jv_k (x := 0) 0 (by decide)) (by decide)
            have hk30 := hk26.trans (if_pos zc28)
            refine g_aload_n cx 0 rfl e_X4_tellThing_72 ?_
            refine g_get cx cl_X4 fl_X4_9 43 (.ref (ad 44)) e_X4_tellThing_73 rfl rfl ?_
            refine g_iload_n cx 1 rfl e_X4_tellThing_76 ?_
            refine g_iald cx 44 e_X4_tellThing_77 rfl (jv_ix 10 p9 (by decide)) ?_
            refine g_topi (fun x31 ex31 => ?_)
            have hk32 := k_ls hk30 ex31
            refine g_lsub [] [] rfl ?_
            exact J78 x31 (jv_t x31) hk32
          · have p33 := gn_neL 1 1 (gc_ne zc28) pr22 (jv_k (x := 0) 0 (by decide)) (by decide)
            have hk34 := hk26.trans (if_neg zc28)
            refine g_iconst cx (-1) (by decide) e_X4_tellThing_68 ?_
            refine g_goto cx 78 e_X4_tellThing_69 (by decide) ?_
            refine g_lsub [] [] rfl ?_
            exact J78 (-1) (jv_w (jv_k (x := (-1)) (-1) (by decide)) (by decide)) hk34
        · refine g_tableIn cx 79 e_X4_tellThing_24 (by rw [zw19e]; decide) (by rw [zw19e]; decide) (by rw [zw19e]; rfl) (by decide) ?_
          have p35 : jv 2 2 a1 := by rw [← ezy17]; exact jv_k 2 (by rw [zw19e]; rfl)
          have hk36 := ((hk18.trans (if_neg (by rw [zw19e]; decide))).trans (if_pos (by rw [zw19e]; decide)))
          refine g_aload_n cx 0 rfl e_X4_tellThing_79 ?_
          refine g_get cx cl_X4 fl_X4_18 43 (.ref (ad 46)) e_X4_tellThing_80 rfl rfl ?_
          refine g_iload_n cx 1 rfl e_X4_tellThing_83 ?_
          refine g_iald cx 46 e_X4_tellThing_84 rfl (jv_ix 30 p9 (by decide)) ?_
          refine g_topi (fun x37 ex37 => ?_)
          have hk38 := k_ls hk36 ex37
          refine g_aload_n cx 0 rfl e_X4_tellThing_85 ?_
          refine g_get cx cl_X4 fl_X4_18 43 (.ref (ad 46)) e_X4_tellThing_86 rfl rfl ?_
          refine g_bipush cx 10 (by decide) e_X4_tellThing_89 ?_
          refine g_iload_n cx 1 rfl e_X4_tellThing_91 ?_
          refine g_iadd cx e_X4_tellThing_92 ?_
          refine g_topi (fun x39 ex39 => ?_)
          have hk40 := k_ls hk38 ex39
          have zx39 := jv_add 10 19 ex39 (jv_k (x := 10) 10 (by decide)) p9 (by decide)
          refine g_iald cx 46 e_X4_tellThing_93 rfl (jv_ix 30 zx39.2 (by decide)) ?_
          refine g_topi (fun x41 ex41 => ?_)
          have hk42 := k_ls hk40 ex41
          refine g_iadd cx e_X4_tellThing_94 ?_
          refine g_topi (fun x43 ex43 => ?_)
          have hk44 := k_ls hk42 ex43
          refine g_aload_n cx 0 rfl e_X4_tellThing_95 ?_
          refine g_get cx cl_X4 fl_X4_18 43 (.ref (ad 46)) e_X4_tellThing_96 rfl rfl ?_
          refine g_bipush cx 20 (by decide) e_X4_tellThing_99 ?_
          refine g_iload_n cx 1 rfl e_X4_tellThing_101 ?_
          refine g_iadd cx e_X4_tellThing_102 ?_
          refine g_topi (fun x45 ex45 => ?_)
          have hk46 := k_ls hk44 ex45
          have zx45 := jv_add 20 29 ex45 (jv_k (x := 20) 20 (by decide)) p9 (by decide)
          refine g_iald cx 46 e_X4_tellThing_103 rfl (jv_ix 30 zx45.2 (by decide)) ?_
          refine g_topi (fun x47 ex47 => ?_)
          have hk48 := k_ls hk46 ex47
          refine g_iadd cx e_X4_tellThing_104 ?_
          refine g_topi (fun x49 ex49 => ?_)
          have hk50 := k_ls hk48 ex49
          exact hret e_X4_tellThing_105 (Nat.le_of_ble_eq_true rfl) (Nat.le_of_ble_eq_true rfl) rfl ⟨rfl, (jv_t x49), (hk50.symm.trans hSP)⟩
        · refine g_tableIn cx 106 e_X4_tellThing_24 (by rw [zw19e]; decide) (by rw [zw19e]; decide) (by rw [zw19e]; rfl) (by decide) ?_
          have p51 : jv 3 3 a1 := by rw [← ezy17]; exact jv_k 3 (by rw [zw19e]; rfl)
          have hk52 := (((hk18.trans (if_neg (by rw [zw19e]; decide))).trans (if_neg (by rw [zw19e]; decide))).trans (if_pos (by rw [zw19e]; decide)))
          refine g_aload_n cx 0 rfl e_X4_tellThing_106 ?_
          refine g_get cx cl_X4 fl_X4_18 43 (.ref (ad 46)) e_X4_tellThing_107 rfl rfl ?_
          refine g_iload_n cx 1 rfl e_X4_tellThing_110 ?_
          refine g_iald cx 46 e_X4_tellThing_111 rfl (jv_ix 30 p9 (by decide)) ?_
          refine g_topi (fun x53 ex53 => ?_)
          have hk54 := k_ls hk52 ex53
          exact hret e_X4_tellThing_112 (Nat.le_of_ble_eq_true rfl) (Nat.le_of_ble_eq_true rfl) rfl ⟨rfl, (jv_t x53), (hk54.symm.trans hSP)⟩
        · refine g_tableIn cx 113 e_X4_tellThing_24 (by rw [zw19e]; decide) (by rw [zw19e]; decide) (by rw [zw19e]; rfl) (by decide) ?_
          have p55 : jv 4 4 a1 := by rw [← ezy17]; exact jv_k 4 (by rw [zw19e]; rfl)
          have hk56 := ((((hk18.trans (if_neg (by rw [zw19e]; decide))).trans (if_neg (by rw [zw19e]; decide))).trans (if_neg (by rw [zw19e]; decide))).trans (if_pos (by rw [zw19e]; decide)))
          refine g_aload_n cx 0 rfl e_X4_tellThing_113 ?_
          refine g_get cx cl_X4 fl_X4_18 43 (.ref (ad 46)) e_X4_tellThing_114 rfl rfl ?_
          refine g_bipush cx 10 (by decide) e_X4_tellThing_117 ?_
          refine g_iload_n cx 1 rfl e_X4_tellThing_119 ?_
          refine g_iadd cx e_X4_tellThing_120 ?_
          refine g_topi (fun x57 ex57 => ?_)
          have hk58 := k_ls hk56 ex57
          have zx57 := jv_add 10 19 ex57 (jv_k (x := 10) 10 (by decide)) p9 (by decide)
          refine g_iald cx 46 e_X4_tellThing_121 rfl (jv_ix 30 zx57.2 (by decide)) ?_
          refine g_topi (fun x59 ex59 => ?_)
          have hk60 := k_ls hk58 ex59
          exact hret e_X4_tellThing_122 (Nat.le_of_ble_eq_true rfl) (Nat.le_of_ble_eq_true rfl) rfl ⟨rfl, (jv_t x59), (hk60.symm.trans hSP)⟩
        · refine g_tableIn cx 123 e_X4_tellThing_24 (by rw [zw19e]; decide) (by rw [zw19e]; decide) (by rw [zw19e]; rfl) (by decide) ?_
          have p61 : jv 5 5 a1 := by rw [← ezy17]; exact jv_k 5 (by rw [zw19e]; rfl)
          have hk62 := (((((hk18.trans (if_neg (by rw [zw19e]; decide))).trans (if_neg (by rw [zw19e]; decide))).trans (if_neg (by rw [zw19e]; decide))).trans (if_neg (by rw [zw19e]; decide))).trans (if_pos (by rw [zw19e]; decide)))
          refine g_aload_n cx 0 rfl e_X4_tellThing_123 ?_
          refine g_get cx cl_X4 fl_X4_18 43 (.ref (ad 46)) e_X4_tellThing_124 rfl rfl ?_
          refine g_bipush cx 20 (by decide) e_X4_tellThing_127 ?_
          refine g_iload_n cx 1 rfl e_X4_tellThing_129 ?_
          refine g_iadd cx e_X4_tellThing_130 ?_
          refine g_topi (fun x63 ex63 => ?_)
          have hk64 := k_ls hk62 ex63
          have zx63 := jv_add 20 29 ex63 (jv_k (x := 20) 20 (by decide)) p9 (by decide)
          refine g_iald cx 46 e_X4_tellThing_131 rfl (jv_ix 30 zx63.2 (by decide)) ?_
          refine g_topi (fun x65 ex65 => ?_)
          have hk66 := k_ls hk64 ex65
          exact hret e_X4_tellThing_132 (Nat.le_of_ble_eq_true rfl) (Nat.le_of_ble_eq_true rfl) rfl ⟨rfl, (jv_t x65), (hk66.symm.trans hSP)⟩
      · refine g_tableOut cx 133 e_X4_tellThing_24 zw19 (by decide) ?_
        have hk67 := (((((hk18.trans (if_neg (by omega))).trans (if_neg (by omega))).trans (if_neg (by omega))).trans (if_neg (by omega))).trans (if_neg (by omega)))
        refine g_aload_n cx 0 rfl e_X4_tellThing_133 ?_
        refine g_get cx cl_X4 fl_X4_15 43 (.ref (ad 45)) e_X4_tellThing_134 rfl rfl ?_
        refine g_iload_n cx 1 rfl e_X4_tellThing_137 ?_
        refine g_iald cx 45 e_X4_tellThing_138 rfl (jv_ix 10 p9 (by decide)) ?_
        refine g_topi (fun x68 ex68 => ?_)
        have hk69 := k_ls hk67 ex68
        exact hret e_X4_tellThing_139 (Nat.le_of_ble_eq_true rfl) (Nat.le_of_ble_eq_true rfl) rfl ⟨rfl, (jv_t x68), (hk69.symm.trans hSP)⟩
    · have p70 := gn_eq 0 0 (gc_eq zc15) (jv_t x13) (jv_k (x := 0) 0 (by decide)) (by decide)
      have hk71 := hk14.trans (if_pos zc15)
      refine g_lsub [] [] rfl ?_
      exact J21  hk71
def K_X4_tell_124  (y37 : Int32) : Int32 :=
  y37
def sp_X4_tell (F : Nat → Int32) (R : Nat → Nat → Int32) (a0 : Int32) : Int32 :=
  k_lt (a0) (fun zy1 => if zy1.toInt = 0 then k_lt (sp_X4_standing F R) (fun r6 => r6) else if zy1.toInt = 1 then k_lt (sp_X4_inches F R) (fun r13 => r13) else if zy1.toInt = 2 then (F 697) else if zy1.toInt = 3 then (F 698) else if zy1.toInt = 4 then (F 692) else if zy1.toInt = 5 then (F 693) else if zy1.toInt = 6 then (F 694) else if zy1.toInt = 7 then (F 695) else if zy1.toInt = 8 then (F 696) else k_lt (g_in a0 10 69) (fun r33 => if r33 = 0 then K_X4_tell_124 (-1) else k_lt (a0 - a0 / 10 * 10) (fun x44 => k_lt (a0 / 10) (fun x46 => k_lt (sp_X4_tellThing F R x44 x46) (fun r48 => K_X4_tell_124 r48)))))
theorem e_X4_tell_0 : g_dc cX4_tell 0 (.iload_n 1) 1 1 := ⟨by decide +kernel, rfl⟩
theorem e_X4_tell_1 : g_dc cX4_tell 1 (.tableswitch 96 0 8 #[51, 56, 61, 66, 71, 76, 81, 86, 91]) 51 52 := ⟨by decide +kernel, rfl⟩
theorem e_X4_tell_52 : g_dc cX4_tell 52 (.aload_n 0) 1 53 := ⟨by decide +kernel, rfl⟩
theorem e_X4_tell_53 : g_dc cX4_tell 53 (.invokevirtual 68) 3 56 := ⟨by decide +kernel, rfl⟩
theorem e_X4_tell_56 : g_dc cX4_tell 56 (.ireturn) 1 57 := ⟨by decide +kernel, rfl⟩
theorem e_X4_tell_57 : g_dc cX4_tell 57 (.aload_n 0) 1 58 := ⟨by decide +kernel, rfl⟩
theorem e_X4_tell_58 : g_dc cX4_tell 58 (.invokevirtual 71) 3 61 := ⟨by decide +kernel, rfl⟩
theorem e_X4_tell_61 : g_dc cX4_tell 61 (.ireturn) 1 62 := ⟨by decide +kernel, rfl⟩
theorem e_X4_tell_62 : g_dc cX4_tell 62 (.aload_n 0) 1 63 := ⟨by decide +kernel, rfl⟩
theorem e_X4_tell_63 : g_dc cX4_tell 63 (.getfield 40) 3 66 := ⟨by decide +kernel, rfl⟩
theorem e_X4_tell_66 : g_dc cX4_tell 66 (.ireturn) 1 67 := ⟨by decide +kernel, rfl⟩
theorem e_X4_tell_67 : g_dc cX4_tell 67 (.aload_n 0) 1 68 := ⟨by decide +kernel, rfl⟩
theorem e_X4_tell_68 : g_dc cX4_tell 68 (.getfield 43) 3 71 := ⟨by decide +kernel, rfl⟩
theorem e_X4_tell_71 : g_dc cX4_tell 71 (.ireturn) 1 72 := ⟨by decide +kernel, rfl⟩
theorem e_X4_tell_72 : g_dc cX4_tell 72 (.aload_n 0) 1 73 := ⟨by decide +kernel, rfl⟩
theorem e_X4_tell_73 : g_dc cX4_tell 73 (.getfield 25) 3 76 := ⟨by decide +kernel, rfl⟩
theorem e_X4_tell_76 : g_dc cX4_tell 76 (.ireturn) 1 77 := ⟨by decide +kernel, rfl⟩
theorem e_X4_tell_77 : g_dc cX4_tell 77 (.aload_n 0) 1 78 := ⟨by decide +kernel, rfl⟩
theorem e_X4_tell_78 : g_dc cX4_tell 78 (.getfield 28) 3 81 := ⟨by decide +kernel, rfl⟩
theorem e_X4_tell_81 : g_dc cX4_tell 81 (.ireturn) 1 82 := ⟨by decide +kernel, rfl⟩
theorem e_X4_tell_82 : g_dc cX4_tell 82 (.aload_n 0) 1 83 := ⟨by decide +kernel, rfl⟩
theorem e_X4_tell_83 : g_dc cX4_tell 83 (.getfield 31) 3 86 := ⟨by decide +kernel, rfl⟩
theorem e_X4_tell_86 : g_dc cX4_tell 86 (.ireturn) 1 87 := ⟨by decide +kernel, rfl⟩
theorem e_X4_tell_87 : g_dc cX4_tell 87 (.aload_n 0) 1 88 := ⟨by decide +kernel, rfl⟩
theorem e_X4_tell_88 : g_dc cX4_tell 88 (.getfield 34) 3 91 := ⟨by decide +kernel, rfl⟩
theorem e_X4_tell_91 : g_dc cX4_tell 91 (.ireturn) 1 92 := ⟨by decide +kernel, rfl⟩
theorem e_X4_tell_92 : g_dc cX4_tell 92 (.aload_n 0) 1 93 := ⟨by decide +kernel, rfl⟩
theorem e_X4_tell_93 : g_dc cX4_tell 93 (.getfield 37) 3 96 := ⟨by decide +kernel, rfl⟩
theorem e_X4_tell_96 : g_dc cX4_tell 96 (.ireturn) 1 97 := ⟨by decide +kernel, rfl⟩
theorem e_X4_tell_97 : g_dc cX4_tell 97 (.iload_n 1) 1 98 := ⟨by decide +kernel, rfl⟩
theorem e_X4_tell_98 : g_dc cX4_tell 98 (.bipush 10) 2 100 := ⟨by decide +kernel, rfl⟩
theorem e_X4_tell_100 : g_dc cX4_tell 100 (.bipush 69) 2 102 := ⟨by decide +kernel, rfl⟩
theorem e_X4_tell_102 : g_dc cX4_tell 102 (.invokestatic 54) 3 105 := ⟨by decide +kernel, rfl⟩
theorem e_X4_tell_105 : g_dc cX4_tell 105 (.ifCond .eq 18) 3 108 := ⟨by decide +kernel, rfl⟩
theorem e_X4_tell_108 : g_dc cX4_tell 108 (.aload_n 0) 1 109 := ⟨by decide +kernel, rfl⟩
theorem e_X4_tell_109 : g_dc cX4_tell 109 (.iload_n 1) 1 110 := ⟨by decide +kernel, rfl⟩
theorem e_X4_tell_110 : g_dc cX4_tell 110 (.bipush 10) 2 112 := ⟨by decide +kernel, rfl⟩
theorem e_X4_tell_112 : g_dc cX4_tell 112 (.irem) 1 113 := ⟨by decide +kernel, rfl⟩
theorem e_X4_tell_113 : g_dc cX4_tell 113 (.iload_n 1) 1 114 := ⟨by decide +kernel, rfl⟩
theorem e_X4_tell_114 : g_dc cX4_tell 114 (.bipush 10) 2 116 := ⟨by decide +kernel, rfl⟩
theorem e_X4_tell_116 : g_dc cX4_tell 116 (.idiv) 1 117 := ⟨by decide +kernel, rfl⟩
theorem e_X4_tell_117 : g_dc cX4_tell 117 (.invokevirtual 74) 3 120 := ⟨by decide +kernel, rfl⟩
theorem e_X4_tell_120 : g_dc cX4_tell 120 (.goto 4) 3 123 := ⟨by decide +kernel, rfl⟩
theorem e_X4_tell_123 : g_dc cX4_tell 123 (.iconst (-1)) 1 124 := ⟨by decide +kernel, rfl⟩
theorem e_X4_tell_124 : g_dc cX4_tell 124 (.ireturn) 1 125 := ⟨by decide +kernel, rfl⟩
set_option maxHeartbeats 4000000 in
set_option maxRecDepth 100000 in
theorem w_X4_tell (l : Launch) (X : gX) (ad : Nat → Nat) (F : Nat → Int32) (R : Nat → Nat → Int32) (hI : g_ok LK_wX F) (hA : g_okR LA_wX R) (a0 : Int32) : g_Ci l X yX4_tell cX4_tell 2 (some .int) 3 0 0 [.ref (ad 43), .int a0] (wX X ad F R) (fun r w => w = wX X ad F R ∧ jv (-2147483648) 2147483647 r ∧ r = sp_X4_tell F R a0) := by
  refine g_mi (by decide +kernel) (Nat.le_of_ble_eq_true rfl) (fun E cx hret => ?_)
  obtain ⟨SP, hSP⟩ : ∃ z, z = sp_X4_tell F R a0 := ⟨_, rfl⟩
  have hk0 := hSP
  unfold sp_X4_tell at hk0
  refine g_iload_n cx 1 rfl e_X4_tell_0 ?_
  refine g_topi (fun zy1 ezy1 => ?_)
  have hk2 := k_ls hk0 ezy1
  rcases g_sw 0 8 zy1 with ⟨zw3n, zw3h, zw3e⟩ | zw3
  · have zw3d : zw3n = 0 ∨ zw3n = 1 ∨ zw3n = 2 ∨ zw3n = 3 ∨ zw3n = 4 ∨ zw3n = 5 ∨ zw3n = 6 ∨ zw3n = 7 ∨ zw3n = 8 := by omega
    rcases zw3d with rfl | rfl | rfl | rfl | rfl | rfl | rfl | rfl | rfl
    · refine g_tableIn cx 52 e_X4_tell_1 (by rw [zw3e]; decide) (by rw [zw3e]; decide) (by rw [zw3e]; rfl) (by decide) ?_
      have p4 : jv 0 0 a0 := by rw [← ezy1]; exact jv_k 0 (by rw [zw3e]; rfl)
      have hk5 := (hk2.trans (if_pos (by rw [zw3e]; decide)))
      refine g_aload_n cx 0 rfl e_X4_tell_52 ?_
      refine g_cViW cx [] [] (w_X4_standing l X ad F R hI hA) ml_X4_68 yV_X4_standing e_X4_tell_53 (by unfold g_rr; decide) (by decide) 43 rfl rfl rfl (Nat.le_of_ble_eq_true rfl) (fun r6 w7 h8 => ?_)
      obtain ⟨rfl, pr6, hx9⟩ := h8
      have hk10 := k_ls hk5 hx9
      exact hret e_X4_tell_56 (Nat.le_of_ble_eq_true rfl) (Nat.le_of_ble_eq_true rfl) rfl ⟨rfl, (jv_w pr6 (by decide)), (hk10.symm.trans hSP)⟩
    · refine g_tableIn cx 57 e_X4_tell_1 (by rw [zw3e]; decide) (by rw [zw3e]; decide) (by rw [zw3e]; rfl) (by decide) ?_
      have p11 : jv 1 1 a0 := by rw [← ezy1]; exact jv_k 1 (by rw [zw3e]; rfl)
      have hk12 := ((hk2.trans (if_neg (by rw [zw3e]; decide))).trans (if_pos (by rw [zw3e]; decide)))
      refine g_aload_n cx 0 rfl e_X4_tell_57 ?_
      refine g_cViW cx [] [] (w_X4_inches l X ad F R hI hA) ml_X4_71 yV_X4_inches e_X4_tell_58 (by unfold g_rr; decide) (by decide) 43 rfl rfl rfl (Nat.le_of_ble_eq_true rfl) (fun r13 w14 h15 => ?_)
      obtain ⟨rfl, pr13, hx16⟩ := h15
      have hk17 := k_ls hk12 hx16
      exact hret e_X4_tell_61 (Nat.le_of_ble_eq_true rfl) (Nat.le_of_ble_eq_true rfl) rfl ⟨rfl, pr13, (hk17.symm.trans hSP)⟩
    · refine g_tableIn cx 62 e_X4_tell_1 (by rw [zw3e]; decide) (by rw [zw3e]; decide) (by rw [zw3e]; rfl) (by decide) ?_
      have p18 : jv 2 2 a0 := by rw [← ezy1]; exact jv_k 2 (by rw [zw3e]; rfl)
      have hk19 := (((hk2.trans (if_neg (by rw [zw3e]; decide))).trans (if_neg (by rw [zw3e]; decide))).trans (if_pos (by rw [zw3e]; decide)))
      refine g_aload_n cx 0 rfl e_X4_tell_62 ?_
      refine g_get cx cl_X4 fl_X4_40 43 (.int (F 697)) e_X4_tell_63 rfl rfl ?_
      exact hret e_X4_tell_66 (Nat.le_of_ble_eq_true rfl) (Nat.le_of_ble_eq_true rfl) rfl ⟨rfl, (jv_t (F 697)), (hk19.symm.trans hSP)⟩
    · refine g_tableIn cx 67 e_X4_tell_1 (by rw [zw3e]; decide) (by rw [zw3e]; decide) (by rw [zw3e]; rfl) (by decide) ?_
      have p20 : jv 3 3 a0 := by rw [← ezy1]; exact jv_k 3 (by rw [zw3e]; rfl)
      have hk21 := ((((hk2.trans (if_neg (by rw [zw3e]; decide))).trans (if_neg (by rw [zw3e]; decide))).trans (if_neg (by rw [zw3e]; decide))).trans (if_pos (by rw [zw3e]; decide)))
      refine g_aload_n cx 0 rfl e_X4_tell_67 ?_
      refine g_get cx cl_X4 fl_X4_43 43 (.int (F 698)) e_X4_tell_68 rfl rfl ?_
      exact hret e_X4_tell_71 (Nat.le_of_ble_eq_true rfl) (Nat.le_of_ble_eq_true rfl) rfl ⟨rfl, (jv_t (F 698)), (hk21.symm.trans hSP)⟩
    · refine g_tableIn cx 72 e_X4_tell_1 (by rw [zw3e]; decide) (by rw [zw3e]; decide) (by rw [zw3e]; rfl) (by decide) ?_
      have p22 : jv 4 4 a0 := by rw [← ezy1]; exact jv_k 4 (by rw [zw3e]; rfl)
      have hk23 := (((((hk2.trans (if_neg (by rw [zw3e]; decide))).trans (if_neg (by rw [zw3e]; decide))).trans (if_neg (by rw [zw3e]; decide))).trans (if_neg (by rw [zw3e]; decide))).trans (if_pos (by rw [zw3e]; decide)))
      refine g_aload_n cx 0 rfl e_X4_tell_72 ?_
      refine g_get cx cl_X4 fl_X4_25 43 (.int (F 692)) e_X4_tell_73 rfl rfl ?_
      exact hret e_X4_tell_76 (Nat.le_of_ble_eq_true rfl) (Nat.le_of_ble_eq_true rfl) rfl ⟨rfl, (jv_t (F 692)), (hk23.symm.trans hSP)⟩
    · refine g_tableIn cx 77 e_X4_tell_1 (by rw [zw3e]; decide) (by rw [zw3e]; decide) (by rw [zw3e]; rfl) (by decide) ?_
      have p24 : jv 5 5 a0 := by rw [← ezy1]; exact jv_k 5 (by rw [zw3e]; rfl)
      have hk25 := ((((((hk2.trans (if_neg (by rw [zw3e]; decide))).trans (if_neg (by rw [zw3e]; decide))).trans (if_neg (by rw [zw3e]; decide))).trans (if_neg (by rw [zw3e]; decide))).trans (if_neg (by rw [zw3e]; decide))).trans (if_pos (by rw [zw3e]; decide)))
      refine g_aload_n cx 0 rfl e_X4_tell_77 ?_
      refine g_get cx cl_X4 fl_X4_28 43 (.int (F 693)) e_X4_tell_78 rfl rfl ?_
      exact hret e_X4_tell_81 (Nat.le_of_ble_eq_true rfl) (Nat.le_of_ble_eq_true rfl) rfl ⟨rfl, (jv_t (F 693)), (hk25.symm.trans hSP)⟩
    · refine g_tableIn cx 82 e_X4_tell_1 (by rw [zw3e]; decide) (by rw [zw3e]; decide) (by rw [zw3e]; rfl) (by decide) ?_
      have p26 : jv 6 6 a0 := by rw [← ezy1]; exact jv_k 6 (by rw [zw3e]; rfl)
      have hk27 := (((((((hk2.trans (if_neg (by rw [zw3e]; decide))).trans (if_neg (by rw [zw3e]; decide))).trans (if_neg (by rw [zw3e]; decide))).trans (if_neg (by rw [zw3e]; decide))).trans (if_neg (by rw [zw3e]; decide))).trans (if_neg (by rw [zw3e]; decide))).trans (if_pos (by rw [zw3e]; decide)))
      refine g_aload_n cx 0 rfl e_X4_tell_82 ?_
      refine g_get cx cl_X4 fl_X4_31 43 (.int (F 694)) e_X4_tell_83 rfl rfl ?_
      exact hret e_X4_tell_86 (Nat.le_of_ble_eq_true rfl) (Nat.le_of_ble_eq_true rfl) rfl ⟨rfl, (jv_t (F 694)), (hk27.symm.trans hSP)⟩
    · refine g_tableIn cx 87 e_X4_tell_1 (by rw [zw3e]; decide) (by rw [zw3e]; decide) (by rw [zw3e]; rfl) (by decide) ?_
      have p28 : jv 7 7 a0 := by rw [← ezy1]; exact jv_k 7 (by rw [zw3e]; rfl)
      have hk29 := ((((((((hk2.trans (if_neg (by rw [zw3e]; decide))).trans (if_neg (by rw [zw3e]; decide))).trans (if_neg (by rw [zw3e]; decide))).trans (if_neg (by rw [zw3e]; decide))).trans (if_neg (by rw [zw3e]; decide))).trans (if_neg (by rw [zw3e]; decide))).trans (if_neg (by rw [zw3e]; decide))).trans (if_pos (by rw [zw3e]; decide)))
      refine g_aload_n cx 0 rfl e_X4_tell_87 ?_
      refine g_get cx cl_X4 fl_X4_34 43 (.int (F 695)) e_X4_tell_88 rfl rfl ?_
      exact hret e_X4_tell_91 (Nat.le_of_ble_eq_true rfl) (Nat.le_of_ble_eq_true rfl) rfl ⟨rfl, (jv_t (F 695)), (hk29.symm.trans hSP)⟩
    · refine g_tableIn cx 92 e_X4_tell_1 (by rw [zw3e]; decide) (by rw [zw3e]; decide) (by rw [zw3e]; rfl) (by decide) ?_
      have p30 : jv 8 8 a0 := by rw [← ezy1]; exact jv_k 8 (by rw [zw3e]; rfl)
      have hk31 := (((((((((hk2.trans (if_neg (by rw [zw3e]; decide))).trans (if_neg (by rw [zw3e]; decide))).trans (if_neg (by rw [zw3e]; decide))).trans (if_neg (by rw [zw3e]; decide))).trans (if_neg (by rw [zw3e]; decide))).trans (if_neg (by rw [zw3e]; decide))).trans (if_neg (by rw [zw3e]; decide))).trans (if_neg (by rw [zw3e]; decide))).trans (if_pos (by rw [zw3e]; decide)))
      refine g_aload_n cx 0 rfl e_X4_tell_92 ?_
      refine g_get cx cl_X4 fl_X4_37 43 (.int (F 696)) e_X4_tell_93 rfl rfl ?_
      exact hret e_X4_tell_96 (Nat.le_of_ble_eq_true rfl) (Nat.le_of_ble_eq_true rfl) rfl ⟨rfl, (jv_t (F 696)), (hk31.symm.trans hSP)⟩
  · refine g_tableOut cx 97 e_X4_tell_1 zw3 (by decide) ?_
    have hk32 := (((((((((hk2.trans (if_neg (by omega))).trans (if_neg (by omega))).trans (if_neg (by omega))).trans (if_neg (by omega))).trans (if_neg (by omega))).trans (if_neg (by omega))).trans (if_neg (by omega))).trans (if_neg (by omega))).trans (if_neg (by omega)))
    refine g_iload_n cx 1 rfl e_X4_tell_97 ?_
    refine g_bipush cx 10 (by decide) e_X4_tell_98 ?_
    refine g_bipush cx 69 (by decide) e_X4_tell_100 ?_
    refine g_cNiW cx [.int a0, .int 10, .int 69] [] (c_X10_within l X (wX X ad F R) a0 10 69) mn_X4_54 yS_X10_within e_X4_tell_102 (by unfold g_rr; decide) (by decide) rfl (Nat.le_of_ble_eq_true rfl) (fun r33 w34 h35 => ?_)
    obtain ⟨rfl, hr33⟩ := h35
    have pr33 : jv 0 1 r33 := by rw [hr33]; exact gi_01 _ _ _
    have hk36 := k_ls hk32 hr33
    have J124 : ∀ (y37 : Int32), (jv (-2147483648) 2147483647 y37) → (SP = K_X4_tell_124 y37) → G X E 2 0 0 (wX X ad F R) [] 124 [.int y37] := by
      intro y37 py37 hkJ124
      unfold K_X4_tell_124 at hkJ124
      exact hret e_X4_tell_124 (Nat.le_of_ble_eq_true rfl) (Nat.le_of_ble_eq_true rfl) rfl ⟨rfl, py37, (hkJ124.symm.trans hSP)⟩
    refine g_if_eq cx 123 e_X4_tell_105 (by decide) (fun zc38 => ?_) (fun zc38 => ?_)
    · have p39 := gn_eq 0 0 (gc_eq zc38) pr33 (jv_k (x := 0) 0 (by decide)) (by decide)
      have hk40 := hk36.trans (if_pos zc38)
      refine g_iconst cx (-1) (by decide) e_X4_tell_123 ?_
      refine g_lsub [] [] rfl ?_
      exact J124 (-1) (jv_w (jv_k (x := (-1)) (-1) (by decide)) (by decide)) hk40
    · have p41 := gn_neL 1 1 (gc_ne zc38) pr33 (jv_k (x := 0) 0 (by decide)) (by decide)
      have p42 := jv_i 10 69 (jv_t a0) (gi_in (A := 10) (B := 69) hr33 zc38 (by decide) (by decide)) (by decide)
      have hk43 := hk36.trans (if_neg zc38)
      refine g_aload_n cx 0 rfl e_X4_tell_108 ?_
      refine g_iload_n cx 1 rfl e_X4_tell_109 ?_
      refine g_bipush cx 10 (by decide) e_X4_tell_110 ?_
      refine g_irem cx (by decide) e_X4_tell_112 ?_
      refine g_topi (fun x44 ex44 => ?_)
      have hk45 := k_ls hk43 ex44
      have zx44 := jv_rem 0 9 ex44 p42 (jv_k (x := 10) 10 (by decide)) (by decide)
      refine g_iload_n cx 1 rfl e_X4_tell_113 ?_
      refine g_bipush cx 10 (by decide) e_X4_tell_114 ?_
      refine g_idiv cx (by decide) e_X4_tell_116 ?_
      refine g_topi (fun x46 ex46 => ?_)
      have hk47 := k_ls hk45 ex46
      have zx46 := jv_div 0 6 ex46 p42 (jv_k (x := 10) 10 (by decide)) (by decide)
      refine g_cViW cx [.int x44, .int x46] [] (w_X4_tellThing l X ad F R hI hA x44 x46) ml_X4_74 yV_X4_tellThing e_X4_tell_117 (by unfold g_rr; decide) (by decide) 43 rfl rfl rfl (Nat.le_of_ble_eq_true rfl) (fun r48 w49 h50 => ?_)
      obtain ⟨rfl, pr48, hx51⟩ := h50
      have hk52 := k_ls hk47 hx51
      refine g_goto cx 124 e_X4_tell_120 (by decide) ?_
      refine g_lsub [] [] rfl ?_
      exact J124 r48 pr48 hk52
def K_X4_isAsTold_r9_62 (b4 : (Int32) → (Int32) → Int32) (y2 : Int32) (y12 : Int32) : Int32 :=
  k_lt (y2 + 1) (fun x13 => b4 y12 x13)
def K_X4_isAsTold_r9_45 (b4 : (Int32) → (Int32) → Int32) (F : Nat → Int32) (R : Nat → Nat → Int32) (y1 : Int32) (y2 : Int32) (y24 : Int32) : Int32 :=
  k_lt (sp_X9_at F R y1) (fun r25 => if r25 = y24 then k_lt (y1 + 1) (fun x32 => K_X4_isAsTold_r9_62 b4 y2 x32) else 0)
def KB_X4_isAsTold_r9_4 (b4 : (Int32) → (Int32) → Int32) (F : Nat → Int32) (R : Nat → Nat → Int32) (y1 : Int32) (y2 : Int32) : Int32 :=
  if 10 ≤ y2 then 1 else k_lt (1 <<< (y2 &&& 31)) (fun x8 => k_lt ((F 691) &&& x8) (fun x10 => if x10 = 0 then K_X4_isAsTold_r9_62 b4 y2 y1 else k_lt (sp_X4_isOver F R y2) (fun r19 => if r19 = 0 then k_lt (R 44 (Int32.toNatClampNeg y2)) (fun x38 => K_X4_isAsTold_r9_45 b4 F R y1 y2 x38) else K_X4_isAsTold_r9_45 b4 F R y1 y2 255)))
def K_X4_isAsTold_r9_4 (F : Nat → Int32) (R : Nat → Nat → Int32) : Nat → (Int32) → (Int32) → Int32
  | 0 => fun _ _ => 0
  | n + 1 => KB_X4_isAsTold_r9_4 (K_X4_isAsTold_r9_4 F R n) F R
def sp_X4_isAsTold_r9 (F : Nat → Int32) (R : Nat → Nat → Int32) : Int32 :=
  K_X4_isAsTold_r9_4 F R 8589934592 0 0
theorem e_X4_isAsTold_0 : g_dc cX4_isAsTold 0 (.iconst 0) 1 1 := ⟨by decide +kernel, rfl⟩
theorem e_X4_isAsTold_1 : g_dc cX4_isAsTold 1 (.istore_n 2) 1 2 := ⟨by decide +kernel, rfl⟩
theorem e_X4_isAsTold_2 : g_dc cX4_isAsTold 2 (.iconst 0) 1 3 := ⟨by decide +kernel, rfl⟩
theorem e_X4_isAsTold_3 : g_dc cX4_isAsTold 3 (.istore_n 3) 1 4 := ⟨by decide +kernel, rfl⟩
theorem e_X4_isAsTold_4 : g_dc cX4_isAsTold 4 (.aload_n 1) 1 5 := ⟨by decide +kernel, rfl⟩
theorem e_X4_isAsTold_5 : g_dc cX4_isAsTold 5 (.ifnull 63) 3 8 := ⟨by decide +kernel, rfl⟩
theorem e_X4_isAsTold_8 : g_dc cX4_isAsTold 8 (.iload_n 3) 1 9 := ⟨by decide +kernel, rfl⟩
theorem e_X4_isAsTold_9 : g_dc cX4_isAsTold 9 (.bipush 10) 2 11 := ⟨by decide +kernel, rfl⟩
theorem e_X4_isAsTold_11 : g_dc cX4_isAsTold 11 (.if_icmp .ge 57) 3 14 := ⟨by decide +kernel, rfl⟩
theorem e_X4_isAsTold_14 : g_dc cX4_isAsTold 14 (.aload_n 0) 1 15 := ⟨by decide +kernel, rfl⟩
theorem e_X4_isAsTold_15 : g_dc cX4_isAsTold 15 (.getfield 21) 3 18 := ⟨by decide +kernel, rfl⟩
theorem e_X4_isAsTold_18 : g_dc cX4_isAsTold 18 (.iconst 1) 1 19 := ⟨by decide +kernel, rfl⟩
theorem e_X4_isAsTold_19 : g_dc cX4_isAsTold 19 (.iload_n 3) 1 20 := ⟨by decide +kernel, rfl⟩
theorem e_X4_isAsTold_20 : g_dc cX4_isAsTold 20 (.ishl) 1 21 := ⟨by decide +kernel, rfl⟩
theorem e_X4_isAsTold_21 : g_dc cX4_isAsTold 21 (.iand) 1 22 := ⟨by decide +kernel, rfl⟩
theorem e_X4_isAsTold_22 : g_dc cX4_isAsTold 22 (.ifCond .eq 40) 3 25 := ⟨by decide +kernel, rfl⟩
theorem e_X4_isAsTold_25 : g_dc cX4_isAsTold 25 (.aload_n 0) 1 26 := ⟨by decide +kernel, rfl⟩
theorem e_X4_isAsTold_26 : g_dc cX4_isAsTold 26 (.iload_n 3) 1 27 := ⟨by decide +kernel, rfl⟩
theorem e_X4_isAsTold_27 : g_dc cX4_isAsTold 27 (.invokevirtual 77) 3 30 := ⟨by decide +kernel, rfl⟩
theorem e_X4_isAsTold_30 : g_dc cX4_isAsTold 30 (.ifCond .eq 9) 3 33 := ⟨by decide +kernel, rfl⟩
theorem e_X4_isAsTold_33 : g_dc cX4_isAsTold 33 (.sipush 255) 3 36 := ⟨by decide +kernel, rfl⟩
theorem e_X4_isAsTold_36 : g_dc cX4_isAsTold 36 (.goto 9) 3 39 := ⟨by decide +kernel, rfl⟩
theorem e_X4_isAsTold_39 : g_dc cX4_isAsTold 39 (.aload_n 0) 1 40 := ⟨by decide +kernel, rfl⟩
theorem e_X4_isAsTold_40 : g_dc cX4_isAsTold 40 (.getfield 9) 3 43 := ⟨by decide +kernel, rfl⟩
theorem e_X4_isAsTold_43 : g_dc cX4_isAsTold 43 (.iload_n 3) 1 44 := ⟨by decide +kernel, rfl⟩
theorem e_X4_isAsTold_44 : g_dc cX4_isAsTold 44 (.iaload) 1 45 := ⟨by decide +kernel, rfl⟩
theorem e_X4_isAsTold_45 : g_dc cX4_isAsTold 45 (.istore 4) 2 47 := ⟨by decide +kernel, rfl⟩
theorem e_X4_isAsTold_47 : g_dc cX4_isAsTold 47 (.aload_n 1) 1 48 := ⟨by decide +kernel, rfl⟩
theorem e_X4_isAsTold_48 : g_dc cX4_isAsTold 48 (.iload_n 2) 1 49 := ⟨by decide +kernel, rfl⟩
theorem e_X4_isAsTold_49 : g_dc cX4_isAsTold 49 (.invokevirtual 81) 3 52 := ⟨by decide +kernel, rfl⟩
theorem e_X4_isAsTold_52 : g_dc cX4_isAsTold 52 (.iload 4) 2 54 := ⟨by decide +kernel, rfl⟩
theorem e_X4_isAsTold_54 : g_dc cX4_isAsTold 54 (.if_icmp .eq 5) 3 57 := ⟨by decide +kernel, rfl⟩
theorem e_X4_isAsTold_57 : g_dc cX4_isAsTold 57 (.iconst 0) 1 58 := ⟨by decide +kernel, rfl⟩
theorem e_X4_isAsTold_58 : g_dc cX4_isAsTold 58 (.ireturn) 1 59 := ⟨by decide +kernel, rfl⟩
theorem e_X4_isAsTold_59 : g_dc cX4_isAsTold 59 (.iinc 2 1) 3 62 := ⟨by decide +kernel, rfl⟩
theorem e_X4_isAsTold_62 : g_dc cX4_isAsTold 62 (.iinc 3 1) 3 65 := ⟨by decide +kernel, rfl⟩
theorem e_X4_isAsTold_65 : g_dc cX4_isAsTold 65 (.goto (-61)) 3 68 := ⟨by decide +kernel, rfl⟩
theorem e_X4_isAsTold_68 : g_dc cX4_isAsTold 68 (.iconst 1) 1 69 := ⟨by decide +kernel, rfl⟩
theorem e_X4_isAsTold_69 : g_dc cX4_isAsTold 69 (.ireturn) 1 70 := ⟨by decide +kernel, rfl⟩
set_option maxHeartbeats 4000000 in
set_option maxRecDepth 100000 in
theorem w_X4_isAsTold_r9 (l : Launch) (X : gX) (ad : Nat → Nat) (F : Nat → Int32) (R : Nat → Nat → Int32) (hI : g_ok LK_wX F) (hA : g_okR LA_wX R) : g_Ci l X yX4_isAsTold cX4_isAsTold 5 (some .boolean) 3 0 0 [.ref (ad 43), .ref (ad 9)] (wX X ad F R) (fun r w => w = wX X ad F R ∧ jv 0 1 r ∧ r = sp_X4_isAsTold_r9 F R) := by
  refine g_mi (by decide +kernel) (Nat.le_of_ble_eq_true rfl) (fun E cx hret => ?_)
  obtain ⟨SP, hSP⟩ : ∃ z, z = sp_X4_isAsTold_r9 F R := ⟨_, rfl⟩
  have hk0 := hSP
  unfold sp_X4_isAsTold_r9 at hk0
  refine g_iconst cx 0 (by decide) e_X4_isAsTold_0 ?_
  refine g_istore_n cx [(2, .int 0), (0, .ref (ad 43)), (1, .ref (ad 9))] e_X4_isAsTold_1 (by decide) rfl ?_
  refine g_iconst cx 0 (by decide) e_X4_isAsTold_2 ?_
  refine g_istore_n cx [(3, .int 0), (2, .int 0), (0, .ref (ad 43)), (1, .ref (ad 9))] e_X4_isAsTold_3 (by decide) rfl ?_
  have J4 : ∀ (N : Nat) (y1 : Int32) (y2 : Int32), (jv (-2147483648) 2147483647 y1) → (jv 0 10 y2) → (SP = K_X4_isAsTold_r9_4 F R N y1 y2) → (2147483647 - y2.toInt).toNat < N → G X E 5 0 0 (wX X ad F R) [(0, .ref (ad 43)), (1, .ref (ad 9)), (2, .int y1), (3, .int y2)] 4 [] := by
    intro N
    induction N with
    | zero => intro y1 y2 py1 py2 hkJ4 hm; exact absurd hm (Nat.not_lt_zero _)
    | succ N ih4 =>
      intro y1 y2 py1 py2 hkJ4 hm4
      have hkK4 : SP = KB_X4_isAsTold_r9_4 (K_X4_isAsTold_r9_4 F R N) F R y1 y2 := hkJ4
      obtain ⟨b4, hb4⟩ : ∃ z, z = K_X4_isAsTold_r9_4 F R N := ⟨_, rfl⟩
      rw [← hb4] at hkK4
      unfold KB_X4_isAsTold_r9_4 at hkK4
      refine g_aload_n cx 1 rfl e_X4_isAsTold_4 ?_
      refine g_ifnull cx e_X4_isAsTold_5 ?_
      refine g_iload_n cx 3 rfl e_X4_isAsTold_8 ?_
      refine g_bipush cx 10 (by decide) e_X4_isAsTold_9 ?_
      refine g_icmp_ge cx 68 e_X4_isAsTold_11 (by decide) (fun zc3 => ?_) (fun zc3 => ?_)
      · have p4 := gn_ge 10 10 (gc_le zc3) py2 (jv_k (x := 10) 10 (by decide)) (by decide)
        have hk5 := hkK4.trans (if_pos zc3)
        refine g_iconst cx 1 (by decide) e_X4_isAsTold_68 ?_
        exact hret e_X4_isAsTold_69 (Nat.le_of_ble_eq_true rfl) (Nat.le_of_ble_eq_true rfl) rfl ⟨rfl, (jv_w (jv_k (x := 1) 1 (by decide)) (by decide)), (hk5.symm.trans hSP)⟩
      · have p6 := gn_lt 0 9 (gc_nle zc3) py2 (jv_k (x := 10) 10 (by decide)) (by decide)
        have hk7 := hkK4.trans (if_neg zc3)
        refine g_aload_n cx 0 rfl e_X4_isAsTold_14 ?_
        refine g_get cx cl_X4 fl_X4_21 43 (.int (F 691)) e_X4_isAsTold_15 rfl rfl ?_
        refine g_iconst cx 1 (by decide) e_X4_isAsTold_18 ?_
        refine g_iload_n cx 3 rfl e_X4_isAsTold_19 ?_
        refine g_ishl cx e_X4_isAsTold_20 ?_
        refine g_topi (fun x8 ex8 => ?_)
        have hk9 := k_ls hk7 ex8
        refine g_iand cx e_X4_isAsTold_21 ?_
        refine g_topi (fun x10 ex10 => ?_)
        have hk11 := k_ls hk9 ex10
        have J62 : ∀ (y12 : Int32), (jv (-2147483648) 2147483647 y12) → (SP = K_X4_isAsTold_r9_62 b4 y2 y12) → G X E 5 0 0 (wX X ad F R) [(0, .ref (ad 43)), (1, .ref (ad 9)), (2, .int y12), (3, .int y2)] 62 [] := by
          intro y12 py12 hkJ62
          unfold K_X4_isAsTold_r9_62 at hkJ62
          obtain ⟨x13, ex13⟩ : ∃ z : Int32, z = y2 + Int32.ofInt 1 := ⟨_, rfl⟩
          have hk14 := k_ls hkJ62 (show x13 = y2 + 1 from ex13)
          refine g_iinc cx x13 [(3, .int x13), (0, .ref (ad 43)), (1, .ref (ad 9)), (2, .int y12)] 3 e_X4_isAsTold_62 rfl ex13.symm (by decide) rfl ?_
          have zx13 := jv_add 1 10 (show x13 = y2 + 1 from ex13) p6 (jv_k (x := 1) 1 (by decide)) (by decide)
          refine g_goto cx 4 e_X4_isAsTold_65 (by decide) ?_
          refine g_lsub [1, 2, 3, 0] [(0, .ref (ad 43)), (1, .ref (ad 9)), (2, .int y12), (3, .int x13)] rfl ?_
          exact ih4 y12 x13 py12 (jv_w zx13.2 (by decide)) (hk14.trans (by rw [hb4])) (Nat.lt_of_lt_of_le (show (2147483647 - x13.toInt).toNat < (2147483647 - y2.toInt).toNat from by have q0 := (jv_k (x := 1) 1 (by decide)).1; have q1 := (jv_k (x := 1) 1 (by decide)).2; have q2 := (jv_k (x := 10) 10 (by decide)).1; have q3 := (jv_k (x := 10) 10 (by decide)).2; have q4 := zx13.2.1; have q5 := zx13.2.2; have q6 := p6.1; have q7 := p6.2; have q8 := (gc_nle zc3); have q9 := (g_eq0 zx13.1); omega) (Nat.le_of_lt_succ hm4))
        refine g_if_eq cx 62 e_X4_isAsTold_22 (by decide) (fun zc15 => ?_) (fun zc15 => ?_)
        · have p16 := gn_eq 0 0 (gc_eq zc15) (jv_t x10) (jv_k (x := 0) 0 (by decide)) (by decide)
          have hk17 := hk11.trans (if_pos zc15)
          exact J62 y1 py1 hk17
        · have hk18 := hk11.trans (if_neg zc15)
          refine g_aload_n cx 0 rfl e_X4_isAsTold_25 ?_
          refine g_iload_n cx 3 rfl e_X4_isAsTold_26 ?_
          refine g_cViW cx [.int y2] [] (w_X4_isOver l X ad F R hI hA y2) ml_X4_77 yV_X4_isOver e_X4_isAsTold_27 (by unfold g_rr; decide) (by decide) 43 rfl rfl rfl (Nat.le_of_ble_eq_true rfl) (fun r19 w20 h21 => ?_)
          obtain ⟨rfl, pr19, hx22⟩ := h21
          have hk23 := k_ls hk18 hx22
          have J45 : ∀ (y24 : Int32), (jv (-2147483648) 2147483647 y24) → (SP = K_X4_isAsTold_r9_45 b4 F R y1 y2 y24) → G X E 5 0 0 (wX X ad F R) [(0, .ref (ad 43)), (1, .ref (ad 9)), (2, .int y1), (3, .int y2)] 45 [.int y24] := by
            intro y24 py24 hkJ45
            unfold K_X4_isAsTold_r9_45 at hkJ45
            refine g_istore cx [(4, .int y24), (0, .ref (ad 43)), (1, .ref (ad 9)), (2, .int y1), (3, .int y2)] e_X4_isAsTold_45 (by decide) rfl ?_
            refine g_aload_n cx 2 rfl e_X4_isAsTold_47 ?_
            refine g_iload_n cx 3 rfl e_X4_isAsTold_48 ?_
            refine g_cViW cx [.int y1] [] (w_X9_at l X ad F R hI hA y1) ml_X4_81 yV_X9_at e_X4_isAsTold_49 (by unfold g_rr; decide) (by decide) 9 rfl rfl rfl (Nat.le_of_ble_eq_true rfl) (fun r25 w26 h27 => ?_)
            obtain ⟨rfl, pr25, hx28⟩ := h27
            have hk29 := k_ls hkJ45 hx28
            refine g_iload cx 0 rfl e_X4_isAsTold_52 ?_
            refine g_icmp_eq cx 59 e_X4_isAsTold_54 (by decide) (fun zc30 => ?_) (fun zc30 => ?_)
            · have hk31 := hk29.trans (if_pos zc30)
              obtain ⟨x32, ex32⟩ : ∃ z : Int32, z = y1 + Int32.ofInt 1 := ⟨_, rfl⟩
              have hk33 := k_ls hk31 (show x32 = y1 + 1 from ex32)
              refine g_iinc cx x32 [(2, .int x32), (4, .int y24), (0, .ref (ad 43)), (1, .ref (ad 9)), (3, .int y2)] 3 e_X4_isAsTold_59 rfl ex32.symm (by decide) rfl ?_
              refine g_lsub [2, 3, 0, 4] [(0, .ref (ad 43)), (1, .ref (ad 9)), (2, .int x32), (3, .int y2)] rfl ?_
              exact J62 x32 (jv_t x32) hk33
            · have hk34 := hk29.trans (if_neg zc30)
              refine g_iconst cx 0 (by decide) e_X4_isAsTold_57 ?_
              exact hret e_X4_isAsTold_58 (Nat.le_of_ble_eq_true rfl) (Nat.le_of_ble_eq_true rfl) rfl ⟨rfl, (jv_w (jv_k (x := 0) 0 (by decide)) (by decide)), (hk34.symm.trans hSP)⟩
          refine g_if_eq cx 39 e_X4_isAsTold_30 (by decide) (fun zc35 => ?_) (fun zc35 => ?_)
          · have p36 := gn_eq 0 0 (gc_eq zc35) pr19 (jv_k (x := 0) 0 (by decide)) (by decide)
            have hk37 := hk23.trans (if_pos zc35)
            refine g_aload_n cx 0 rfl e_X4_isAsTold_39 ?_
            refine g_get cx cl_X4 fl_X4_9 43 (.ref (ad 44)) e_X4_isAsTold_40 rfl rfl ?_
            refine g_iload_n cx 3 rfl e_X4_isAsTold_43 ?_
            refine g_iald cx 44 e_X4_isAsTold_44 rfl (jv_ix 10 p6 (by decide)) ?_
            refine g_topi (fun x38 ex38 => ?_)
            have hk39 := k_ls hk37 ex38
            exact J45 x38 (jv_t x38) hk39
          · have p40 := gn_neL 1 1 (gc_ne zc35) pr19 (jv_k (x := 0) 0 (by decide)) (by decide)
            have hk41 := hk23.trans (if_neg zc35)
            refine g_sipush cx 255 (by decide) e_X4_isAsTold_33 ?_
            refine g_goto cx 45 e_X4_isAsTold_36 (by decide) ?_
            exact J45 255 (jv_w (jv_k (x := 255) 255 (by decide)) (by decide)) hk41
  refine g_lsub [2, 3, 1, 0] [(0, .ref (ad 43)), (1, .ref (ad 9)), (2, .int 0), (3, .int 0)] rfl ?_
  exact J4 8589934592 0 0 (jv_w (jv_k (x := 0) 0 (by decide)) (by decide)) (jv_w (jv_k (x := 0) 0 (by decide)) (by decide)) hk0 (show (2147483647 - (0 : Int32).toInt).toNat < 8589934592 from by have q0 := (jv_k (x := 0) 0 (by decide)).1; have q1 := (jv_k (x := 0) 0 (by decide)).2; omega)
def K_X4_loss_r5_45 (b4 : (Int32) → (Int32) → Int32) (y2 : Int32) (y16 : Int32) : Int32 :=
  k_lt (y2 + 1) (fun x17 => b4 y16 x17)
def KB_X4_loss_r5_4 (b4 : (Int32) → (Int32) → Int32) (F : Nat → Int32) (R : Nat → Nat → Int32) (y1 : Int32) (y2 : Int32) : Int32 :=
  if 10 ≤ y2 then y1 else k_lt ((F 692) ||| (F 693)) (fun x8 => k_lt ((F 691) &&& x8) (fun x10 => k_lt (1 <<< (y2 &&& 31)) (fun x12 => k_lt (x10 &&& x12) (fun x14 => if x14 = 0 then K_X4_loss_r5_45 b4 y2 y1 else k_lt (sp_X8_side_5 F R y2 7) (fun r23 => k_lt (y1 + r23) (fun x28 => K_X4_loss_r5_45 b4 y2 x28))))))
def K_X4_loss_r5_4 (F : Nat → Int32) (R : Nat → Nat → Int32) : Nat → (Int32) → (Int32) → Int32
  | 0 => fun _ _ => 0
  | n + 1 => KB_X4_loss_r5_4 (K_X4_loss_r5_4 F R n) F R
def sp_X4_loss_r5 (F : Nat → Int32) (R : Nat → Nat → Int32) : Int32 :=
  K_X4_loss_r5_4 F R 8589934592 0 0
theorem e_X4_loss_0 : g_dc cX4_loss 0 (.iconst 0) 1 1 := ⟨by decide +kernel, rfl⟩
theorem e_X4_loss_1 : g_dc cX4_loss 1 (.istore_n 2) 1 2 := ⟨by decide +kernel, rfl⟩
theorem e_X4_loss_2 : g_dc cX4_loss 2 (.iconst 0) 1 3 := ⟨by decide +kernel, rfl⟩
theorem e_X4_loss_3 : g_dc cX4_loss 3 (.istore_n 3) 1 4 := ⟨by decide +kernel, rfl⟩
theorem e_X4_loss_4 : g_dc cX4_loss 4 (.aload_n 1) 1 5 := ⟨by decide +kernel, rfl⟩
theorem e_X4_loss_5 : g_dc cX4_loss 5 (.ifnull 46) 3 8 := ⟨by decide +kernel, rfl⟩
theorem e_X4_loss_8 : g_dc cX4_loss 8 (.iload_n 3) 1 9 := ⟨by decide +kernel, rfl⟩
theorem e_X4_loss_9 : g_dc cX4_loss 9 (.bipush 10) 2 11 := ⟨by decide +kernel, rfl⟩
theorem e_X4_loss_11 : g_dc cX4_loss 11 (.if_icmp .ge 40) 3 14 := ⟨by decide +kernel, rfl⟩
theorem e_X4_loss_14 : g_dc cX4_loss 14 (.aload_n 0) 1 15 := ⟨by decide +kernel, rfl⟩
theorem e_X4_loss_15 : g_dc cX4_loss 15 (.getfield 21) 3 18 := ⟨by decide +kernel, rfl⟩
theorem e_X4_loss_18 : g_dc cX4_loss 18 (.aload_n 0) 1 19 := ⟨by decide +kernel, rfl⟩
theorem e_X4_loss_19 : g_dc cX4_loss 19 (.getfield 25) 3 22 := ⟨by decide +kernel, rfl⟩
theorem e_X4_loss_22 : g_dc cX4_loss 22 (.aload_n 0) 1 23 := ⟨by decide +kernel, rfl⟩
theorem e_X4_loss_23 : g_dc cX4_loss 23 (.getfield 28) 3 26 := ⟨by decide +kernel, rfl⟩
theorem e_X4_loss_26 : g_dc cX4_loss 26 (.ior) 1 27 := ⟨by decide +kernel, rfl⟩
theorem e_X4_loss_27 : g_dc cX4_loss 27 (.iand) 1 28 := ⟨by decide +kernel, rfl⟩
theorem e_X4_loss_28 : g_dc cX4_loss 28 (.iconst 1) 1 29 := ⟨by decide +kernel, rfl⟩
theorem e_X4_loss_29 : g_dc cX4_loss 29 (.iload_n 3) 1 30 := ⟨by decide +kernel, rfl⟩
theorem e_X4_loss_30 : g_dc cX4_loss 30 (.ishl) 1 31 := ⟨by decide +kernel, rfl⟩
theorem e_X4_loss_31 : g_dc cX4_loss 31 (.iand) 1 32 := ⟨by decide +kernel, rfl⟩
theorem e_X4_loss_32 : g_dc cX4_loss 32 (.ifCond .eq 13) 3 35 := ⟨by decide +kernel, rfl⟩
theorem e_X4_loss_35 : g_dc cX4_loss 35 (.iload_n 2) 1 36 := ⟨by decide +kernel, rfl⟩
theorem e_X4_loss_36 : g_dc cX4_loss 36 (.aload_n 1) 1 37 := ⟨by decide +kernel, rfl⟩
theorem e_X4_loss_37 : g_dc cX4_loss 37 (.iload_n 3) 1 38 := ⟨by decide +kernel, rfl⟩
theorem e_X4_loss_38 : g_dc cX4_loss 38 (.bipush 7) 2 40 := ⟨by decide +kernel, rfl⟩
theorem e_X4_loss_40 : g_dc cX4_loss 40 (.invokevirtual 46) 3 43 := ⟨by decide +kernel, rfl⟩
theorem e_X4_loss_43 : g_dc cX4_loss 43 (.iadd) 1 44 := ⟨by decide +kernel, rfl⟩
theorem e_X4_loss_44 : g_dc cX4_loss 44 (.istore_n 2) 1 45 := ⟨by decide +kernel, rfl⟩
theorem e_X4_loss_45 : g_dc cX4_loss 45 (.iinc 3 1) 3 48 := ⟨by decide +kernel, rfl⟩
theorem e_X4_loss_48 : g_dc cX4_loss 48 (.goto (-44)) 3 51 := ⟨by decide +kernel, rfl⟩
theorem e_X4_loss_51 : g_dc cX4_loss 51 (.iload_n 2) 1 52 := ⟨by decide +kernel, rfl⟩
theorem e_X4_loss_52 : g_dc cX4_loss 52 (.ireturn) 1 53 := ⟨by decide +kernel, rfl⟩
set_option maxHeartbeats 4000000 in
set_option maxRecDepth 100000 in
theorem w_X4_loss_r5 (l : Launch) (X : gX) (ad : Nat → Nat) (F : Nat → Int32) (R : Nat → Nat → Int32) (hI : g_ok LK_wX F) (hA : g_okR LA_wX R) : g_Ci l X yX4_loss cX4_loss 4 (some .int) 3 0 0 [.ref (ad 43), .ref (ad 5)] (wX X ad F R) (fun r w => w = wX X ad F R ∧ jv (-2147483648) 2147483647 r ∧ r = sp_X4_loss_r5 F R) := by
  refine g_mi (by decide +kernel) (Nat.le_of_ble_eq_true rfl) (fun E cx hret => ?_)
  obtain ⟨SP, hSP⟩ : ∃ z, z = sp_X4_loss_r5 F R := ⟨_, rfl⟩
  have hk0 := hSP
  unfold sp_X4_loss_r5 at hk0
  refine g_iconst cx 0 (by decide) e_X4_loss_0 ?_
  refine g_istore_n cx [(2, .int 0), (0, .ref (ad 43)), (1, .ref (ad 5))] e_X4_loss_1 (by decide) rfl ?_
  refine g_iconst cx 0 (by decide) e_X4_loss_2 ?_
  refine g_istore_n cx [(3, .int 0), (2, .int 0), (0, .ref (ad 43)), (1, .ref (ad 5))] e_X4_loss_3 (by decide) rfl ?_
  have J4 : ∀ (N : Nat) (y1 : Int32) (y2 : Int32), (jv (-2147483648) 2147483647 y1) → (jv 0 10 y2) → (SP = K_X4_loss_r5_4 F R N y1 y2) → (2147483647 - y2.toInt).toNat < N → G X E 4 0 0 (wX X ad F R) [(0, .ref (ad 43)), (1, .ref (ad 5)), (2, .int y1), (3, .int y2)] 4 [] := by
    intro N
    induction N with
    | zero => intro y1 y2 py1 py2 hkJ4 hm; exact absurd hm (Nat.not_lt_zero _)
    | succ N ih4 =>
      intro y1 y2 py1 py2 hkJ4 hm4
      have hkK4 : SP = KB_X4_loss_r5_4 (K_X4_loss_r5_4 F R N) F R y1 y2 := hkJ4
      obtain ⟨b4, hb4⟩ : ∃ z, z = K_X4_loss_r5_4 F R N := ⟨_, rfl⟩
      rw [← hb4] at hkK4
      unfold KB_X4_loss_r5_4 at hkK4
      refine g_aload_n cx 1 rfl e_X4_loss_4 ?_
      refine g_ifnull cx e_X4_loss_5 ?_
      refine g_iload_n cx 3 rfl e_X4_loss_8 ?_
      refine g_bipush cx 10 (by decide) e_X4_loss_9 ?_
      refine g_icmp_ge cx 51 e_X4_loss_11 (by decide) (fun zc3 => ?_) (fun zc3 => ?_)
      · have p4 := gn_ge 10 10 (gc_le zc3) py2 (jv_k (x := 10) 10 (by decide)) (by decide)
        have hk5 := hkK4.trans (if_pos zc3)
        refine g_iload_n cx 2 rfl e_X4_loss_51 ?_
        exact hret e_X4_loss_52 (Nat.le_of_ble_eq_true rfl) (Nat.le_of_ble_eq_true rfl) rfl ⟨rfl, py1, (hk5.symm.trans hSP)⟩
      · have p6 := gn_lt 0 9 (gc_nle zc3) py2 (jv_k (x := 10) 10 (by decide)) (by decide)
        have hk7 := hkK4.trans (if_neg zc3)
        refine g_aload_n cx 0 rfl e_X4_loss_14 ?_
        refine g_get cx cl_X4 fl_X4_21 43 (.int (F 691)) e_X4_loss_15 rfl rfl ?_
        refine g_aload_n cx 0 rfl e_X4_loss_18 ?_
        refine g_get cx cl_X4 fl_X4_25 43 (.int (F 692)) e_X4_loss_19 rfl rfl ?_
        refine g_aload_n cx 0 rfl e_X4_loss_22 ?_
        refine g_get cx cl_X4 fl_X4_28 43 (.int (F 693)) e_X4_loss_23 rfl rfl ?_
        refine g_ior cx e_X4_loss_26 ?_
        refine g_topi (fun x8 ex8 => ?_)
        have hk9 := k_ls hk7 ex8
        refine g_iand cx e_X4_loss_27 ?_
        refine g_topi (fun x10 ex10 => ?_)
        have hk11 := k_ls hk9 ex10
        refine g_iconst cx 1 (by decide) e_X4_loss_28 ?_
        refine g_iload_n cx 3 rfl e_X4_loss_29 ?_
        refine g_ishl cx e_X4_loss_30 ?_
        refine g_topi (fun x12 ex12 => ?_)
        have hk13 := k_ls hk11 ex12
        refine g_iand cx e_X4_loss_31 ?_
        refine g_topi (fun x14 ex14 => ?_)
        have hk15 := k_ls hk13 ex14
        have J45 : ∀ (y16 : Int32), (jv (-2147483648) 2147483647 y16) → (SP = K_X4_loss_r5_45 b4 y2 y16) → G X E 4 0 0 (wX X ad F R) [(0, .ref (ad 43)), (1, .ref (ad 5)), (2, .int y16), (3, .int y2)] 45 [] := by
          intro y16 py16 hkJ45
          unfold K_X4_loss_r5_45 at hkJ45
          obtain ⟨x17, ex17⟩ : ∃ z : Int32, z = y2 + Int32.ofInt 1 := ⟨_, rfl⟩
          have hk18 := k_ls hkJ45 (show x17 = y2 + 1 from ex17)
          refine g_iinc cx x17 [(3, .int x17), (0, .ref (ad 43)), (1, .ref (ad 5)), (2, .int y16)] 3 e_X4_loss_45 rfl ex17.symm (by decide) rfl ?_
          have zx17 := jv_add 1 10 (show x17 = y2 + 1 from ex17) p6 (jv_k (x := 1) 1 (by decide)) (by decide)
          refine g_goto cx 4 e_X4_loss_48 (by decide) ?_
          refine g_lsub [1, 2, 3, 0] [(0, .ref (ad 43)), (1, .ref (ad 5)), (2, .int y16), (3, .int x17)] rfl ?_
          exact ih4 y16 x17 py16 (jv_w zx17.2 (by decide)) (hk18.trans (by rw [hb4])) (Nat.lt_of_lt_of_le (show (2147483647 - x17.toInt).toNat < (2147483647 - y2.toInt).toNat from by have q0 := (jv_k (x := 1) 1 (by decide)).1; have q1 := (jv_k (x := 1) 1 (by decide)).2; have q2 := (jv_k (x := 10) 10 (by decide)).1; have q3 := (jv_k (x := 10) 10 (by decide)).2; have q4 := zx17.2.1; have q5 := zx17.2.2; have q6 := p6.1; have q7 := p6.2; have q8 := (gc_nle zc3); have q9 := (g_eq0 zx17.1); omega) (Nat.le_of_lt_succ hm4))
        refine g_if_eq cx 45 e_X4_loss_32 (by decide) (fun zc19 => ?_) (fun zc19 => ?_)
        · have p20 := gn_eq 0 0 (gc_eq zc19) (jv_t x14) (jv_k (x := 0) 0 (by decide)) (by decide)
          have hk21 := hk15.trans (if_pos zc19)
          exact J45 y1 py1 hk21
        · have hk22 := hk15.trans (if_neg zc19)
          refine g_iload_n cx 2 rfl e_X4_loss_35 ?_
          refine g_aload_n cx 1 rfl e_X4_loss_36 ?_
          refine g_iload_n cx 3 rfl e_X4_loss_37 ?_
          refine g_bipush cx 7 (by decide) e_X4_loss_38 ?_
          refine g_cViW cx [.int y2, .int 7] [.int y1] (w_X8_side_5 l X ad F R hI hA y2 7) ml_X4_46 yV_X8_side e_X4_loss_40 (by unfold g_rr; decide) (by decide) 5 rfl rfl rfl (Nat.le_of_ble_eq_true rfl) (fun r23 w24 h25 => ?_)
          obtain ⟨rfl, pr23, hx26⟩ := h25
          have hk27 := k_ls hk22 hx26
          refine g_iadd cx e_X4_loss_43 ?_
          refine g_topi (fun x28 ex28 => ?_)
          have hk29 := k_ls hk27 ex28
          refine g_istore_n cx [(2, .int x28), (0, .ref (ad 43)), (1, .ref (ad 5)), (3, .int y2)] e_X4_loss_44 (by decide) rfl ?_
          refine g_lsub [1, 2, 0, 3] [(0, .ref (ad 43)), (1, .ref (ad 5)), (2, .int x28), (3, .int y2)] rfl ?_
          exact J45 x28 (jv_t x28) hk29
  refine g_lsub [2, 3, 1, 0] [(0, .ref (ad 43)), (1, .ref (ad 5)), (2, .int 0), (3, .int 0)] rfl ?_
  exact J4 8589934592 0 0 (jv_w (jv_k (x := 0) 0 (by decide)) (by decide)) (jv_w (jv_k (x := 0) 0 (by decide)) (by decide)) hk0 (show (2147483647 - (0 : Int32).toInt).toNat < 8589934592 from by have q0 := (jv_k (x := 0) 0 (by decide)).1; have q1 := (jv_k (x := 0) 0 (by decide)).2; omega)
def K_X4_leave_r1_80 (b7 : (Nat → Int32) → (Nat → Nat → Int32) → (Int32) → (Nat → Int32) × (Nat → Nat → Int32)) (y1 : Int32) (F16 : Nat → Int32) (R17 : Nat → Nat → Int32) : (Nat → Int32) × (Nat → Nat → Int32) :=
  k_lt (y1 + 1) (fun x18 => b7 F16 R17 x18)
def KB_X4_leave_r1_7 (b7 : (Nat → Int32) → (Nat → Nat → Int32) → (Int32) → (Nat → Int32) × (Nat → Nat → Int32)) (F : Nat → Int32) (F2 : Nat → Int32) (R3 : Nat → Nat → Int32) (y1 : Int32) : (Nat → Int32) × (Nat → Nat → Int32) :=
  if 10 ≤ y1 then k_lt (upd F2 17 (F 698)) (fun F7 => (F7, R3)) else k_lt (sp_X4_isOver F2 R3 y1) (fun r11 => if r11 = 0 then k_lt (sp_X8_has_1 F2 R3 y1) (fun r23 => if r23 = 0 then K_X4_leave_r1_80 b7 y1 F2 R3 else k_lt (R3 44 (Int32.toNatClampNeg y1)) (fun x33 => k_lt2 (sp_X8_change_1 F2 R3 y1 1 x33) (fun F39 R40 => k_lt (R40 45 (Int32.toNatClampNeg y1)) (fun x42 => k_lt2 (sp_X8_change_1 F39 R40 y1 6 x42) (fun F48 R49 => k_lt (1 <<< (y1 &&& 31)) (fun x51 => k_lt ((F 692) &&& x51) (fun x53 => if x53 = 0 then K_X4_leave_r1_80 b7 y1 F48 R49 else k_lt2 (sp_X8_change_1 F48 R49 y1 3 1) (fun F63 R64 => K_X4_leave_r1_80 b7 y1 F63 R64)))))))) else k_lt2 (sp_X8_take_1 F2 R3 y1) (fun F72 R73 => K_X4_leave_r1_80 b7 y1 F72 R73))
def K_X4_leave_r1_7 (F : Nat → Int32) : Nat → (Nat → Int32) → (Nat → Nat → Int32) → (Int32) → (Nat → Int32) × (Nat → Nat → Int32)
  | 0 => fun F2 R3 _ => (F2, R3)
  | n + 1 => KB_X4_leave_r1_7 (K_X4_leave_r1_7 F n) F
def sp_X4_leave_r1 (F : Nat → Int32) (R : Nat → Nat → Int32) : (Nat → Int32) × (Nat → Nat → Int32) :=
  K_X4_leave_r1_7 F 8589934592 F R 0
theorem e_X4_leave_0 : g_dc cX4_leave 0 (.aload_n 1) 1 1 := ⟨by decide +kernel, rfl⟩
theorem e_X4_leave_1 : g_dc cX4_leave 1 (.ifnonnull 4) 3 4 := ⟨by decide +kernel, rfl⟩
theorem e_X4_leave_5 : g_dc cX4_leave 5 (.iconst 0) 1 6 := ⟨by decide +kernel, rfl⟩
theorem e_X4_leave_6 : g_dc cX4_leave 6 (.istore_n 2) 1 7 := ⟨by decide +kernel, rfl⟩
theorem e_X4_leave_7 : g_dc cX4_leave 7 (.iload_n 2) 1 8 := ⟨by decide +kernel, rfl⟩
theorem e_X4_leave_8 : g_dc cX4_leave 8 (.bipush 10) 2 10 := ⟨by decide +kernel, rfl⟩
theorem e_X4_leave_10 : g_dc cX4_leave 10 (.if_icmp .ge 76) 3 13 := ⟨by decide +kernel, rfl⟩
theorem e_X4_leave_13 : g_dc cX4_leave 13 (.aload_n 0) 1 14 := ⟨by decide +kernel, rfl⟩
theorem e_X4_leave_14 : g_dc cX4_leave 14 (.iload_n 2) 1 15 := ⟨by decide +kernel, rfl⟩
theorem e_X4_leave_15 : g_dc cX4_leave 15 (.invokevirtual 77) 3 18 := ⟨by decide +kernel, rfl⟩
theorem e_X4_leave_18 : g_dc cX4_leave 18 (.ifCond .eq 11) 3 21 := ⟨by decide +kernel, rfl⟩
theorem e_X4_leave_21 : g_dc cX4_leave 21 (.aload_n 1) 1 22 := ⟨by decide +kernel, rfl⟩
theorem e_X4_leave_22 : g_dc cX4_leave 22 (.iload_n 2) 1 23 := ⟨by decide +kernel, rfl⟩
theorem e_X4_leave_23 : g_dc cX4_leave 23 (.invokevirtual 86) 3 26 := ⟨by decide +kernel, rfl⟩
theorem e_X4_leave_26 : g_dc cX4_leave 26 (.goto 54) 3 29 := ⟨by decide +kernel, rfl⟩
theorem e_X4_leave_29 : g_dc cX4_leave 29 (.aload_n 1) 1 30 := ⟨by decide +kernel, rfl⟩
theorem e_X4_leave_30 : g_dc cX4_leave 30 (.iload_n 2) 1 31 := ⟨by decide +kernel, rfl⟩
theorem e_X4_leave_31 : g_dc cX4_leave 31 (.invokevirtual 90) 3 34 := ⟨by decide +kernel, rfl⟩
theorem e_X4_leave_34 : g_dc cX4_leave 34 (.ifCond .eq 46) 3 37 := ⟨by decide +kernel, rfl⟩
theorem e_X4_leave_37 : g_dc cX4_leave 37 (.aload_n 1) 1 38 := ⟨by decide +kernel, rfl⟩
theorem e_X4_leave_38 : g_dc cX4_leave 38 (.iload_n 2) 1 39 := ⟨by decide +kernel, rfl⟩
theorem e_X4_leave_39 : g_dc cX4_leave 39 (.iconst 1) 1 40 := ⟨by decide +kernel, rfl⟩
theorem e_X4_leave_40 : g_dc cX4_leave 40 (.aload_n 0) 1 41 := ⟨by decide +kernel, rfl⟩
theorem e_X4_leave_41 : g_dc cX4_leave 41 (.getfield 9) 3 44 := ⟨by decide +kernel, rfl⟩
theorem e_X4_leave_44 : g_dc cX4_leave 44 (.iload_n 2) 1 45 := ⟨by decide +kernel, rfl⟩
theorem e_X4_leave_45 : g_dc cX4_leave 45 (.iaload) 1 46 := ⟨by decide +kernel, rfl⟩
theorem e_X4_leave_46 : g_dc cX4_leave 46 (.invokevirtual 93) 3 49 := ⟨by decide +kernel, rfl⟩
theorem e_X4_leave_49 : g_dc cX4_leave 49 (.aload_n 1) 1 50 := ⟨by decide +kernel, rfl⟩
theorem e_X4_leave_50 : g_dc cX4_leave 50 (.iload_n 2) 1 51 := ⟨by decide +kernel, rfl⟩
theorem e_X4_leave_51 : g_dc cX4_leave 51 (.bipush 6) 2 53 := ⟨by decide +kernel, rfl⟩
theorem e_X4_leave_53 : g_dc cX4_leave 53 (.aload_n 0) 1 54 := ⟨by decide +kernel, rfl⟩
theorem e_X4_leave_54 : g_dc cX4_leave 54 (.getfield 15) 3 57 := ⟨by decide +kernel, rfl⟩
theorem e_X4_leave_57 : g_dc cX4_leave 57 (.iload_n 2) 1 58 := ⟨by decide +kernel, rfl⟩
theorem e_X4_leave_58 : g_dc cX4_leave 58 (.iaload) 1 59 := ⟨by decide +kernel, rfl⟩
theorem e_X4_leave_59 : g_dc cX4_leave 59 (.invokevirtual 93) 3 62 := ⟨by decide +kernel, rfl⟩
theorem e_X4_leave_62 : g_dc cX4_leave 62 (.aload_n 0) 1 63 := ⟨by decide +kernel, rfl⟩
theorem e_X4_leave_63 : g_dc cX4_leave 63 (.getfield 25) 3 66 := ⟨by decide +kernel, rfl⟩
theorem e_X4_leave_66 : g_dc cX4_leave 66 (.iconst 1) 1 67 := ⟨by decide +kernel, rfl⟩
theorem e_X4_leave_67 : g_dc cX4_leave 67 (.iload_n 2) 1 68 := ⟨by decide +kernel, rfl⟩
theorem e_X4_leave_68 : g_dc cX4_leave 68 (.ishl) 1 69 := ⟨by decide +kernel, rfl⟩
theorem e_X4_leave_69 : g_dc cX4_leave 69 (.iand) 1 70 := ⟨by decide +kernel, rfl⟩
theorem e_X4_leave_70 : g_dc cX4_leave 70 (.ifCond .eq 10) 3 73 := ⟨by decide +kernel, rfl⟩
theorem e_X4_leave_73 : g_dc cX4_leave 73 (.aload_n 1) 1 74 := ⟨by decide +kernel, rfl⟩
theorem e_X4_leave_74 : g_dc cX4_leave 74 (.iload_n 2) 1 75 := ⟨by decide +kernel, rfl⟩
theorem e_X4_leave_75 : g_dc cX4_leave 75 (.iconst 3) 1 76 := ⟨by decide +kernel, rfl⟩
theorem e_X4_leave_76 : g_dc cX4_leave 76 (.iconst 1) 1 77 := ⟨by decide +kernel, rfl⟩
theorem e_X4_leave_77 : g_dc cX4_leave 77 (.invokevirtual 93) 3 80 := ⟨by decide +kernel, rfl⟩
theorem e_X4_leave_80 : g_dc cX4_leave 80 (.iinc 2 1) 3 83 := ⟨by decide +kernel, rfl⟩
theorem e_X4_leave_83 : g_dc cX4_leave 83 (.goto (-76)) 3 86 := ⟨by decide +kernel, rfl⟩
theorem e_X4_leave_86 : g_dc cX4_leave 86 (.aload_n 1) 1 87 := ⟨by decide +kernel, rfl⟩
theorem e_X4_leave_87 : g_dc cX4_leave 87 (.aload_n 0) 1 88 := ⟨by decide +kernel, rfl⟩
theorem e_X4_leave_88 : g_dc cX4_leave 88 (.getfield 43) 3 91 := ⟨by decide +kernel, rfl⟩
theorem e_X4_leave_91 : g_dc cX4_leave 91 (.putfield 53) 3 94 := ⟨by decide +kernel, rfl⟩
theorem e_X4_leave_94 : g_dc cX4_leave 94 (.return_) 1 95 := ⟨by decide +kernel, rfl⟩
def md_X4_leave_r1 : List Nat := [17, 19]
def mr_X4_leave_r1 : List Nat := [2]
set_option maxHeartbeats 4000000 in
set_option maxRecDepth 100000 in
theorem w_X4_leave_r1 (l : Launch) (X : gX) (ad : Nat → Nat) (F : Nat → Int32) (R : Nat → Nat → Int32) (hI : g_ok LK_wX F) (hA : g_okR LA_wX R) : g_Cv l X yX4_leave cX4_leave 3 3 0 0 [.ref (ad 43), .ref (ad 1)] (wX X ad F R) (fun w => ∃ (F' : Nat → Int32) (R' : Nat → Nat → Int32), w = wX X ad F' R' ∧ g_ok LK_wX F' ∧ g_okR LA_wX R' ∧ g_fr md_X4_leave_r1 F F' ∧ g_fr mr_X4_leave_r1 R R' ∧ (F', R') = sp_X4_leave_r1 F R) := by
  refine g_mv (by decide +kernel) (Nat.le_of_ble_eq_true rfl) (fun E cx hret => ?_)
  obtain ⟨SP, hSP⟩ : ∃ z, z = sp_X4_leave_r1 F R := ⟨_, rfl⟩
  have hk0 := hSP
  unfold sp_X4_leave_r1 at hk0
  refine g_aload_n cx 1 rfl e_X4_leave_0 ?_
  refine g_ifnonnull cx 5 e_X4_leave_1 (by decide) ?_
  refine g_iconst cx 0 (by decide) e_X4_leave_5 ?_
  refine g_istore_n cx [(2, .int 0), (0, .ref (ad 43)), (1, .ref (ad 1))] e_X4_leave_6 (by decide) rfl ?_
  have J7 : ∀ (N : Nat) (F2 : Nat → Int32) (R3 : Nat → Nat → Int32) (y1 : Int32), (g_ok LK_wX F2) → (g_fr md_X4_leave_r1 F F2) → (g_okR LA_wX R3) → (g_fr mr_X4_leave_r1 R R3) → (jv 0 10 y1) → (SP = K_X4_leave_r1_7 F N F2 R3 y1) → (2147483647 - y1.toInt).toNat < N → G X E 3 0 0 (wX X ad F2 R3) [(0, .ref (ad 43)), (1, .ref (ad 1)), (2, .int y1)] 7 [] := by
    intro N
    induction N with
    | zero => intro F2 R3 y1 oF2 fF2 oR3 fR3 py1 hkJ7 hm; exact absurd hm (Nat.not_lt_zero _)
    | succ N ih7 =>
      intro F2 R3 y1 oF2 fF2 oR3 fR3 py1 hkJ7 hm7
      have hkK7 : SP = KB_X4_leave_r1_7 (K_X4_leave_r1_7 F N) F F2 R3 y1 := hkJ7
      obtain ⟨b7, hb7⟩ : ∃ z, z = K_X4_leave_r1_7 F N := ⟨_, rfl⟩
      rw [← hb7] at hkK7
      unfold KB_X4_leave_r1_7 at hkK7
      refine g_iload_n cx 2 rfl e_X4_leave_7 ?_
      refine g_bipush cx 10 (by decide) e_X4_leave_8 ?_
      refine g_icmp_ge cx 86 e_X4_leave_10 (by decide) (fun zc4 => ?_) (fun zc4 => ?_)
      · have p5 := gn_ge 10 10 (gc_le zc4) py1 (jv_k (x := 10) 10 (by decide)) (by decide)
        have hk6 := hkK7.trans (if_pos zc4)
        refine g_aload_n cx 1 rfl e_X4_leave_86 ?_
        refine g_aload_n cx 0 rfl e_X4_leave_87 ?_
        refine g_get cx cl_X4 fl_X4_43 43 (.int (F2 698)) e_X4_leave_88 rfl rfl ?_
        refine g_toi (F 698) (fF2 698 rfl) ?_
        refine g_putN cx cl_X8 fn_X4_53 1 (wX X ad (upd F2 17 (F 698)) R3) e_X4_leave_91 rfl rfl rfl rfl (Nat.le_of_ble_eq_true rfl) rfl ?_
        obtain ⟨F7, hF7⟩ : ∃ z, z = upd F2 17 (F 698) := ⟨_, rfl⟩
        rw [← hF7]
        have hk8 := k_ls hk6 hF7
        have oF7 : g_ok LK_wX F7 := by rw [hF7]; exact g_ok_u oF2 rfl
        have fF7 : g_fr md_X4_leave_r1 F F7 := by rw [hF7]; exact g_fr_u fF2 rfl
        exact hret e_X4_leave_94 (Nat.le_of_ble_eq_true rfl) (Nat.le_of_ble_eq_true rfl) ⟨F7, R3, rfl, oF7, oR3, fF7, fR3, (hk8.symm.trans hSP)⟩
      · have p9 := gn_lt 0 9 (gc_nle zc4) py1 (jv_k (x := 10) 10 (by decide)) (by decide)
        have hk10 := hkK7.trans (if_neg zc4)
        refine g_aload_n cx 0 rfl e_X4_leave_13 ?_
        refine g_iload_n cx 2 rfl e_X4_leave_14 ?_
        refine g_cViW cx [.int y1] [] (w_X4_isOver l X ad F2 R3 oF2 oR3 y1) ml_X4_77 yV_X4_isOver e_X4_leave_15 (by unfold g_rr; decide) (by decide) 43 rfl rfl rfl (Nat.le_of_ble_eq_true rfl) (fun r11 w12 h13 => ?_)
        obtain ⟨rfl, pr11, hx14⟩ := h13
        have hk15 := k_ls hk10 hx14
        have J80 : ∀ (F16 : Nat → Int32) (R17 : Nat → Nat → Int32), (g_ok LK_wX F16) → (g_fr md_X4_leave_r1 F F16) → (g_okR LA_wX R17) → (g_fr mr_X4_leave_r1 R R17) → (SP = K_X4_leave_r1_80 b7 y1 F16 R17) → G X E 3 0 0 (wX X ad F16 R17) [(0, .ref (ad 43)), (1, .ref (ad 1)), (2, .int y1)] 80 [] := by
          intro F16 R17 oF16 fF16 oR17 fR17 hkJ80
          unfold K_X4_leave_r1_80 at hkJ80
          obtain ⟨x18, ex18⟩ : ∃ z : Int32, z = y1 + Int32.ofInt 1 := ⟨_, rfl⟩
          have hk19 := k_ls hkJ80 (show x18 = y1 + 1 from ex18)
          refine g_iinc cx x18 [(2, .int x18), (0, .ref (ad 43)), (1, .ref (ad 1))] 2 e_X4_leave_80 rfl ex18.symm (by decide) rfl ?_
          have zx18 := jv_add 1 10 (show x18 = y1 + 1 from ex18) p9 (jv_k (x := 1) 1 (by decide)) (by decide)
          refine g_goto cx 7 e_X4_leave_83 (by decide) ?_
          refine g_lsub [1, 2, 0] [(0, .ref (ad 43)), (1, .ref (ad 1)), (2, .int x18)] rfl ?_
          exact ih7 F16 R17 x18 oF16 fF16 oR17 fR17 (jv_w zx18.2 (by decide)) (hk19.trans (by rw [hb7])) (Nat.lt_of_lt_of_le (show (2147483647 - x18.toInt).toNat < (2147483647 - y1.toInt).toNat from by have q0 := (jv_k (x := 1) 1 (by decide)).1; have q1 := (jv_k (x := 1) 1 (by decide)).2; have q2 := (jv_k (x := 10) 10 (by decide)).1; have q3 := (jv_k (x := 10) 10 (by decide)).2; have q4 := zx18.2.1; have q5 := zx18.2.2; have q6 := p9.1; have q7 := p9.2; have q8 := (gc_nle zc4); have q9 := (g_eq0 zx18.1); omega) (Nat.le_of_lt_succ hm7))
        refine g_if_eq cx 29 e_X4_leave_18 (by decide) (fun zc20 => ?_) (fun zc20 => ?_)
        · have p21 := gn_eq 0 0 (gc_eq zc20) pr11 (jv_k (x := 0) 0 (by decide)) (by decide)
          have hk22 := hk15.trans (if_pos zc20)
          refine g_aload_n cx 1 rfl e_X4_leave_29 ?_
          refine g_iload_n cx 2 rfl e_X4_leave_30 ?_
          refine g_cViW cx [.int y1] [] (w_X8_has_1 l X ad F2 R3 oF2 oR3 y1) ml_X4_90 yV_X8_has e_X4_leave_31 (by unfold g_rr; decide) (by decide) 1 rfl rfl rfl (Nat.le_of_ble_eq_true rfl) (fun r23 w24 h25 => ?_)
          obtain ⟨rfl, pr23, hx26⟩ := h25
          have hk27 := k_ls hk22 hx26
          refine g_if_eq cx 80 e_X4_leave_34 (by decide) (fun zc28 => ?_) (fun zc28 => ?_)
          · have p29 := gn_eq 0 0 (gc_eq zc28) pr23 (jv_k (x := 0) 0 (by decide)) (by decide)
            have hk30 := hk27.trans (if_pos zc28)
            exact J80 F2 R3 oF2 fF2 oR3 fR3 hk30
          · have p31 := gn_neL 1 1 (gc_ne zc28) pr23 (jv_k (x := 0) 0 (by decide)) (by decide)
            have hk32 := hk27.trans (if_neg zc28)
            refine g_aload_n cx 1 rfl e_X4_leave_37 ?_
            refine g_iload_n cx 2 rfl e_X4_leave_38 ?_
            refine g_iconst cx 1 (by decide) e_X4_leave_39 ?_
            refine g_aload_n cx 0 rfl e_X4_leave_40 ?_
            refine g_get cx cl_X4 fl_X4_9 43 (.ref (ad 44)) e_X4_leave_41 rfl rfl ?_
            refine g_iload_n cx 2 rfl e_X4_leave_44 ?_
            refine g_iald cx 44 e_X4_leave_45 rfl (jv_ix 10 p9 (by decide)) ?_
            refine g_topi (fun x33 ex33 => ?_)
            have hk34 := k_ls hk32 ex33
            refine g_cVvW cx [.int y1, .int 1, .int x33] [] (w_X8_change_1 l X ad F2 R3 oF2 oR3 y1 1 x33) ml_X4_93 yV_X8_change e_X4_leave_46 (by unfold g_rr; decide) (by decide) 1 rfl rfl rfl (Nat.le_of_ble_eq_true rfl) (fun w36 h37 => ?_)
            obtain ⟨F39, R40, rfl, oF39, oR40, cF39, cR40, hx38⟩ := h37
            have hk41 := k_ls2 hk34 hx38
            have fF39 : g_fr md_X4_leave_r1 F F39 := g_fr_c fF2 cF39 rfl
            have fR40 : g_fr mr_X4_leave_r1 R R40 := g_fr_c fR3 cR40 rfl
            refine g_aload_n cx 1 rfl e_X4_leave_49 ?_
            refine g_iload_n cx 2 rfl e_X4_leave_50 ?_
            refine g_bipush cx 6 (by decide) e_X4_leave_51 ?_
            refine g_aload_n cx 0 rfl e_X4_leave_53 ?_
            refine g_get cx cl_X4 fl_X4_15 43 (.ref (ad 45)) e_X4_leave_54 rfl rfl ?_
            refine g_iload_n cx 2 rfl e_X4_leave_57 ?_
            refine g_iald cx 45 e_X4_leave_58 rfl (jv_ix 10 p9 (by decide)) ?_
            refine g_topi (fun x42 ex42 => ?_)
            have hk43 := k_ls hk41 ex42
            refine g_cVvW cx [.int y1, .int 6, .int x42] [] (w_X8_change_1 l X ad F39 R40 oF39 oR40 y1 6 x42) ml_X4_93 yV_X8_change e_X4_leave_59 (by unfold g_rr; decide) (by decide) 1 rfl rfl rfl (Nat.le_of_ble_eq_true rfl) (fun w45 h46 => ?_)
            obtain ⟨F48, R49, rfl, oF48, oR49, cF48, cR49, hx47⟩ := h46
            have hk50 := k_ls2 hk43 hx47
            have fF48 : g_fr md_X4_leave_r1 F F48 := g_fr_c fF39 cF48 rfl
            have fR49 : g_fr mr_X4_leave_r1 R R49 := g_fr_c fR40 cR49 rfl
            refine g_aload_n cx 0 rfl e_X4_leave_62 ?_
            refine g_get cx cl_X4 fl_X4_25 43 (.int (F48 692)) e_X4_leave_63 rfl rfl ?_
            refine g_toi (F 692) (((cF48 692 rfl).trans (cF39 692 rfl)).trans (fF2 692 rfl)) ?_
            refine g_iconst cx 1 (by decide) e_X4_leave_66 ?_
            refine g_iload_n cx 2 rfl e_X4_leave_67 ?_
            refine g_ishl cx e_X4_leave_68 ?_
            refine g_topi (fun x51 ex51 => ?_)
            have hk52 := k_ls hk50 ex51
            refine g_iand cx e_X4_leave_69 ?_
            refine g_topi (fun x53 ex53 => ?_)
            have hk54 := k_ls hk52 ex53
            refine g_if_eq cx 80 e_X4_leave_70 (by decide) (fun zc55 => ?_) (fun zc55 => ?_)
            · have p56 := gn_eq 0 0 (gc_eq zc55) (jv_t x53) (jv_k (x := 0) 0 (by decide)) (by decide)
              have hk57 := hk54.trans (if_pos zc55)
              exact J80 F48 R49 oF48 fF48 oR49 fR49 hk57
            · have hk58 := hk54.trans (if_neg zc55)
              refine g_aload_n cx 1 rfl e_X4_leave_73 ?_
              refine g_iload_n cx 2 rfl e_X4_leave_74 ?_
              refine g_iconst cx 3 (by decide) e_X4_leave_75 ?_
              refine g_iconst cx 1 (by decide) e_X4_leave_76 ?_
              refine g_cVvW cx [.int y1, .int 3, .int 1] [] (w_X8_change_1 l X ad F48 R49 oF48 oR49 y1 3 1) ml_X4_93 yV_X8_change e_X4_leave_77 (by unfold g_rr; decide) (by decide) 1 rfl rfl rfl (Nat.le_of_ble_eq_true rfl) (fun w60 h61 => ?_)
              obtain ⟨F63, R64, rfl, oF63, oR64, cF63, cR64, hx62⟩ := h61
              have hk65 := k_ls2 hk58 hx62
              have fF63 : g_fr md_X4_leave_r1 F F63 := g_fr_c fF48 cF63 rfl
              have fR64 : g_fr mr_X4_leave_r1 R R64 := g_fr_c fR49 cR64 rfl
              exact J80 F63 R64 oF63 fF63 oR64 fR64 hk65
        · have p66 := gn_neL 1 1 (gc_ne zc20) pr11 (jv_k (x := 0) 0 (by decide)) (by decide)
          have hk67 := hk15.trans (if_neg zc20)
          refine g_aload_n cx 1 rfl e_X4_leave_21 ?_
          refine g_iload_n cx 2 rfl e_X4_leave_22 ?_
          refine g_cVvW cx [.int y1] [] (w_X8_take_1 l X ad F2 R3 oF2 oR3 y1) ml_X4_86 yV_X8_take e_X4_leave_23 (by unfold g_rr; decide) (by decide) 1 rfl rfl rfl (Nat.le_of_ble_eq_true rfl) (fun w69 h70 => ?_)
          obtain ⟨F72, R73, rfl, oF72, oR73, cF72, cR73, hx71⟩ := h70
          have hk74 := k_ls2 hk67 hx71
          have fF72 : g_fr md_X4_leave_r1 F F72 := g_fr_c fF2 cF72 rfl
          have fR73 : g_fr mr_X4_leave_r1 R R73 := g_fr_c fR3 cR73 rfl
          refine g_goto cx 80 e_X4_leave_26 (by decide) ?_
          exact J80 F72 R73 oF72 fF72 oR73 fR73 hk74
  refine g_lsub [1, 2, 0] [(0, .ref (ad 43)), (1, .ref (ad 1)), (2, .int 0)] rfl ?_
  exact J7 8589934592 F R 0 hI (g_fr_rf F) hA (g_fr_rf R) (jv_w (jv_k (x := 0) 0 (by decide)) (by decide)) hk0 (show (2147483647 - (0 : Int32).toInt).toNat < 8589934592 from by have q0 := (jv_k (x := 0) 0 (by decide)).1; have q1 := (jv_k (x := 0) 0 (by decide)).2; omega)
def K_X4_allStand_16  (y6 : Int32) : Int32 :=
  y6
def sp_X4_allStand (F : Nat → Int32) (R : Nat → Nat → Int32) : Int32 :=
  k_lt (sp_X4_standingSet F R) (fun r1 => if r1 = (F 691) then K_X4_allStand_16 1 else K_X4_allStand_16 0)
theorem e_X4_allStand_0 : g_dc cX4_allStand 0 (.aload_n 0) 1 1 := ⟨by decide +kernel, rfl⟩
theorem e_X4_allStand_1 : g_dc cX4_allStand 1 (.invokevirtual 58) 3 4 := ⟨by decide +kernel, rfl⟩
theorem e_X4_allStand_4 : g_dc cX4_allStand 4 (.aload_n 0) 1 5 := ⟨by decide +kernel, rfl⟩
theorem e_X4_allStand_5 : g_dc cX4_allStand 5 (.getfield 21) 3 8 := ⟨by decide +kernel, rfl⟩
theorem e_X4_allStand_8 : g_dc cX4_allStand 8 (.if_icmp .ne 7) 3 11 := ⟨by decide +kernel, rfl⟩
theorem e_X4_allStand_11 : g_dc cX4_allStand 11 (.iconst 1) 1 12 := ⟨by decide +kernel, rfl⟩
theorem e_X4_allStand_12 : g_dc cX4_allStand 12 (.goto 4) 3 15 := ⟨by decide +kernel, rfl⟩
theorem e_X4_allStand_15 : g_dc cX4_allStand 15 (.iconst 0) 1 16 := ⟨by decide +kernel, rfl⟩
theorem e_X4_allStand_16 : g_dc cX4_allStand 16 (.ireturn) 1 17 := ⟨by decide +kernel, rfl⟩
set_option maxHeartbeats 4000000 in
set_option maxRecDepth 100000 in
theorem w_X4_allStand (l : Launch) (X : gX) (ad : Nat → Nat) (F : Nat → Int32) (R : Nat → Nat → Int32) (hI : g_ok LK_wX F) (hA : g_okR LA_wX R) : g_Ci l X yX4_allStand cX4_allStand 1 (some .boolean) 2 0 0 [.ref (ad 43)] (wX X ad F R) (fun r w => w = wX X ad F R ∧ jv 0 1 r ∧ r = sp_X4_allStand F R) := by
  refine g_mi (by decide +kernel) (Nat.le_of_ble_eq_true rfl) (fun E cx hret => ?_)
  obtain ⟨SP, hSP⟩ : ∃ z, z = sp_X4_allStand F R := ⟨_, rfl⟩
  have hk0 := hSP
  unfold sp_X4_allStand at hk0
  refine g_aload_n cx 0 rfl e_X4_allStand_0 ?_
  refine g_cViW cx [] [] (w_X4_standingSet l X ad F R hI hA) ml_X4_58 yV_X4_standingSet e_X4_allStand_1 (by unfold g_rr; decide) (by decide) 43 rfl rfl rfl (Nat.le_of_ble_eq_true rfl) (fun r1 w2 h3 => ?_)
  obtain ⟨rfl, pr1, hx4⟩ := h3
  have hk5 := k_ls hk0 hx4
  refine g_aload_n cx 0 rfl e_X4_allStand_4 ?_
  refine g_get cx cl_X4 fl_X4_21 43 (.int (F 691)) e_X4_allStand_5 rfl rfl ?_
  have J16 : ∀ (y6 : Int32), (jv 0 1 y6) → (SP = K_X4_allStand_16 y6) → G X E 1 0 0 (wX X ad F R) [] 16 [.int y6] := by
    intro y6 py6 hkJ16
    unfold K_X4_allStand_16 at hkJ16
    exact hret e_X4_allStand_16 (Nat.le_of_ble_eq_true rfl) (Nat.le_of_ble_eq_true rfl) (g_narb py6) ⟨rfl, py6, (hkJ16.symm.trans hSP)⟩
  refine g_icmp_ne cx 15 e_X4_allStand_8 (by decide) (fun zc7 => ?_) (fun zc7 => ?_)
  · have hk8 := hk5.trans (if_neg zc7)
    refine g_iconst cx 0 (by decide) e_X4_allStand_15 ?_
    refine g_lsub [] [] rfl ?_
    exact J16 0 (jv_w (jv_k (x := 0) 0 (by decide)) (by decide)) hk8
  · have hk9 := hk5.trans (if_pos zc7)
    refine g_iconst cx 1 (by decide) e_X4_allStand_11 ?_
    refine g_goto cx 16 e_X4_allStand_12 (by decide) ?_
    refine g_lsub [] [] rfl ?_
    exact J16 1 (jv_w (jv_k (x := 1) 1 (by decide)) (by decide)) hk9
def K_X2_toldOf_17_20  (y1 : Int32) : Int32 :=
  y1
def K_X2_toldOf_17_19   : Int32 :=
  K_X2_toldOf_17_20 0
def sp_X2_toldOf_17 (F : Nat → Int32) (R : Nat → Nat → Int32) (a0 : Int32) : Int32 :=
  if a0 < 0 then K_X2_toldOf_17_19 else if 12 ≤ a0 then K_X2_toldOf_17_19 else k_lt (R 23 (Int32.toNatClampNeg a0)) (fun x12 => K_X2_toldOf_17_20 x12)
theorem e_X2_toldOf_0 : g_dc cX2_toldOf 0 (.iload_n 1) 1 1 := ⟨by decide +kernel, rfl⟩
theorem e_X2_toldOf_1 : g_dc cX2_toldOf 1 (.ifCond .lt 18) 3 4 := ⟨by decide +kernel, rfl⟩
theorem e_X2_toldOf_4 : g_dc cX2_toldOf 4 (.iload_n 1) 1 5 := ⟨by decide +kernel, rfl⟩
theorem e_X2_toldOf_5 : g_dc cX2_toldOf 5 (.bipush 12) 2 7 := ⟨by decide +kernel, rfl⟩
theorem e_X2_toldOf_7 : g_dc cX2_toldOf 7 (.if_icmp .ge 12) 3 10 := ⟨by decide +kernel, rfl⟩
theorem e_X2_toldOf_10 : g_dc cX2_toldOf 10 (.aload_n 0) 1 11 := ⟨by decide +kernel, rfl⟩
theorem e_X2_toldOf_11 : g_dc cX2_toldOf 11 (.getfield 34) 3 14 := ⟨by decide +kernel, rfl⟩
theorem e_X2_toldOf_14 : g_dc cX2_toldOf 14 (.iload_n 1) 1 15 := ⟨by decide +kernel, rfl⟩
theorem e_X2_toldOf_15 : g_dc cX2_toldOf 15 (.iaload) 1 16 := ⟨by decide +kernel, rfl⟩
theorem e_X2_toldOf_16 : g_dc cX2_toldOf 16 (.goto 4) 3 19 := ⟨by decide +kernel, rfl⟩
theorem e_X2_toldOf_19 : g_dc cX2_toldOf 19 (.iconst 0) 1 20 := ⟨by decide +kernel, rfl⟩
theorem e_X2_toldOf_20 : g_dc cX2_toldOf 20 (.ireturn) 1 21 := ⟨by decide +kernel, rfl⟩
set_option maxHeartbeats 4000000 in
set_option maxRecDepth 100000 in
theorem w_X2_toldOf_17 (l : Launch) (X : gX) (ad : Nat → Nat) (F : Nat → Int32) (R : Nat → Nat → Int32) (hI : g_ok LK_wX F) (hA : g_okR LA_wX R) (a0 : Int32) : g_Ci l X yX2_toldOf cX2_toldOf 2 (some .int) 1 0 0 [.ref (ad 17), .int a0] (wX X ad F R) (fun r w => w = wX X ad F R ∧ jv (-2147483648) 2147483647 r ∧ r = sp_X2_toldOf_17 F R a0) := by
  refine g_mi (by decide +kernel) (Nat.le_of_ble_eq_true rfl) (fun E cx hret => ?_)
  obtain ⟨SP, hSP⟩ : ∃ z, z = sp_X2_toldOf_17 F R a0 := ⟨_, rfl⟩
  have hk0 := hSP
  unfold sp_X2_toldOf_17 at hk0
  refine g_iload_n cx 1 rfl e_X2_toldOf_0 ?_
  have J20 : ∀ (y1 : Int32), (jv (-2147483648) 2147483647 y1) → (SP = K_X2_toldOf_17_20 y1) → G X E 2 0 0 (wX X ad F R) [] 20 [.int y1] := by
    intro y1 py1 hkJ20
    unfold K_X2_toldOf_17_20 at hkJ20
    exact hret e_X2_toldOf_20 (Nat.le_of_ble_eq_true rfl) (Nat.le_of_ble_eq_true rfl) rfl ⟨rfl, py1, (hkJ20.symm.trans hSP)⟩
  have J19 : (SP = K_X2_toldOf_17_19) → G X E 2 0 0 (wX X ad F R) [] 19 [] := by
    intro   hkJ19
    unfold K_X2_toldOf_17_19 at hkJ19
    refine g_iconst cx 0 (by decide) e_X2_toldOf_19 ?_
    exact J20 0 (jv_w (jv_k (x := 0) 0 (by decide)) (by decide)) hkJ19
  refine g_if_lt cx 19 e_X2_toldOf_1 (by decide) (fun zc2 => ?_) (fun zc2 => ?_)
  · have p3 := gn_lt (-2147483648) (-1) (gc_lt zc2) (jv_t a0) (jv_k (x := 0) 0 (by decide)) (by decide)
    have hk4 := hk0.trans (if_pos zc2)
    refine g_lsub [] [] rfl ?_
    exact J19  hk4
  · have p5 := gn_ge 0 2147483647 (gc_nlt zc2) (jv_t a0) (jv_k (x := 0) 0 (by decide)) (by decide)
    have hk6 := hk0.trans (if_neg zc2)
    refine g_iload_n cx 1 rfl e_X2_toldOf_4 ?_
    refine g_bipush cx 12 (by decide) e_X2_toldOf_5 ?_
    refine g_icmp_ge cx 19 e_X2_toldOf_7 (by decide) (fun zc7 => ?_) (fun zc7 => ?_)
    · have p8 := gn_ge 12 2147483647 (gc_le zc7) p5 (jv_k (x := 12) 12 (by decide)) (by decide)
      have hk9 := hk6.trans (if_pos zc7)
      refine g_lsub [] [] rfl ?_
      exact J19  hk9
    · have p10 := gn_lt 0 11 (gc_nle zc7) p5 (jv_k (x := 12) 12 (by decide)) (by decide)
      have hk11 := hk6.trans (if_neg zc7)
      refine g_aload_n cx 0 rfl e_X2_toldOf_10 ?_
      refine g_get cx cl_X2 fl_X2_34 17 (.ref (ad 23)) e_X2_toldOf_11 rfl rfl ?_
      refine g_iload_n cx 1 rfl e_X2_toldOf_14 ?_
      refine g_iald cx 23 e_X2_toldOf_15 rfl (jv_ix 12 p10 (by decide)) ?_
      refine g_topi (fun x12 ex12 => ?_)
      have hk13 := k_ls hk11 ex12
      refine g_goto cx 20 e_X2_toldOf_16 (by decide) ?_
      refine g_lsub [] [] rfl ?_
      exact J20 x12 (jv_t x12) hk13
def K_X2_join_67  (y18 : Int32) : Int32 :=
  y18
def K_X2_join_79  (y27 : Int32) : Int32 :=
  y27
def K_X2_join_90  (y36 : Int32) : Int32 :=
  y36
def K_X2_join_101  (y44 : Int32) : Int32 :=
  y44
def K_X2_join_112  (y51 : Int32) : Int32 :=
  y51
def sp_X2_join (F : Nat → Int32) (R : Nat → Nat → Int32) (a0 : Int32) (a1 : Int32) (a2 : Int32) : Int32 :=
  k_lt (a0) (fun zy1 => if zy1.toInt = 6 then k_lt (a1 + a2) (fun x6 => x6) else if zy1.toInt = 7 then k_lt (a1 - a2) (fun x10 => x10) else if zy1.toInt = 8 then k_lt (a1 * a2) (fun x14 => x14) else if zy1.toInt = 9 then if a2 = 0 then K_X2_join_67 0 else k_lt (a1 / a2) (fun x21 => K_X2_join_67 x21) else if zy1.toInt = 10 then if a2 = 0 then K_X2_join_79 0 else k_lt (a1 - a1 / a2 * a2) (fun x30 => K_X2_join_79 x30) else if zy1.toInt = 11 then if a2 ≤ a1 then K_X2_join_90 0 else K_X2_join_90 1 else if zy1.toInt = 12 then if a1 ≤ a2 then K_X2_join_101 0 else K_X2_join_101 1 else if a1 = a2 then K_X2_join_112 1 else K_X2_join_112 0)
theorem e_X2_join_0 : g_dc cX2_join 0 (.iload_n 0) 1 1 := ⟨by decide +kernel, rfl⟩
theorem e_X2_join_1 : g_dc cX2_join 1 (.tableswitch 101 6 12 #[43, 47, 51, 55, 67, 79, 90]) 43 44 := ⟨by decide +kernel, rfl⟩
theorem e_X2_join_44 : g_dc cX2_join 44 (.iload_n 1) 1 45 := ⟨by decide +kernel, rfl⟩
theorem e_X2_join_45 : g_dc cX2_join 45 (.iload_n 2) 1 46 := ⟨by decide +kernel, rfl⟩
theorem e_X2_join_46 : g_dc cX2_join 46 (.iadd) 1 47 := ⟨by decide +kernel, rfl⟩
theorem e_X2_join_47 : g_dc cX2_join 47 (.ireturn) 1 48 := ⟨by decide +kernel, rfl⟩
theorem e_X2_join_48 : g_dc cX2_join 48 (.iload_n 1) 1 49 := ⟨by decide +kernel, rfl⟩
theorem e_X2_join_49 : g_dc cX2_join 49 (.iload_n 2) 1 50 := ⟨by decide +kernel, rfl⟩
theorem e_X2_join_50 : g_dc cX2_join 50 (.isub) 1 51 := ⟨by decide +kernel, rfl⟩
theorem e_X2_join_51 : g_dc cX2_join 51 (.ireturn) 1 52 := ⟨by decide +kernel, rfl⟩
theorem e_X2_join_52 : g_dc cX2_join 52 (.iload_n 1) 1 53 := ⟨by decide +kernel, rfl⟩
theorem e_X2_join_53 : g_dc cX2_join 53 (.iload_n 2) 1 54 := ⟨by decide +kernel, rfl⟩
theorem e_X2_join_54 : g_dc cX2_join 54 (.imul) 1 55 := ⟨by decide +kernel, rfl⟩
theorem e_X2_join_55 : g_dc cX2_join 55 (.ireturn) 1 56 := ⟨by decide +kernel, rfl⟩
theorem e_X2_join_56 : g_dc cX2_join 56 (.iload_n 2) 1 57 := ⟨by decide +kernel, rfl⟩
theorem e_X2_join_57 : g_dc cX2_join 57 (.ifCond .ne 7) 3 60 := ⟨by decide +kernel, rfl⟩
theorem e_X2_join_60 : g_dc cX2_join 60 (.iconst 0) 1 61 := ⟨by decide +kernel, rfl⟩
theorem e_X2_join_61 : g_dc cX2_join 61 (.goto 6) 3 64 := ⟨by decide +kernel, rfl⟩
theorem e_X2_join_64 : g_dc cX2_join 64 (.iload_n 1) 1 65 := ⟨by decide +kernel, rfl⟩
theorem e_X2_join_65 : g_dc cX2_join 65 (.iload_n 2) 1 66 := ⟨by decide +kernel, rfl⟩
theorem e_X2_join_66 : g_dc cX2_join 66 (.idiv) 1 67 := ⟨by decide +kernel, rfl⟩
theorem e_X2_join_67 : g_dc cX2_join 67 (.ireturn) 1 68 := ⟨by decide +kernel, rfl⟩
theorem e_X2_join_68 : g_dc cX2_join 68 (.iload_n 2) 1 69 := ⟨by decide +kernel, rfl⟩
theorem e_X2_join_69 : g_dc cX2_join 69 (.ifCond .ne 7) 3 72 := ⟨by decide +kernel, rfl⟩
theorem e_X2_join_72 : g_dc cX2_join 72 (.iconst 0) 1 73 := ⟨by decide +kernel, rfl⟩
theorem e_X2_join_73 : g_dc cX2_join 73 (.goto 6) 3 76 := ⟨by decide +kernel, rfl⟩
theorem e_X2_join_76 : g_dc cX2_join 76 (.iload_n 1) 1 77 := ⟨by decide +kernel, rfl⟩
theorem e_X2_join_77 : g_dc cX2_join 77 (.iload_n 2) 1 78 := ⟨by decide +kernel, rfl⟩
theorem e_X2_join_78 : g_dc cX2_join 78 (.irem) 1 79 := ⟨by decide +kernel, rfl⟩
theorem e_X2_join_79 : g_dc cX2_join 79 (.ireturn) 1 80 := ⟨by decide +kernel, rfl⟩
theorem e_X2_join_80 : g_dc cX2_join 80 (.iload_n 1) 1 81 := ⟨by decide +kernel, rfl⟩
theorem e_X2_join_81 : g_dc cX2_join 81 (.iload_n 2) 1 82 := ⟨by decide +kernel, rfl⟩
theorem e_X2_join_82 : g_dc cX2_join 82 (.if_icmp .ge 7) 3 85 := ⟨by decide +kernel, rfl⟩
theorem e_X2_join_85 : g_dc cX2_join 85 (.iconst 1) 1 86 := ⟨by decide +kernel, rfl⟩
theorem e_X2_join_86 : g_dc cX2_join 86 (.goto 4) 3 89 := ⟨by decide +kernel, rfl⟩
theorem e_X2_join_89 : g_dc cX2_join 89 (.iconst 0) 1 90 := ⟨by decide +kernel, rfl⟩
theorem e_X2_join_90 : g_dc cX2_join 90 (.ireturn) 1 91 := ⟨by decide +kernel, rfl⟩
theorem e_X2_join_91 : g_dc cX2_join 91 (.iload_n 1) 1 92 := ⟨by decide +kernel, rfl⟩
theorem e_X2_join_92 : g_dc cX2_join 92 (.iload_n 2) 1 93 := ⟨by decide +kernel, rfl⟩
theorem e_X2_join_93 : g_dc cX2_join 93 (.if_icmp .le 7) 3 96 := ⟨by decide +kernel, rfl⟩
theorem e_X2_join_96 : g_dc cX2_join 96 (.iconst 1) 1 97 := ⟨by decide +kernel, rfl⟩
theorem e_X2_join_97 : g_dc cX2_join 97 (.goto 4) 3 100 := ⟨by decide +kernel, rfl⟩
theorem e_X2_join_100 : g_dc cX2_join 100 (.iconst 0) 1 101 := ⟨by decide +kernel, rfl⟩
theorem e_X2_join_101 : g_dc cX2_join 101 (.ireturn) 1 102 := ⟨by decide +kernel, rfl⟩
theorem e_X2_join_102 : g_dc cX2_join 102 (.iload_n 1) 1 103 := ⟨by decide +kernel, rfl⟩
theorem e_X2_join_103 : g_dc cX2_join 103 (.iload_n 2) 1 104 := ⟨by decide +kernel, rfl⟩
theorem e_X2_join_104 : g_dc cX2_join 104 (.if_icmp .ne 7) 3 107 := ⟨by decide +kernel, rfl⟩
theorem e_X2_join_107 : g_dc cX2_join 107 (.iconst 1) 1 108 := ⟨by decide +kernel, rfl⟩
theorem e_X2_join_108 : g_dc cX2_join 108 (.goto 4) 3 111 := ⟨by decide +kernel, rfl⟩
theorem e_X2_join_111 : g_dc cX2_join 111 (.iconst 0) 1 112 := ⟨by decide +kernel, rfl⟩
theorem e_X2_join_112 : g_dc cX2_join 112 (.ireturn) 1 113 := ⟨by decide +kernel, rfl⟩
set_option maxHeartbeats 4000000 in
set_option maxRecDepth 100000 in
theorem w_X2_join (l : Launch) (X : gX) (ad : Nat → Nat) (F : Nat → Int32) (R : Nat → Nat → Int32) (hI : g_ok LK_wX F) (hA : g_okR LA_wX R) (a0 : Int32) (a1 : Int32) (a2 : Int32) : g_Ci l X yX2_join cX2_join 3 (some .int) 1 0 0 [.int a0, .int a1, .int a2] (wX X ad F R) (fun r w => w = wX X ad F R ∧ jv (-2147483648) 2147483647 r ∧ r = sp_X2_join F R a0 a1 a2) := by
  refine g_mi (by decide +kernel) (Nat.le_of_ble_eq_true rfl) (fun E cx hret => ?_)
  obtain ⟨SP, hSP⟩ : ∃ z, z = sp_X2_join F R a0 a1 a2 := ⟨_, rfl⟩
  have hk0 := hSP
  unfold sp_X2_join at hk0
  refine g_iload_n cx 0 rfl e_X2_join_0 ?_
  refine g_topi (fun zy1 ezy1 => ?_)
  have hk2 := k_ls hk0 ezy1
  rcases g_sw 6 12 zy1 with ⟨zw3n, zw3h, zw3e⟩ | zw3
  · have zw3d : zw3n = 0 ∨ zw3n = 1 ∨ zw3n = 2 ∨ zw3n = 3 ∨ zw3n = 4 ∨ zw3n = 5 ∨ zw3n = 6 := by omega
    rcases zw3d with rfl | rfl | rfl | rfl | rfl | rfl | rfl
    · refine g_tableIn cx 44 e_X2_join_1 (by rw [zw3e]; decide) (by rw [zw3e]; decide) (by rw [zw3e]; rfl) (by decide) ?_
      have p4 : jv 6 6 a0 := by rw [← ezy1]; exact jv_k 6 (by rw [zw3e]; rfl)
      have hk5 := (hk2.trans (if_pos (by rw [zw3e]; decide)))
      refine g_iload_n cx 1 rfl e_X2_join_44 ?_
      refine g_iload_n cx 2 rfl e_X2_join_45 ?_
      refine g_iadd cx e_X2_join_46 ?_
      refine g_topi (fun x6 ex6 => ?_)
      have hk7 := k_ls hk5 ex6
      exact hret e_X2_join_47 (Nat.le_of_ble_eq_true rfl) (Nat.le_of_ble_eq_true rfl) rfl ⟨rfl, (jv_t x6), (hk7.symm.trans hSP)⟩
    · refine g_tableIn cx 48 e_X2_join_1 (by rw [zw3e]; decide) (by rw [zw3e]; decide) (by rw [zw3e]; rfl) (by decide) ?_
      have p8 : jv 7 7 a0 := by rw [← ezy1]; exact jv_k 7 (by rw [zw3e]; rfl)
      have hk9 := ((hk2.trans (if_neg (by rw [zw3e]; decide))).trans (if_pos (by rw [zw3e]; decide)))
      refine g_iload_n cx 1 rfl e_X2_join_48 ?_
      refine g_iload_n cx 2 rfl e_X2_join_49 ?_
      refine g_isub cx e_X2_join_50 ?_
      refine g_topi (fun x10 ex10 => ?_)
      have hk11 := k_ls hk9 ex10
      exact hret e_X2_join_51 (Nat.le_of_ble_eq_true rfl) (Nat.le_of_ble_eq_true rfl) rfl ⟨rfl, (jv_t x10), (hk11.symm.trans hSP)⟩
    · refine g_tableIn cx 52 e_X2_join_1 (by rw [zw3e]; decide) (by rw [zw3e]; decide) (by rw [zw3e]; rfl) (by decide) ?_
      have p12 : jv 8 8 a0 := by rw [← ezy1]; exact jv_k 8 (by rw [zw3e]; rfl)
      have hk13 := (((hk2.trans (if_neg (by rw [zw3e]; decide))).trans (if_neg (by rw [zw3e]; decide))).trans (if_pos (by rw [zw3e]; decide)))
      refine g_iload_n cx 1 rfl e_X2_join_52 ?_
      refine g_iload_n cx 2 rfl e_X2_join_53 ?_
      refine g_imul cx e_X2_join_54 ?_
      refine g_topi (fun x14 ex14 => ?_)
      have hk15 := k_ls hk13 ex14
      exact hret e_X2_join_55 (Nat.le_of_ble_eq_true rfl) (Nat.le_of_ble_eq_true rfl) rfl ⟨rfl, (jv_t x14), (hk15.symm.trans hSP)⟩
    · refine g_tableIn cx 56 e_X2_join_1 (by rw [zw3e]; decide) (by rw [zw3e]; decide) (by rw [zw3e]; rfl) (by decide) ?_
      have p16 : jv 9 9 a0 := by rw [← ezy1]; exact jv_k 9 (by rw [zw3e]; rfl)
      have hk17 := ((((hk2.trans (if_neg (by rw [zw3e]; decide))).trans (if_neg (by rw [zw3e]; decide))).trans (if_neg (by rw [zw3e]; decide))).trans (if_pos (by rw [zw3e]; decide)))
      refine g_iload_n cx 2 rfl e_X2_join_56 ?_
      have J67 : ∀ (y18 : Int32), (jv (-2147483648) 2147483647 y18) → (SP = K_X2_join_67 y18) → G X E 3 0 0 (wX X ad F R) [] 67 [.int y18] := by
        intro y18 py18 hkJ67
        unfold K_X2_join_67 at hkJ67
        exact hret e_X2_join_67 (Nat.le_of_ble_eq_true rfl) (Nat.le_of_ble_eq_true rfl) rfl ⟨rfl, py18, (hkJ67.symm.trans hSP)⟩
      refine g_if_ne cx 64 e_X2_join_57 (by decide) (fun zc19 => ?_) (fun zc19 => ?_)
      · have hk20 := hk17.trans (if_neg zc19)
        refine g_iload_n cx 1 rfl e_X2_join_64 ?_
        refine g_iload_n cx 2 rfl e_X2_join_65 ?_
        refine g_idiv cx zc19 e_X2_join_66 ?_
        refine g_topi (fun x21 ex21 => ?_)
        have hk22 := k_ls hk20 ex21
        refine g_lsub [] [] rfl ?_
        exact J67 x21 (jv_t x21) hk22
      · have p23 := gn_eq 0 0 (gc_eq zc19) (jv_t a2) (jv_k (x := 0) 0 (by decide)) (by decide)
        have hk24 := hk17.trans (if_pos zc19)
        refine g_iconst cx 0 (by decide) e_X2_join_60 ?_
        refine g_goto cx 67 e_X2_join_61 (by decide) ?_
        refine g_lsub [] [] rfl ?_
        exact J67 0 (jv_w (jv_k (x := 0) 0 (by decide)) (by decide)) hk24
    · refine g_tableIn cx 68 e_X2_join_1 (by rw [zw3e]; decide) (by rw [zw3e]; decide) (by rw [zw3e]; rfl) (by decide) ?_
      have p25 : jv 10 10 a0 := by rw [← ezy1]; exact jv_k 10 (by rw [zw3e]; rfl)
      have hk26 := (((((hk2.trans (if_neg (by rw [zw3e]; decide))).trans (if_neg (by rw [zw3e]; decide))).trans (if_neg (by rw [zw3e]; decide))).trans (if_neg (by rw [zw3e]; decide))).trans (if_pos (by rw [zw3e]; decide)))
      refine g_iload_n cx 2 rfl e_X2_join_68 ?_
      have J79 : ∀ (y27 : Int32), (jv (-2147483648) 2147483647 y27) → (SP = K_X2_join_79 y27) → G X E 3 0 0 (wX X ad F R) [] 79 [.int y27] := by
        intro y27 py27 hkJ79
        unfold K_X2_join_79 at hkJ79
        exact hret e_X2_join_79 (Nat.le_of_ble_eq_true rfl) (Nat.le_of_ble_eq_true rfl) rfl ⟨rfl, py27, (hkJ79.symm.trans hSP)⟩
      refine g_if_ne cx 76 e_X2_join_69 (by decide) (fun zc28 => ?_) (fun zc28 => ?_)
      · have hk29 := hk26.trans (if_neg zc28)
        refine g_iload_n cx 1 rfl e_X2_join_76 ?_
        refine g_iload_n cx 2 rfl e_X2_join_77 ?_
        refine g_irem cx zc28 e_X2_join_78 ?_
        refine g_topi (fun x30 ex30 => ?_)
        have hk31 := k_ls hk29 ex30
        refine g_lsub [] [] rfl ?_
        exact J79 x30 (jv_t x30) hk31
      · have p32 := gn_eq 0 0 (gc_eq zc28) (jv_t a2) (jv_k (x := 0) 0 (by decide)) (by decide)
        have hk33 := hk26.trans (if_pos zc28)
        refine g_iconst cx 0 (by decide) e_X2_join_72 ?_
        refine g_goto cx 79 e_X2_join_73 (by decide) ?_
        refine g_lsub [] [] rfl ?_
        exact J79 0 (jv_w (jv_k (x := 0) 0 (by decide)) (by decide)) hk33
    · refine g_tableIn cx 80 e_X2_join_1 (by rw [zw3e]; decide) (by rw [zw3e]; decide) (by rw [zw3e]; rfl) (by decide) ?_
      have p34 : jv 11 11 a0 := by rw [← ezy1]; exact jv_k 11 (by rw [zw3e]; rfl)
      have hk35 := ((((((hk2.trans (if_neg (by rw [zw3e]; decide))).trans (if_neg (by rw [zw3e]; decide))).trans (if_neg (by rw [zw3e]; decide))).trans (if_neg (by rw [zw3e]; decide))).trans (if_neg (by rw [zw3e]; decide))).trans (if_pos (by rw [zw3e]; decide)))
      refine g_iload_n cx 1 rfl e_X2_join_80 ?_
      refine g_iload_n cx 2 rfl e_X2_join_81 ?_
      have J90 : ∀ (y36 : Int32), (jv 0 1 y36) → (SP = K_X2_join_90 y36) → G X E 3 0 0 (wX X ad F R) [] 90 [.int y36] := by
        intro y36 py36 hkJ90
        unfold K_X2_join_90 at hkJ90
        exact hret e_X2_join_90 (Nat.le_of_ble_eq_true rfl) (Nat.le_of_ble_eq_true rfl) rfl ⟨rfl, (jv_w py36 (by decide)), (hkJ90.symm.trans hSP)⟩
      refine g_icmp_ge cx 89 e_X2_join_82 (by decide) (fun zc37 => ?_) (fun zc37 => ?_)
      · have hk38 := hk35.trans (if_pos zc37)
        refine g_iconst cx 0 (by decide) e_X2_join_89 ?_
        refine g_lsub [] [] rfl ?_
        exact J90 0 (jv_w (jv_k (x := 0) 0 (by decide)) (by decide)) hk38
      · have p39 := gn_lt (-2147483648) 2147483646 (gc_nle zc37) (jv_t a1) (jv_t a2) (by decide)
        have p40 := gn_gt (-2147483647) 2147483647 (gc_nle zc37) (jv_t a2) (jv_t a1) (by decide)
        have hk41 := hk35.trans (if_neg zc37)
        refine g_iconst cx 1 (by decide) e_X2_join_85 ?_
        refine g_goto cx 90 e_X2_join_86 (by decide) ?_
        refine g_lsub [] [] rfl ?_
        exact J90 1 (jv_w (jv_k (x := 1) 1 (by decide)) (by decide)) hk41
    · refine g_tableIn cx 91 e_X2_join_1 (by rw [zw3e]; decide) (by rw [zw3e]; decide) (by rw [zw3e]; rfl) (by decide) ?_
      have p42 : jv 12 12 a0 := by rw [← ezy1]; exact jv_k 12 (by rw [zw3e]; rfl)
      have hk43 := (((((((hk2.trans (if_neg (by rw [zw3e]; decide))).trans (if_neg (by rw [zw3e]; decide))).trans (if_neg (by rw [zw3e]; decide))).trans (if_neg (by rw [zw3e]; decide))).trans (if_neg (by rw [zw3e]; decide))).trans (if_neg (by rw [zw3e]; decide))).trans (if_pos (by rw [zw3e]; decide)))
      refine g_iload_n cx 1 rfl e_X2_join_91 ?_
      refine g_iload_n cx 2 rfl e_X2_join_92 ?_
      have J101 : ∀ (y44 : Int32), (jv 0 1 y44) → (SP = K_X2_join_101 y44) → G X E 3 0 0 (wX X ad F R) [] 101 [.int y44] := by
        intro y44 py44 hkJ101
        unfold K_X2_join_101 at hkJ101
        exact hret e_X2_join_101 (Nat.le_of_ble_eq_true rfl) (Nat.le_of_ble_eq_true rfl) rfl ⟨rfl, (jv_w py44 (by decide)), (hkJ101.symm.trans hSP)⟩
      refine g_icmp_le cx 100 e_X2_join_93 (by decide) (fun zc45 => ?_) (fun zc45 => ?_)
      · have hk46 := hk43.trans (if_pos zc45)
        refine g_iconst cx 0 (by decide) e_X2_join_100 ?_
        refine g_lsub [] [] rfl ?_
        exact J101 0 (jv_w (jv_k (x := 0) 0 (by decide)) (by decide)) hk46
      · have p47 := gn_lt (-2147483648) 2147483646 (gc_nle zc45) (jv_t a2) (jv_t a1) (by decide)
        have p48 := gn_gt (-2147483647) 2147483647 (gc_nle zc45) (jv_t a1) (jv_t a2) (by decide)
        have hk49 := hk43.trans (if_neg zc45)
        refine g_iconst cx 1 (by decide) e_X2_join_96 ?_
        refine g_goto cx 101 e_X2_join_97 (by decide) ?_
        refine g_lsub [] [] rfl ?_
        exact J101 1 (jv_w (jv_k (x := 1) 1 (by decide)) (by decide)) hk49
  · refine g_tableOut cx 102 e_X2_join_1 zw3 (by decide) ?_
    have hk50 := (((((((hk2.trans (if_neg (by omega))).trans (if_neg (by omega))).trans (if_neg (by omega))).trans (if_neg (by omega))).trans (if_neg (by omega))).trans (if_neg (by omega))).trans (if_neg (by omega)))
    refine g_iload_n cx 1 rfl e_X2_join_102 ?_
    refine g_iload_n cx 2 rfl e_X2_join_103 ?_
    have J112 : ∀ (y51 : Int32), (jv 0 1 y51) → (SP = K_X2_join_112 y51) → G X E 3 0 0 (wX X ad F R) [] 112 [.int y51] := by
      intro y51 py51 hkJ112
      unfold K_X2_join_112 at hkJ112
      exact hret e_X2_join_112 (Nat.le_of_ble_eq_true rfl) (Nat.le_of_ble_eq_true rfl) rfl ⟨rfl, (jv_w py51 (by decide)), (hkJ112.symm.trans hSP)⟩
    refine g_icmp_ne cx 111 e_X2_join_104 (by decide) (fun zc52 => ?_) (fun zc52 => ?_)
    · have hk53 := hk50.trans (if_neg zc52)
      refine g_iconst cx 0 (by decide) e_X2_join_111 ?_
      refine g_lsub [] [] rfl ?_
      exact J112 0 (jv_w (jv_k (x := 0) 0 (by decide)) (by decide)) hk53
    · have hk54 := hk50.trans (if_pos zc52)
      refine g_iconst cx 1 (by decide) e_X2_join_107 ?_
      refine g_goto cx 112 e_X2_join_108 (by decide) ?_
      refine g_lsub [] [] rfl ?_
      exact J112 1 (jv_w (jv_k (x := 1) 1 (by decide)) (by decide)) hk54
def K_X2_reckon_17_298 (F : Nat → Int32) (R3 : Nat → Nat → Int32) (y4 : Int32) : Int32 × (Nat → Int32) × (Nat → Nat → Int32) :=
  (y4, F, R3)
def K_X2_reckon_17_282 (F : Nat → Int32) (R3 : Nat → Nat → Int32) (y1 : Int32)  : Int32 × (Nat → Int32) × (Nat → Nat → Int32) :=
  if y1 ≤ 0 then K_X2_reckon_17_298 F R3 0 else k_lt (y1 - 1) (fun x10 => k_lt (R3 24 (Int32.toNatClampNeg x10)) (fun x12 => K_X2_reckon_17_298 F R3 x12))
def K_X2_reckon_17_276 (b4 : (Nat → Nat → Int32) → (Int32) → (Int32) → Int32 × (Nat → Int32) × (Nat → Nat → Int32)) (R37 : Nat → Nat → Int32) (y35 : Int32) (y36 : Int32) : Int32 × (Nat → Int32) × (Nat → Nat → Int32) :=
  k_lt (y36 + 1) (fun x38 => b4 R37 y35 x38)
def K_X2_reckon_17_90 (b4 : (Nat → Nat → Int32) → (Int32) → (Int32) → Int32 × (Nat → Int32) × (Nat → Nat → Int32)) (R3 : Nat → Nat → Int32) (y1 : Int32) (y2 : Int32) (y43 : Int32) : Int32 × (Nat → Int32) × (Nat → Nat → Int32) :=
  k_lt (g_u R3 24 (upd (R3 24) (Int32.toNatClampNeg y1) y43)) (fun R44 => k_lt (y1 + 1) (fun x46 => K_X2_reckon_17_276 b4 R44 x46 y2))
def K_X2_reckon_17_60 (b4 : (Nat → Nat → Int32) → (Int32) → (Int32) → Int32 × (Nat → Int32) × (Nat → Nat → Int32)) (F : Nat → Int32) (R3 : Nat → Nat → Int32) (x31 : Int32) (x33 : Int32) (y1 : Int32) (y2 : Int32)  : Int32 × (Nat → Int32) × (Nat → Nat → Int32) :=
  if y1 < 32 then if x31 = 1 then K_X2_reckon_17_90 b4 R3 y1 y2 x33 else k_lt (sp_X2_toldOf_17 F R3 x33) (fun r50 => K_X2_reckon_17_90 b4 R3 y1 y2 r50) else (0, F, R3)
def K_X2_reckon_17_210 (b4 : (Nat → Nat → Int32) → (Int32) → (Int32) → Int32 × (Nat → Int32) × (Nat → Nat → Int32)) (R3 : Nat → Nat → Int32) (y77 : Int32) (y78 : Int32) : Int32 × (Nat → Int32) × (Nat → Nat → Int32) :=
  K_X2_reckon_17_276 b4 R3 y78 y77
def K_X2_reckon_17_197 (b4 : (Nat → Nat → Int32) → (Int32) → (Int32) → Int32 × (Nat → Int32) × (Nat → Nat → Int32)) (R3 : Nat → Nat → Int32) (y1 : Int32) (y76 : Int32) (y77 : Int32) : Int32 × (Nat → Int32) × (Nat → Nat → Int32) :=
  if y76 = 0 then k_lt (y1 - 1) (fun x82 => K_X2_reckon_17_210 b4 R3 y77 x82) else K_X2_reckon_17_210 b4 R3 y77 y1
def K_X2_reckon_17_178 (b4 : (Nat → Nat → Int32) → (Int32) → (Int32) → Int32 × (Nat → Int32) × (Nat → Nat → Int32)) (R3 : Nat → Nat → Int32) (x33 : Int32) (y1 : Int32) (y2 : Int32) (y76 : Int32) : Int32 × (Nat → Int32) × (Nat → Nat → Int32) :=
  if y76 = 0 then K_X2_reckon_17_197 b4 R3 y1 y76 y2 else k_lt (x33 - 1) (fun x91 => k_lt (if y2 < x91 then x91 else y2) (fun x93 => K_X2_reckon_17_197 b4 R3 y1 y76 x93))
def K_X2_reckon_17_170 (b4 : (Nat → Nat → Int32) → (Int32) → (Int32) → Int32 × (Nat → Int32) × (Nat → Nat → Int32)) (R3 : Nat → Nat → Int32) (x33 : Int32) (y1 : Int32) (y2 : Int32) (y74 : Int32) (y75 : Int32) : Int32 × (Nat → Int32) × (Nat → Nat → Int32) :=
  if y74 = y75 then K_X2_reckon_17_178 b4 R3 x33 y1 y2 1 else K_X2_reckon_17_178 b4 R3 x33 y1 y2 0
def K_X2_reckon_17_159 (b4 : (Nat → Nat → Int32) → (Int32) → (Int32) → Int32 × (Nat → Int32) × (Nat → Nat → Int32)) (R3 : Nat → Nat → Int32) (x31 : Int32) (x33 : Int32) (y1 : Int32) (y2 : Int32) (y74 : Int32) : Int32 × (Nat → Int32) × (Nat → Nat → Int32) :=
  if x31 = 5 then K_X2_reckon_17_170 b4 R3 x33 y1 y2 y74 1 else K_X2_reckon_17_170 b4 R3 x33 y1 y2 y74 0
def K_X2_reckon_17_143 (b4 : (Nat → Nat → Int32) → (Int32) → (Int32) → Int32 × (Nat → Int32) × (Nat → Nat → Int32)) (R3 : Nat → Nat → Int32) (x31 : Int32) (x33 : Int32) (y1 : Int32) (y2 : Int32)  : Int32 × (Nat → Int32) × (Nat → Nat → Int32) :=
  k_lt (y1 - 1) (fun x70 => k_lt (R3 24 (Int32.toNatClampNeg x70)) (fun x72 => if x72 = 0 then K_X2_reckon_17_159 b4 R3 x31 x33 y1 y2 0 else K_X2_reckon_17_159 b4 R3 x31 x33 y1 y2 1))
def K_X2_reckon_17_244 (F : Nat → Int32) (R3 : Nat → Nat → Int32)  : Int32 × (Nat → Int32) × (Nat → Nat → Int32) :=
  (0, F, R3)
def K_X2_reckon_17_246 (b4 : (Nat → Nat → Int32) → (Int32) → (Int32) → Int32 × (Nat → Int32) × (Nat → Nat → Int32)) (F : Nat → Int32) (R3 : Nat → Nat → Int32) (x31 : Int32) (y1 : Int32) (y2 : Int32)  : Int32 × (Nat → Int32) × (Nat → Nat → Int32) :=
  k_lt (y1 + (-1)) (fun x121 => k_lt (x121 - 1) (fun x123 => k_lt (x121 - 1) (fun x125 => k_lt (R3 24 (Int32.toNatClampNeg x125)) (fun x127 => k_lt (R3 24 (Int32.toNatClampNeg x121)) (fun x129 => k_lt (sp_X2_join F R3 x31 x127 x129) (fun r131 => k_lt (g_u R3 24 (upd (R3 24) (Int32.toNatClampNeg x123) r131)) (fun R136 => K_X2_reckon_17_276 b4 R136 x121 y2)))))))
def KB_X2_reckon_17_4 (b4 : (Nat → Nat → Int32) → (Int32) → (Int32) → Int32 × (Nat → Int32) × (Nat → Nat → Int32)) (F : Nat → Int32) (R3 : Nat → Nat → Int32) (y1 : Int32) (y2 : Int32) : Int32 × (Nat → Int32) × (Nat → Nat → Int32) :=
  if y2 < 0 then K_X2_reckon_17_282 F R3 y1 else if (F 274) ≤ y2 then K_X2_reckon_17_282 F R3 y1 else k_lt (R3 18 (Int32.toNatClampNeg y2)) (fun x25 => if x25 = 0 then K_X2_reckon_17_282 F R3 y1 else k_lt (R3 18 (Int32.toNatClampNeg y2)) (fun x31 => k_lt (R3 19 (Int32.toNatClampNeg y2)) (fun x33 => if x31 = 1 then K_X2_reckon_17_60 b4 F R3 x31 x33 y1 y2 else if x31 = 2 then K_X2_reckon_17_60 b4 F R3 x31 x33 y1 y2 else if 1 ≤ y1 then if x31 = 3 then k_lt (y1 - 1) (fun x154 => k_lt (y1 - 1) (fun x156 => k_lt (R3 24 (Int32.toNatClampNeg x156)) (fun x158 => k_lt (1 - x158) (fun x160 => k_lt (g_u R3 24 (upd (R3 24) (Int32.toNatClampNeg x154) x160)) (fun R162 => K_X2_reckon_17_276 b4 R162 y1 y2))))) else if x31 = 4 then K_X2_reckon_17_143 b4 R3 x31 x33 y1 y2 else if x31 = 5 then K_X2_reckon_17_143 b4 R3 x31 x33 y1 y2 else if y1 < 2 then K_X2_reckon_17_244 F R3 else k_lt (y1 - 1) (fun x117 => k_lt (R3 24 (Int32.toNatClampNeg x117)) (fun x119 => if x119 = 0 then if x31 = 9 then K_X2_reckon_17_244 F R3 else if x31 = 10 then K_X2_reckon_17_244 F R3 else K_X2_reckon_17_246 b4 F R3 x31 y1 y2 else K_X2_reckon_17_246 b4 F R3 x31 y1 y2)) else (0, F, R3))))
def K_X2_reckon_17_4 (F : Nat → Int32) : Nat → (Nat → Nat → Int32) → (Int32) → (Int32) → Int32 × (Nat → Int32) × (Nat → Nat → Int32)
  | 0 => fun R3 _ _ => (0, F, R3)
  | n + 1 => KB_X2_reckon_17_4 (K_X2_reckon_17_4 F n) F
def sp_X2_reckon_17 (F : Nat → Int32) (R : Nat → Nat → Int32) (a0 : Int32) : Int32 × (Nat → Int32) × (Nat → Nat → Int32) :=
  K_X2_reckon_17_4 F 8589934592 R 0 a0
theorem e_X2_reckon_0 : g_dc cX2_reckon 0 (.iconst 0) 1 1 := ⟨by decide +kernel, rfl⟩
theorem e_X2_reckon_1 : g_dc cX2_reckon 1 (.istore_n 2) 1 2 := ⟨by decide +kernel, rfl⟩
theorem e_X2_reckon_2 : g_dc cX2_reckon 2 (.iload_n 1) 1 3 := ⟨by decide +kernel, rfl⟩
theorem e_X2_reckon_3 : g_dc cX2_reckon 3 (.istore_n 3) 1 4 := ⟨by decide +kernel, rfl⟩
theorem e_X2_reckon_4 : g_dc cX2_reckon 4 (.iload_n 3) 1 5 := ⟨by decide +kernel, rfl⟩
theorem e_X2_reckon_5 : g_dc cX2_reckon 5 (.ifCond .lt 277) 3 8 := ⟨by decide +kernel, rfl⟩
theorem e_X2_reckon_8 : g_dc cX2_reckon 8 (.iload_n 3) 1 9 := ⟨by decide +kernel, rfl⟩
theorem e_X2_reckon_9 : g_dc cX2_reckon 9 (.aload_n 0) 1 10 := ⟨by decide +kernel, rfl⟩
theorem e_X2_reckon_10 : g_dc cX2_reckon 10 (.getfield 18) 3 13 := ⟨by decide +kernel, rfl⟩
theorem e_X2_reckon_13 : g_dc cX2_reckon 13 (.if_icmp .ge 269) 3 16 := ⟨by decide +kernel, rfl⟩
theorem e_X2_reckon_16 : g_dc cX2_reckon 16 (.iload_n 3) 1 17 := ⟨by decide +kernel, rfl⟩
theorem e_X2_reckon_17 : g_dc cX2_reckon 17 (.sipush 256) 3 20 := ⟨by decide +kernel, rfl⟩
theorem e_X2_reckon_20 : g_dc cX2_reckon 20 (.if_icmp .ge 262) 3 23 := ⟨by decide +kernel, rfl⟩
theorem e_X2_reckon_23 : g_dc cX2_reckon 23 (.aload_n 0) 1 24 := ⟨by decide +kernel, rfl⟩
theorem e_X2_reckon_24 : g_dc cX2_reckon 24 (.getfield 11) 3 27 := ⟨by decide +kernel, rfl⟩
theorem e_X2_reckon_27 : g_dc cX2_reckon 27 (.iload_n 3) 1 28 := ⟨by decide +kernel, rfl⟩
theorem e_X2_reckon_28 : g_dc cX2_reckon 28 (.iaload) 1 29 := ⟨by decide +kernel, rfl⟩
theorem e_X2_reckon_29 : g_dc cX2_reckon 29 (.ifCond .eq 253) 3 32 := ⟨by decide +kernel, rfl⟩
theorem e_X2_reckon_32 : g_dc cX2_reckon 32 (.aload_n 0) 1 33 := ⟨by decide +kernel, rfl⟩
theorem e_X2_reckon_33 : g_dc cX2_reckon 33 (.getfield 11) 3 36 := ⟨by decide +kernel, rfl⟩
theorem e_X2_reckon_36 : g_dc cX2_reckon 36 (.iload_n 3) 1 37 := ⟨by decide +kernel, rfl⟩
theorem e_X2_reckon_37 : g_dc cX2_reckon 37 (.iaload) 1 38 := ⟨by decide +kernel, rfl⟩
theorem e_X2_reckon_38 : g_dc cX2_reckon 38 (.istore 4) 2 40 := ⟨by decide +kernel, rfl⟩
theorem e_X2_reckon_40 : g_dc cX2_reckon 40 (.aload_n 0) 1 41 := ⟨by decide +kernel, rfl⟩
theorem e_X2_reckon_41 : g_dc cX2_reckon 41 (.getfield 15) 3 44 := ⟨by decide +kernel, rfl⟩
theorem e_X2_reckon_44 : g_dc cX2_reckon 44 (.iload_n 3) 1 45 := ⟨by decide +kernel, rfl⟩
theorem e_X2_reckon_45 : g_dc cX2_reckon 45 (.iaload) 1 46 := ⟨by decide +kernel, rfl⟩
theorem e_X2_reckon_46 : g_dc cX2_reckon 46 (.istore 5) 2 48 := ⟨by decide +kernel, rfl⟩
theorem e_X2_reckon_48 : g_dc cX2_reckon 48 (.iload 4) 2 50 := ⟨by decide +kernel, rfl⟩
theorem e_X2_reckon_50 : g_dc cX2_reckon 50 (.iconst 1) 1 51 := ⟨by decide +kernel, rfl⟩
theorem e_X2_reckon_51 : g_dc cX2_reckon 51 (.if_icmp .eq 9) 3 54 := ⟨by decide +kernel, rfl⟩
theorem e_X2_reckon_54 : g_dc cX2_reckon 54 (.iload 4) 2 56 := ⟨by decide +kernel, rfl⟩
theorem e_X2_reckon_56 : g_dc cX2_reckon 56 (.iconst 2) 1 57 := ⟨by decide +kernel, rfl⟩
theorem e_X2_reckon_57 : g_dc cX2_reckon 57 (.if_icmp .ne 40) 3 60 := ⟨by decide +kernel, rfl⟩
theorem e_X2_reckon_60 : g_dc cX2_reckon 60 (.iload_n 2) 1 61 := ⟨by decide +kernel, rfl⟩
theorem e_X2_reckon_61 : g_dc cX2_reckon 61 (.bipush 32) 2 63 := ⟨by decide +kernel, rfl⟩
theorem e_X2_reckon_63 : g_dc cX2_reckon 63 (.if_icmp .lt 5) 3 66 := ⟨by decide +kernel, rfl⟩
theorem e_X2_reckon_66 : g_dc cX2_reckon 66 (.iconst 0) 1 67 := ⟨by decide +kernel, rfl⟩
theorem e_X2_reckon_67 : g_dc cX2_reckon 67 (.ireturn) 1 68 := ⟨by decide +kernel, rfl⟩
theorem e_X2_reckon_68 : g_dc cX2_reckon 68 (.aload_n 0) 1 69 := ⟨by decide +kernel, rfl⟩
theorem e_X2_reckon_69 : g_dc cX2_reckon 69 (.getfield 37) 3 72 := ⟨by decide +kernel, rfl⟩
theorem e_X2_reckon_72 : g_dc cX2_reckon 72 (.iload_n 2) 1 73 := ⟨by decide +kernel, rfl⟩
theorem e_X2_reckon_73 : g_dc cX2_reckon 73 (.iload 4) 2 75 := ⟨by decide +kernel, rfl⟩
theorem e_X2_reckon_75 : g_dc cX2_reckon 75 (.iconst 1) 1 76 := ⟨by decide +kernel, rfl⟩
theorem e_X2_reckon_76 : g_dc cX2_reckon 76 (.if_icmp .ne 8) 3 79 := ⟨by decide +kernel, rfl⟩
theorem e_X2_reckon_79 : g_dc cX2_reckon 79 (.iload 5) 2 81 := ⟨by decide +kernel, rfl⟩
theorem e_X2_reckon_81 : g_dc cX2_reckon 81 (.goto 9) 3 84 := ⟨by decide +kernel, rfl⟩
theorem e_X2_reckon_84 : g_dc cX2_reckon 84 (.aload_n 0) 1 85 := ⟨by decide +kernel, rfl⟩
theorem e_X2_reckon_85 : g_dc cX2_reckon 85 (.iload 5) 2 87 := ⟨by decide +kernel, rfl⟩
theorem e_X2_reckon_87 : g_dc cX2_reckon 87 (.invokevirtual 69) 3 90 := ⟨by decide +kernel, rfl⟩
theorem e_X2_reckon_90 : g_dc cX2_reckon 90 (.iastore) 1 91 := ⟨by decide +kernel, rfl⟩
theorem e_X2_reckon_91 : g_dc cX2_reckon 91 (.iinc 2 1) 3 94 := ⟨by decide +kernel, rfl⟩
theorem e_X2_reckon_94 : g_dc cX2_reckon 94 (.goto 182) 3 97 := ⟨by decide +kernel, rfl⟩
theorem e_X2_reckon_97 : g_dc cX2_reckon 97 (.iload_n 2) 1 98 := ⟨by decide +kernel, rfl⟩
theorem e_X2_reckon_98 : g_dc cX2_reckon 98 (.iconst 1) 1 99 := ⟨by decide +kernel, rfl⟩
theorem e_X2_reckon_99 : g_dc cX2_reckon 99 (.if_icmp .ge 5) 3 102 := ⟨by decide +kernel, rfl⟩
theorem e_X2_reckon_102 : g_dc cX2_reckon 102 (.iconst 0) 1 103 := ⟨by decide +kernel, rfl⟩
theorem e_X2_reckon_103 : g_dc cX2_reckon 103 (.ireturn) 1 104 := ⟨by decide +kernel, rfl⟩
theorem e_X2_reckon_104 : g_dc cX2_reckon 104 (.iload 4) 2 106 := ⟨by decide +kernel, rfl⟩
theorem e_X2_reckon_106 : g_dc cX2_reckon 106 (.iconst 3) 1 107 := ⟨by decide +kernel, rfl⟩
theorem e_X2_reckon_107 : g_dc cX2_reckon 107 (.if_icmp .ne 24) 3 110 := ⟨by decide +kernel, rfl⟩
theorem e_X2_reckon_110 : g_dc cX2_reckon 110 (.aload_n 0) 1 111 := ⟨by decide +kernel, rfl⟩
theorem e_X2_reckon_111 : g_dc cX2_reckon 111 (.getfield 37) 3 114 := ⟨by decide +kernel, rfl⟩
theorem e_X2_reckon_114 : g_dc cX2_reckon 114 (.iload_n 2) 1 115 := ⟨by decide +kernel, rfl⟩
theorem e_X2_reckon_115 : g_dc cX2_reckon 115 (.iconst 1) 1 116 := ⟨by decide +kernel, rfl⟩
theorem e_X2_reckon_116 : g_dc cX2_reckon 116 (.isub) 1 117 := ⟨by decide +kernel, rfl⟩
theorem e_X2_reckon_117 : g_dc cX2_reckon 117 (.iconst 1) 1 118 := ⟨by decide +kernel, rfl⟩
theorem e_X2_reckon_118 : g_dc cX2_reckon 118 (.aload_n 0) 1 119 := ⟨by decide +kernel, rfl⟩
theorem e_X2_reckon_119 : g_dc cX2_reckon 119 (.getfield 37) 3 122 := ⟨by decide +kernel, rfl⟩
theorem e_X2_reckon_122 : g_dc cX2_reckon 122 (.iload_n 2) 1 123 := ⟨by decide +kernel, rfl⟩
theorem e_X2_reckon_123 : g_dc cX2_reckon 123 (.iconst 1) 1 124 := ⟨by decide +kernel, rfl⟩
theorem e_X2_reckon_124 : g_dc cX2_reckon 124 (.isub) 1 125 := ⟨by decide +kernel, rfl⟩
theorem e_X2_reckon_125 : g_dc cX2_reckon 125 (.iaload) 1 126 := ⟨by decide +kernel, rfl⟩
theorem e_X2_reckon_126 : g_dc cX2_reckon 126 (.isub) 1 127 := ⟨by decide +kernel, rfl⟩
theorem e_X2_reckon_127 : g_dc cX2_reckon 127 (.iastore) 1 128 := ⟨by decide +kernel, rfl⟩
theorem e_X2_reckon_128 : g_dc cX2_reckon 128 (.goto 148) 3 131 := ⟨by decide +kernel, rfl⟩
theorem e_X2_reckon_131 : g_dc cX2_reckon 131 (.iload 4) 2 133 := ⟨by decide +kernel, rfl⟩
theorem e_X2_reckon_133 : g_dc cX2_reckon 133 (.iconst 4) 1 134 := ⟨by decide +kernel, rfl⟩
theorem e_X2_reckon_134 : g_dc cX2_reckon 134 (.if_icmp .eq 9) 3 137 := ⟨by decide +kernel, rfl⟩
theorem e_X2_reckon_137 : g_dc cX2_reckon 137 (.iload 4) 2 139 := ⟨by decide +kernel, rfl⟩
theorem e_X2_reckon_139 : g_dc cX2_reckon 139 (.iconst 5) 1 140 := ⟨by decide +kernel, rfl⟩
theorem e_X2_reckon_140 : g_dc cX2_reckon 140 (.if_icmp .ne 74) 3 143 := ⟨by decide +kernel, rfl⟩
theorem e_X2_reckon_143 : g_dc cX2_reckon 143 (.aload_n 0) 1 144 := ⟨by decide +kernel, rfl⟩
theorem e_X2_reckon_144 : g_dc cX2_reckon 144 (.getfield 37) 3 147 := ⟨by decide +kernel, rfl⟩
theorem e_X2_reckon_147 : g_dc cX2_reckon 147 (.iload_n 2) 1 148 := ⟨by decide +kernel, rfl⟩
theorem e_X2_reckon_148 : g_dc cX2_reckon 148 (.iconst 1) 1 149 := ⟨by decide +kernel, rfl⟩
theorem e_X2_reckon_149 : g_dc cX2_reckon 149 (.isub) 1 150 := ⟨by decide +kernel, rfl⟩
theorem e_X2_reckon_150 : g_dc cX2_reckon 150 (.iaload) 1 151 := ⟨by decide +kernel, rfl⟩
theorem e_X2_reckon_151 : g_dc cX2_reckon 151 (.ifCond .eq 7) 3 154 := ⟨by decide +kernel, rfl⟩
theorem e_X2_reckon_154 : g_dc cX2_reckon 154 (.iconst 1) 1 155 := ⟨by decide +kernel, rfl⟩
theorem e_X2_reckon_155 : g_dc cX2_reckon 155 (.goto 4) 3 158 := ⟨by decide +kernel, rfl⟩
theorem e_X2_reckon_158 : g_dc cX2_reckon 158 (.iconst 0) 1 159 := ⟨by decide +kernel, rfl⟩
theorem e_X2_reckon_159 : g_dc cX2_reckon 159 (.iload 4) 2 161 := ⟨by decide +kernel, rfl⟩
theorem e_X2_reckon_161 : g_dc cX2_reckon 161 (.iconst 5) 1 162 := ⟨by decide +kernel, rfl⟩
theorem e_X2_reckon_162 : g_dc cX2_reckon 162 (.if_icmp .ne 7) 3 165 := ⟨by decide +kernel, rfl⟩
theorem e_X2_reckon_165 : g_dc cX2_reckon 165 (.iconst 1) 1 166 := ⟨by decide +kernel, rfl⟩
theorem e_X2_reckon_166 : g_dc cX2_reckon 166 (.goto 4) 3 169 := ⟨by decide +kernel, rfl⟩
theorem e_X2_reckon_169 : g_dc cX2_reckon 169 (.iconst 0) 1 170 := ⟨by decide +kernel, rfl⟩
theorem e_X2_reckon_170 : g_dc cX2_reckon 170 (.if_icmp .ne 7) 3 173 := ⟨by decide +kernel, rfl⟩
theorem e_X2_reckon_173 : g_dc cX2_reckon 173 (.iconst 1) 1 174 := ⟨by decide +kernel, rfl⟩
theorem e_X2_reckon_174 : g_dc cX2_reckon 174 (.goto 4) 3 177 := ⟨by decide +kernel, rfl⟩
theorem e_X2_reckon_177 : g_dc cX2_reckon 177 (.iconst 0) 1 178 := ⟨by decide +kernel, rfl⟩
theorem e_X2_reckon_178 : g_dc cX2_reckon 178 (.istore 6) 2 180 := ⟨by decide +kernel, rfl⟩
theorem e_X2_reckon_180 : g_dc cX2_reckon 180 (.iload 6) 2 182 := ⟨by decide +kernel, rfl⟩
theorem e_X2_reckon_182 : g_dc cX2_reckon 182 (.ifCond .eq 14) 3 185 := ⟨by decide +kernel, rfl⟩
theorem e_X2_reckon_185 : g_dc cX2_reckon 185 (.iload_n 3) 1 186 := ⟨by decide +kernel, rfl⟩
theorem e_X2_reckon_186 : g_dc cX2_reckon 186 (.iload 5) 2 188 := ⟨by decide +kernel, rfl⟩
theorem e_X2_reckon_188 : g_dc cX2_reckon 188 (.iconst 1) 1 189 := ⟨by decide +kernel, rfl⟩
theorem e_X2_reckon_189 : g_dc cX2_reckon 189 (.isub) 1 190 := ⟨by decide +kernel, rfl⟩
theorem e_X2_reckon_190 : g_dc cX2_reckon 190 (.invokestatic 66) 3 193 := ⟨by decide +kernel, rfl⟩
theorem e_X2_reckon_193 : g_dc cX2_reckon 193 (.goto 4) 3 196 := ⟨by decide +kernel, rfl⟩
theorem e_X2_reckon_196 : g_dc cX2_reckon 196 (.iload_n 3) 1 197 := ⟨by decide +kernel, rfl⟩
theorem e_X2_reckon_197 : g_dc cX2_reckon 197 (.istore_n 3) 1 198 := ⟨by decide +kernel, rfl⟩
theorem e_X2_reckon_198 : g_dc cX2_reckon 198 (.iload 6) 2 200 := ⟨by decide +kernel, rfl⟩
theorem e_X2_reckon_200 : g_dc cX2_reckon 200 (.ifCond .eq 7) 3 203 := ⟨by decide +kernel, rfl⟩
theorem e_X2_reckon_203 : g_dc cX2_reckon 203 (.iload_n 2) 1 204 := ⟨by decide +kernel, rfl⟩
theorem e_X2_reckon_204 : g_dc cX2_reckon 204 (.goto 6) 3 207 := ⟨by decide +kernel, rfl⟩
theorem e_X2_reckon_207 : g_dc cX2_reckon 207 (.iload_n 2) 1 208 := ⟨by decide +kernel, rfl⟩
theorem e_X2_reckon_208 : g_dc cX2_reckon 208 (.iconst 1) 1 209 := ⟨by decide +kernel, rfl⟩
theorem e_X2_reckon_209 : g_dc cX2_reckon 209 (.isub) 1 210 := ⟨by decide +kernel, rfl⟩
theorem e_X2_reckon_210 : g_dc cX2_reckon 210 (.istore_n 2) 1 211 := ⟨by decide +kernel, rfl⟩
theorem e_X2_reckon_211 : g_dc cX2_reckon 211 (.goto 65) 3 214 := ⟨by decide +kernel, rfl⟩
theorem e_X2_reckon_214 : g_dc cX2_reckon 214 (.iload_n 2) 1 215 := ⟨by decide +kernel, rfl⟩
theorem e_X2_reckon_215 : g_dc cX2_reckon 215 (.iconst 2) 1 216 := ⟨by decide +kernel, rfl⟩
theorem e_X2_reckon_216 : g_dc cX2_reckon 216 (.if_icmp .lt 28) 3 219 := ⟨by decide +kernel, rfl⟩
theorem e_X2_reckon_219 : g_dc cX2_reckon 219 (.aload_n 0) 1 220 := ⟨by decide +kernel, rfl⟩
theorem e_X2_reckon_220 : g_dc cX2_reckon 220 (.getfield 37) 3 223 := ⟨by decide +kernel, rfl⟩
theorem e_X2_reckon_223 : g_dc cX2_reckon 223 (.iload_n 2) 1 224 := ⟨by decide +kernel, rfl⟩
theorem e_X2_reckon_224 : g_dc cX2_reckon 224 (.iconst 1) 1 225 := ⟨by decide +kernel, rfl⟩
theorem e_X2_reckon_225 : g_dc cX2_reckon 225 (.isub) 1 226 := ⟨by decide +kernel, rfl⟩
theorem e_X2_reckon_226 : g_dc cX2_reckon 226 (.iaload) 1 227 := ⟨by decide +kernel, rfl⟩
theorem e_X2_reckon_227 : g_dc cX2_reckon 227 (.ifCond .ne 19) 3 230 := ⟨by decide +kernel, rfl⟩
theorem e_X2_reckon_230 : g_dc cX2_reckon 230 (.iload 4) 2 232 := ⟨by decide +kernel, rfl⟩
theorem e_X2_reckon_232 : g_dc cX2_reckon 232 (.bipush 9) 2 234 := ⟨by decide +kernel, rfl⟩
theorem e_X2_reckon_234 : g_dc cX2_reckon 234 (.if_icmp .eq 10) 3 237 := ⟨by decide +kernel, rfl⟩
theorem e_X2_reckon_237 : g_dc cX2_reckon 237 (.iload 4) 2 239 := ⟨by decide +kernel, rfl⟩
theorem e_X2_reckon_239 : g_dc cX2_reckon 239 (.bipush 10) 2 241 := ⟨by decide +kernel, rfl⟩
theorem e_X2_reckon_241 : g_dc cX2_reckon 241 (.if_icmp .ne 5) 3 244 := ⟨by decide +kernel, rfl⟩
theorem e_X2_reckon_244 : g_dc cX2_reckon 244 (.iconst 0) 1 245 := ⟨by decide +kernel, rfl⟩
theorem e_X2_reckon_245 : g_dc cX2_reckon 245 (.ireturn) 1 246 := ⟨by decide +kernel, rfl⟩
theorem e_X2_reckon_246 : g_dc cX2_reckon 246 (.iinc 2 (-1)) 3 249 := ⟨by decide +kernel, rfl⟩
theorem e_X2_reckon_249 : g_dc cX2_reckon 249 (.aload_n 0) 1 250 := ⟨by decide +kernel, rfl⟩
theorem e_X2_reckon_250 : g_dc cX2_reckon 250 (.getfield 37) 3 253 := ⟨by decide +kernel, rfl⟩
theorem e_X2_reckon_253 : g_dc cX2_reckon 253 (.iload_n 2) 1 254 := ⟨by decide +kernel, rfl⟩
theorem e_X2_reckon_254 : g_dc cX2_reckon 254 (.iconst 1) 1 255 := ⟨by decide +kernel, rfl⟩
theorem e_X2_reckon_255 : g_dc cX2_reckon 255 (.isub) 1 256 := ⟨by decide +kernel, rfl⟩
theorem e_X2_reckon_256 : g_dc cX2_reckon 256 (.iload 4) 2 258 := ⟨by decide +kernel, rfl⟩
theorem e_X2_reckon_258 : g_dc cX2_reckon 258 (.aload_n 0) 1 259 := ⟨by decide +kernel, rfl⟩
theorem e_X2_reckon_259 : g_dc cX2_reckon 259 (.getfield 37) 3 262 := ⟨by decide +kernel, rfl⟩
theorem e_X2_reckon_262 : g_dc cX2_reckon 262 (.iload_n 2) 1 263 := ⟨by decide +kernel, rfl⟩
theorem e_X2_reckon_263 : g_dc cX2_reckon 263 (.iconst 1) 1 264 := ⟨by decide +kernel, rfl⟩
theorem e_X2_reckon_264 : g_dc cX2_reckon 264 (.isub) 1 265 := ⟨by decide +kernel, rfl⟩
theorem e_X2_reckon_265 : g_dc cX2_reckon 265 (.iaload) 1 266 := ⟨by decide +kernel, rfl⟩
theorem e_X2_reckon_266 : g_dc cX2_reckon 266 (.aload_n 0) 1 267 := ⟨by decide +kernel, rfl⟩
theorem e_X2_reckon_267 : g_dc cX2_reckon 267 (.getfield 37) 3 270 := ⟨by decide +kernel, rfl⟩
theorem e_X2_reckon_270 : g_dc cX2_reckon 270 (.iload_n 2) 1 271 := ⟨by decide +kernel, rfl⟩
theorem e_X2_reckon_271 : g_dc cX2_reckon 271 (.iaload) 1 272 := ⟨by decide +kernel, rfl⟩
theorem e_X2_reckon_272 : g_dc cX2_reckon 272 (.invokestatic 72) 3 275 := ⟨by decide +kernel, rfl⟩
theorem e_X2_reckon_275 : g_dc cX2_reckon 275 (.iastore) 1 276 := ⟨by decide +kernel, rfl⟩
theorem e_X2_reckon_276 : g_dc cX2_reckon 276 (.iinc 3 1) 3 279 := ⟨by decide +kernel, rfl⟩
theorem e_X2_reckon_279 : g_dc cX2_reckon 279 (.goto (-275)) 3 282 := ⟨by decide +kernel, rfl⟩
theorem e_X2_reckon_282 : g_dc cX2_reckon 282 (.iload_n 2) 1 283 := ⟨by decide +kernel, rfl⟩
theorem e_X2_reckon_283 : g_dc cX2_reckon 283 (.ifCond .le 14) 3 286 := ⟨by decide +kernel, rfl⟩
theorem e_X2_reckon_286 : g_dc cX2_reckon 286 (.aload_n 0) 1 287 := ⟨by decide +kernel, rfl⟩
theorem e_X2_reckon_287 : g_dc cX2_reckon 287 (.getfield 37) 3 290 := ⟨by decide +kernel, rfl⟩
theorem e_X2_reckon_290 : g_dc cX2_reckon 290 (.iload_n 2) 1 291 := ⟨by decide +kernel, rfl⟩
theorem e_X2_reckon_291 : g_dc cX2_reckon 291 (.iconst 1) 1 292 := ⟨by decide +kernel, rfl⟩
theorem e_X2_reckon_292 : g_dc cX2_reckon 292 (.isub) 1 293 := ⟨by decide +kernel, rfl⟩
theorem e_X2_reckon_293 : g_dc cX2_reckon 293 (.iaload) 1 294 := ⟨by decide +kernel, rfl⟩
theorem e_X2_reckon_294 : g_dc cX2_reckon 294 (.goto 4) 3 297 := ⟨by decide +kernel, rfl⟩
theorem e_X2_reckon_297 : g_dc cX2_reckon 297 (.iconst 0) 1 298 := ⟨by decide +kernel, rfl⟩
theorem e_X2_reckon_298 : g_dc cX2_reckon 298 (.ireturn) 1 299 := ⟨by decide +kernel, rfl⟩
def md_X2_reckon_17 : List Nat := []
def mr_X2_reckon_17 : List Nat := [24]
set_option maxHeartbeats 4000000 in
set_option maxRecDepth 100000 in
theorem w_X2_reckon_17 (l : Launch) (X : gX) (ad : Nat → Nat) (F : Nat → Int32) (R : Nat → Nat → Int32) (hI : g_ok LK_wX F) (hA : g_okR LA_wX R) (a0 : Int32) : g_Ci l X yX2_reckon cX2_reckon 7 (some .int) 2 0 0 [.ref (ad 17), .int a0] (wX X ad F R) (fun r w => ∃ (F' : Nat → Int32) (R' : Nat → Nat → Int32), w = wX X ad F' R' ∧ g_ok LK_wX F' ∧ g_okR LA_wX R' ∧ g_fr md_X2_reckon_17 F F' ∧ g_fr mr_X2_reckon_17 R R' ∧ jv (-2147483648) 2147483647 r ∧ (r, F', R') = sp_X2_reckon_17 F R a0) := by
  refine g_mi (by decide +kernel) (Nat.le_of_ble_eq_true rfl) (fun E cx hret => ?_)
  obtain ⟨SP, hSP⟩ : ∃ z, z = sp_X2_reckon_17 F R a0 := ⟨_, rfl⟩
  have hk0 := hSP
  unfold sp_X2_reckon_17 at hk0
  refine g_iconst cx 0 (by decide) e_X2_reckon_0 ?_
  refine g_istore_n cx [(2, .int 0), (0, .ref (ad 17)), (1, .int a0)] e_X2_reckon_1 (by decide) rfl ?_
  refine g_iload_n cx 2 rfl e_X2_reckon_2 ?_
  refine g_istore_n cx [(3, .int a0), (2, .int 0), (0, .ref (ad 17)), (1, .int a0)] e_X2_reckon_3 (by decide) rfl ?_
  have J4 : ∀ (N : Nat) (R3 : Nat → Nat → Int32) (y1 : Int32) (y2 : Int32), (g_okR LA_wX R3) → (g_fr mr_X2_reckon_17 R R3) → (jv 0 32 y1) → (jv (-2147483648) 2147483647 y2) → (SP = K_X2_reckon_17_4 F N R3 y1 y2) → g_mz y2 < N → G X E 7 0 0 (wX X ad F R3) [(0, .ref (ad 17)), (2, .int y1), (3, .int y2)] 4 [] := by
    intro N
    induction N with
    | zero => intro R3 y1 y2 oR3 fR3 py1 py2 hkJ4 hm; exact absurd hm (Nat.not_lt_zero _)
    | succ N ih4 =>
      intro R3 y1 y2 oR3 fR3 py1 py2 hkJ4 hm4
      have hkK4 : SP = KB_X2_reckon_17_4 (K_X2_reckon_17_4 F N) F R3 y1 y2 := hkJ4
      obtain ⟨b4, hb4⟩ : ∃ z, z = K_X2_reckon_17_4 F N := ⟨_, rfl⟩
      rw [← hb4] at hkK4
      unfold KB_X2_reckon_17_4 at hkK4
      refine g_iload_n cx 2 rfl e_X2_reckon_4 ?_
      have J282 : (SP = K_X2_reckon_17_282 F R3 y1) → G X E 7 0 0 (wX X ad F R3) [(0, .ref (ad 17)), (2, .int y1)] 282 [] := by
        intro   hkJ282
        unfold K_X2_reckon_17_282 at hkJ282
        refine g_iload_n cx 1 rfl e_X2_reckon_282 ?_
        have J298 : ∀ (y4 : Int32), (jv (-2147483648) 2147483647 y4) → (SP = K_X2_reckon_17_298 F R3 y4) → G X E 7 0 0 (wX X ad F R3) [] 298 [.int y4] := by
          intro y4 py4 hkJ298
          unfold K_X2_reckon_17_298 at hkJ298
          exact hret e_X2_reckon_298 (Nat.le_of_ble_eq_true rfl) (Nat.le_of_ble_eq_true rfl) rfl ⟨F, R3, rfl, hI, oR3, (g_fr_rf F), fR3, py4, (hkJ298.symm.trans hSP)⟩
        refine g_if_le cx 297 e_X2_reckon_283 (by decide) (fun zc5 => ?_) (fun zc5 => ?_)
        · have p6 := gn_le 0 0 (gc_le zc5) py1 (jv_k (x := 0) 0 (by decide)) (by decide)
          have hk7 := hkJ282.trans (if_pos zc5)
          refine g_iconst cx 0 (by decide) e_X2_reckon_297 ?_
          refine g_lsub [] [] rfl ?_
          exact J298 0 (jv_w (jv_k (x := 0) 0 (by decide)) (by decide)) hk7
        · have p8 := gn_gt 1 32 (gc_nle zc5) py1 (jv_k (x := 0) 0 (by decide)) (by decide)
          have hk9 := hkJ282.trans (if_neg zc5)
          refine g_aload_n cx 0 rfl e_X2_reckon_286 ?_
          refine g_get cx cl_X2 fl_X2_37 17 (.ref (ad 24)) e_X2_reckon_287 rfl rfl ?_
          refine g_iload_n cx 1 rfl e_X2_reckon_290 ?_
          refine g_iconst cx 1 (by decide) e_X2_reckon_291 ?_
          refine g_isub cx e_X2_reckon_292 ?_
          refine g_topi (fun x10 ex10 => ?_)
          have hk11 := k_ls hk9 ex10
          have zx10 := jv_sub 0 31 ex10 p8 (jv_k (x := 1) 1 (by decide)) (by decide)
          refine g_iald cx 24 e_X2_reckon_293 rfl (jv_ix 32 zx10.2 (by decide)) ?_
          refine g_topi (fun x12 ex12 => ?_)
          have hk13 := k_ls hk11 ex12
          refine g_goto cx 298 e_X2_reckon_294 (by decide) ?_
          refine g_lsub [] [] rfl ?_
          exact J298 x12 (jv_t x12) hk13
      refine g_if_lt cx 282 e_X2_reckon_5 (by decide) (fun zc14 => ?_) (fun zc14 => ?_)
      · have p15 := gn_lt (-2147483648) (-1) (gc_lt zc14) py2 (jv_k (x := 0) 0 (by decide)) (by decide)
        have hk16 := hkK4.trans (if_pos zc14)
        refine g_lsub [0, 1] [(0, .ref (ad 17)), (2, .int y1)] rfl ?_
        exact J282  hk16
      · have p17 := gn_ge 0 2147483647 (gc_nlt zc14) py2 (jv_k (x := 0) 0 (by decide)) (by decide)
        have hk18 := hkK4.trans (if_neg zc14)
        refine g_iload_n cx 2 rfl e_X2_reckon_8 ?_
        refine g_aload_n cx 0 rfl e_X2_reckon_9 ?_
        refine g_get cx cl_X2 fl_X2_18 17 (.int (F 274)) e_X2_reckon_10 rfl rfl ?_
        refine g_icmp_ge cx 282 e_X2_reckon_13 (by decide) (fun zc19 => ?_) (fun zc19 => ?_)
        · have hk20 := hk18.trans (if_pos zc19)
          refine g_lsub [0, 1] [(0, .ref (ad 17)), (2, .int y1)] rfl ?_
          exact J282  hk20
        · have p21 := gn_lt 0 255 (gc_nle zc19) p17 (g_ok_g hI 5 rfl) (by decide)
          have p22 := gn_gt 1 256 (gc_nle zc19) (g_ok_g hI 5 rfl) p17 (by decide)
          have hk23 := hk18.trans (if_neg zc19)
          refine g_iload_n cx 2 rfl e_X2_reckon_16 ?_
          refine g_sipush cx 256 (by decide) e_X2_reckon_17 ?_
          refine g_icmp_ge cx 282 e_X2_reckon_20 (by decide) (fun zc24 => ?_) (fun zc24 => ?_)
          · exact (gf_le (gc_le zc24) (jv_k (x := 256) 256 (by decide)) p21 (by decide)).elim
          · refine g_aload_n cx 0 rfl e_X2_reckon_23 ?_
            refine g_get cx cl_X2 fl_X2_11 17 (.ref (ad 18)) e_X2_reckon_24 rfl rfl ?_
            refine g_iload_n cx 2 rfl e_X2_reckon_27 ?_
            refine g_iald cx 18 e_X2_reckon_28 rfl (jv_ix 256 p21 (by decide)) ?_
            refine g_topi (fun x25 ex25 => ?_)
            have hk26 := k_ls hk23 ex25
            refine g_if_eq cx 282 e_X2_reckon_29 (by decide) (fun zc27 => ?_) (fun zc27 => ?_)
            · have p28 := gn_eq 0 0 (gc_eq zc27) (jv_t x25) (jv_k (x := 0) 0 (by decide)) (by decide)
              have hk29 := hk26.trans (if_pos zc27)
              refine g_lsub [0, 1] [(0, .ref (ad 17)), (2, .int y1)] rfl ?_
              exact J282  hk29
            · have hk30 := hk26.trans (if_neg zc27)
              refine g_aload_n cx 0 rfl e_X2_reckon_32 ?_
              refine g_get cx cl_X2 fl_X2_11 17 (.ref (ad 18)) e_X2_reckon_33 rfl rfl ?_
              refine g_iload_n cx 2 rfl e_X2_reckon_36 ?_
              refine g_iald cx 18 e_X2_reckon_37 rfl (jv_ix 256 p21 (by decide)) ?_
              refine g_topi (fun x31 ex31 => ?_)
              have hk32 := k_ls hk30 ex31
              refine g_istore cx [(4, .int x31), (0, .ref (ad 17)), (2, .int y1), (3, .int y2)] e_X2_reckon_38 (by decide) rfl ?_
              refine g_aload_n cx 1 rfl e_X2_reckon_40 ?_
              refine g_get cx cl_X2 fl_X2_15 17 (.ref (ad 19)) e_X2_reckon_41 rfl rfl ?_
              refine g_iload_n cx 3 rfl e_X2_reckon_44 ?_
              refine g_iald cx 19 e_X2_reckon_45 rfl (jv_ix 256 p21 (by decide)) ?_
              refine g_topi (fun x33 ex33 => ?_)
              have hk34 := k_ls hk32 ex33
              refine g_istore cx [(5, .int x33), (4, .int x31), (0, .ref (ad 17)), (2, .int y1), (3, .int y2)] e_X2_reckon_46 (by decide) rfl ?_
              refine g_iload cx 1 rfl e_X2_reckon_48 ?_
              refine g_iconst cx 1 (by decide) e_X2_reckon_50 ?_
              have J276 : ∀ (R37 : Nat → Nat → Int32) (y35 : Int32) (y36 : Int32), (g_okR LA_wX R37) → (g_fr mr_X2_reckon_17 R R37) → (jv 0 32 y35) → (jv 0 2147483647 y36) → (y2.toInt ≤ y36.toInt) → (SP = K_X2_reckon_17_276 b4 R37 y35 y36) → G X E 7 0 0 (wX X ad F R37) [(0, .ref (ad 17)), (2, .int y35), (3, .int y36)] 276 [] := by
                intro R37 y35 y36 oR37 fR37 py35 py36 zi276_0 hkJ276
                unfold K_X2_reckon_17_276 at hkJ276
                obtain ⟨x38, ex38⟩ : ∃ z : Int32, z = y36 + Int32.ofInt 1 := ⟨_, rfl⟩
                have hk39 := k_ls hkJ276 (show x38 = y36 + 1 from ex38)
                refine g_iinc cx x38 [(3, .int x38), (0, .ref (ad 17)), (2, .int y35)] 2 e_X2_reckon_276 rfl ex38.symm (by decide) rfl ?_
                refine g_goto cx 4 e_X2_reckon_279 (by decide) ?_
                refine g_lsub [1, 2, 0] [(0, .ref (ad 17)), (2, .int y35), (3, .int x38)] rfl ?_
                exact ih4 R37 y35 x38 oR37 fR37 py35 (jv_t x38) (hk39.trans (by rw [hb4])) (Nat.lt_of_lt_of_le (show g_mz x38 < g_mz y2 from g_mz_lt p21 (show x38 = y36 + 1 from ex38) (by have q0 := (jv_k (x := 0) 0 (by decide)).1; have q1 := (jv_k (x := 0) 0 (by decide)).2; have q2 := (jv_k (x := 256) 256 (by decide)).1; have q3 := (jv_k (x := 256) 256 (by decide)).2; have q4 := p22.1; have q5 := p22.2; have q6 := (jv_t x25).1; have q7 := (jv_t x25).2; have q8 := p21.1; have q9 := p21.2; have q10 := py36.1; have q11 := py36.2; have q12 := (gc_nlt zc14); have q13 := (gc_nle zc19); have q14 := (gc_nle zc24); have q15 := (gc_ne zc27); have q16 := zi276_0; omega)) (Nat.le_of_lt_succ hm4))
              have J60 : (SP = K_X2_reckon_17_60 b4 F R3 x31 x33 y1 y2) → G X E 7 0 0 (wX X ad F R3) [(0, .ref (ad 17)), (2, .int y1), (3, .int y2), (4, .int x31), (5, .int x33)] 60 [] := by
                intro   hkJ60
                unfold K_X2_reckon_17_60 at hkJ60
                refine g_iload_n cx 1 rfl e_X2_reckon_60 ?_
                refine g_bipush cx 32 (by decide) e_X2_reckon_61 ?_
                refine g_icmp_lt cx 68 e_X2_reckon_63 (by decide) (fun zc40 => ?_) (fun zc40 => ?_)
                · have p41 := gn_lt 0 31 (gc_lt zc40) py1 (jv_k (x := 32) 32 (by decide)) (by decide)
                  have hk42 := hkJ60.trans (if_pos zc40)
                  refine g_aload_n cx 0 rfl e_X2_reckon_68 ?_
                  refine g_get cx cl_X2 fl_X2_37 17 (.ref (ad 24)) e_X2_reckon_69 rfl rfl ?_
                  refine g_iload_n cx 1 rfl e_X2_reckon_72 ?_
                  refine g_iload cx 3 rfl e_X2_reckon_73 ?_
                  refine g_iconst cx 1 (by decide) e_X2_reckon_75 ?_
                  have J90 : ∀ (y43 : Int32), (jv (-2147483648) 2147483647 y43) → (SP = K_X2_reckon_17_90 b4 R3 y1 y2 y43) → G X E 7 0 0 (wX X ad F R3) [(0, .ref (ad 17)), (2, .int y1), (3, .int y2)] 90 [.int y43, .int y1, .ref (ad 24)] := by
                    intro y43 py43 hkJ90
                    unfold K_X2_reckon_17_90 at hkJ90
                    refine g_iast cx 24 (wX X ad F (g_u R3 24 (upd (R3 24) (Int32.toNatClampNeg y1) y43))) e_X2_reckon_90 rfl (jv_ix 32 p41 (by decide)) rfl ?_
                    obtain ⟨R44, hR44⟩ : ∃ z, z = g_u R3 24 (upd (R3 24) (Int32.toNatClampNeg y1) y43) := ⟨_, rfl⟩
                    rw [← hR44]
                    have hk45 := k_ls hkJ90 hR44
                    have oR44 : g_okR LA_wX R44 := by rw [hR44]; exact g_okR_u oR3 rfl
                    have fR44 : g_fr mr_X2_reckon_17 R R44 := by rw [hR44]; exact g_fr_r fR3 rfl
                    obtain ⟨x46, ex46⟩ : ∃ z : Int32, z = y1 + Int32.ofInt 1 := ⟨_, rfl⟩
                    have hk47 := k_ls hk45 (show x46 = y1 + 1 from ex46)
                    refine g_iinc cx x46 [(2, .int x46), (0, .ref (ad 17)), (3, .int y2)] 1 e_X2_reckon_91 rfl ex46.symm (by decide) rfl ?_
                    have zx46 := jv_add 1 32 (show x46 = y1 + 1 from ex46) p41 (jv_k (x := 1) 1 (by decide)) (by decide)
                    refine g_goto cx 276 e_X2_reckon_94 (by decide) ?_
                    refine g_lsub [1, 0, 2] [(0, .ref (ad 17)), (2, .int x46), (3, .int y2)] rfl ?_
                    exact J276 R44 x46 y2 oR44 fR44 (jv_w zx46.2 (by decide)) (jv_w p21 (by decide)) (by have q0 := (jv_k (x := 0) 0 (by decide)).1; have q1 := (jv_k (x := 0) 0 (by decide)).2; have q2 := (jv_k (x := 256) 256 (by decide)).1; have q3 := (jv_k (x := 256) 256 (by decide)).2; have q4 := p22.1; have q5 := p22.2; have q6 := (jv_t x25).1; have q7 := (jv_t x25).2; have q8 := p21.1; have q9 := p21.2; have q10 := (gc_nlt zc14); have q11 := (gc_nle zc19); have q12 := (gc_nle zc24); have q13 := (gc_ne zc27); omega) hk47
                  refine g_icmp_ne cx 84 e_X2_reckon_76 (by decide) (fun zc48 => ?_) (fun zc48 => ?_)
                  · have hk49 := hk42.trans (if_neg zc48)
                    refine g_aload_n cx 0 rfl e_X2_reckon_84 ?_
                    refine g_iload cx 4 rfl e_X2_reckon_85 ?_
                    refine g_cViW cx [.int x33] [.int y1, .ref (ad 24)] (w_X2_toldOf_17 l X ad F R3 hI oR3 x33) ml_X2_69 yV_X2_toldOf e_X2_reckon_87 (by unfold g_rr; decide) (by decide) 17 rfl rfl rfl (Nat.le_of_ble_eq_true rfl) (fun r50 w51 h52 => ?_)
                    obtain ⟨rfl, pr50, hx53⟩ := h52
                    have hk54 := k_ls hk49 hx53
                    refine g_lsub [0, 1, 2] [(0, .ref (ad 17)), (2, .int y1), (3, .int y2)] rfl ?_
                    exact J90 r50 pr50 hk54
                  · have p55 := gn_eq 1 1 (gc_eq zc48) (jv_t x31) (jv_k (x := 1) 1 (by decide)) (by decide)
                    have hk56 := hk42.trans (if_pos zc48)
                    refine g_iload cx 4 rfl e_X2_reckon_79 ?_
                    refine g_goto cx 90 e_X2_reckon_81 (by decide) ?_
                    refine g_lsub [0, 1, 2] [(0, .ref (ad 17)), (2, .int y1), (3, .int y2)] rfl ?_
                    exact J90 x33 (jv_t x33) hk56
                · have p57 := gn_ge 32 32 (gc_nlt zc40) py1 (jv_k (x := 32) 32 (by decide)) (by decide)
                  have hk58 := hkJ60.trans (if_neg zc40)
                  refine g_iconst cx 0 (by decide) e_X2_reckon_66 ?_
                  exact hret e_X2_reckon_67 (Nat.le_of_ble_eq_true rfl) (Nat.le_of_ble_eq_true rfl) rfl ⟨F, R3, rfl, hI, oR3, (g_fr_rf F), fR3, (jv_w (jv_k (x := 0) 0 (by decide)) (by decide)), (hk58.symm.trans hSP)⟩
              refine g_icmp_eq cx 60 e_X2_reckon_51 (by decide) (fun zc59 => ?_) (fun zc59 => ?_)
              · have p60 := gn_eq 1 1 (gc_eq zc59) (jv_t x31) (jv_k (x := 1) 1 (by decide)) (by decide)
                have hk61 := hk34.trans (if_pos zc59)
                refine g_lsub [2, 3, 4, 1, 0] [(0, .ref (ad 17)), (2, .int y1), (3, .int y2), (4, .int x31), (5, .int x33)] rfl ?_
                exact J60  hk61
              · have hk62 := hk34.trans (if_neg zc59)
                refine g_iload cx 1 rfl e_X2_reckon_54 ?_
                refine g_iconst cx 2 (by decide) e_X2_reckon_56 ?_
                refine g_icmp_ne cx 97 e_X2_reckon_57 (by decide) (fun zc63 => ?_) (fun zc63 => ?_)
                · have hk64 := hk62.trans (if_neg zc63)
                  refine g_iload_n cx 3 rfl e_X2_reckon_97 ?_
                  refine g_iconst cx 1 (by decide) e_X2_reckon_98 ?_
                  refine g_icmp_ge cx 104 e_X2_reckon_99 (by decide) (fun zc65 => ?_) (fun zc65 => ?_)
                  · have p66 := gn_ge 1 32 (gc_le zc65) py1 (jv_k (x := 1) 1 (by decide)) (by decide)
                    have hk67 := hk64.trans (if_pos zc65)
                    refine g_iload cx 1 rfl e_X2_reckon_104 ?_
                    refine g_iconst cx 3 (by decide) e_X2_reckon_106 ?_
                    refine g_icmp_ne cx 131 e_X2_reckon_107 (by decide) (fun zc68 => ?_) (fun zc68 => ?_)
                    · have hk69 := hk67.trans (if_neg zc68)
                      refine g_iload cx 1 rfl e_X2_reckon_131 ?_
                      refine g_iconst cx 4 (by decide) e_X2_reckon_133 ?_
                      have J143 : (SP = K_X2_reckon_17_143 b4 R3 x31 x33 y1 y2) → G X E 7 0 0 (wX X ad F R3) [(0, .ref (ad 17)), (2, .int y1), (3, .int y2), (4, .int x31), (5, .int x33)] 143 [] := by
                        intro   hkJ143
                        unfold K_X2_reckon_17_143 at hkJ143
                        refine g_aload_n cx 0 rfl e_X2_reckon_143 ?_
                        refine g_get cx cl_X2 fl_X2_37 17 (.ref (ad 24)) e_X2_reckon_144 rfl rfl ?_
                        refine g_iload_n cx 1 rfl e_X2_reckon_147 ?_
                        refine g_iconst cx 1 (by decide) e_X2_reckon_148 ?_
                        refine g_isub cx e_X2_reckon_149 ?_
                        refine g_topi (fun x70 ex70 => ?_)
                        have hk71 := k_ls hkJ143 ex70
                        have zx70 := jv_sub 0 31 ex70 p66 (jv_k (x := 1) 1 (by decide)) (by decide)
                        refine g_iald cx 24 e_X2_reckon_150 rfl (jv_ix 32 zx70.2 (by decide)) ?_
                        refine g_topi (fun x72 ex72 => ?_)
                        have hk73 := k_ls hk71 ex72
                        have J159 : ∀ (y74 : Int32), (jv 0 1 y74) → (SP = K_X2_reckon_17_159 b4 R3 x31 x33 y1 y2 y74) → G X E 7 0 0 (wX X ad F R3) [(0, .ref (ad 17)), (2, .int y1), (3, .int y2), (4, .int x31), (5, .int x33)] 159 [.int y74] := by
                          intro y74 py74 hkJ159
                          unfold K_X2_reckon_17_159 at hkJ159
                          refine g_iload cx 3 rfl e_X2_reckon_159 ?_
                          refine g_iconst cx 5 (by decide) e_X2_reckon_161 ?_
                          have J170 : ∀ (y75 : Int32), (jv 0 1 y75) → (SP = K_X2_reckon_17_170 b4 R3 x33 y1 y2 y74 y75) → G X E 7 0 0 (wX X ad F R3) [(0, .ref (ad 17)), (2, .int y1), (3, .int y2), (5, .int x33)] 170 [.int y75, .int y74] := by
                            intro y75 py75 hkJ170
                            unfold K_X2_reckon_17_170 at hkJ170
                            have J178 : ∀ (y76 : Int32), (jv 0 1 y76) → (SP = K_X2_reckon_17_178 b4 R3 x33 y1 y2 y76) → G X E 7 0 0 (wX X ad F R3) [(0, .ref (ad 17)), (2, .int y1), (3, .int y2), (5, .int x33)] 178 [.int y76] := by
                              intro y76 py76 hkJ178
                              unfold K_X2_reckon_17_178 at hkJ178
                              refine g_istore cx [(6, .int y76), (0, .ref (ad 17)), (2, .int y1), (3, .int y2), (5, .int x33)] e_X2_reckon_178 (by decide) rfl ?_
                              refine g_iload cx 0 rfl e_X2_reckon_180 ?_
                              have J197 : ∀ (y77 : Int32), (jv 0 2147483647 y77) → (y2.toInt ≤ y77.toInt) → (SP = K_X2_reckon_17_197 b4 R3 y1 y76 y77) → G X E 7 0 0 (wX X ad F R3) [(0, .ref (ad 17)), (2, .int y1), (6, .int y76)] 197 [.int y77] := by
                                intro y77 py77 zi197_0 hkJ197
                                unfold K_X2_reckon_17_197 at hkJ197
                                refine g_istore_n cx [(3, .int y77), (0, .ref (ad 17)), (2, .int y1), (6, .int y76)] e_X2_reckon_197 (by decide) rfl ?_
                                refine g_iload cx 3 rfl e_X2_reckon_198 ?_
                                have J210 : ∀ (y78 : Int32), (jv 0 32 y78) → (SP = K_X2_reckon_17_210 b4 R3 y77 y78) → G X E 7 0 0 (wX X ad F R3) [(0, .ref (ad 17)), (3, .int y77)] 210 [.int y78] := by
                                  intro y78 py78 hkJ210
                                  unfold K_X2_reckon_17_210 at hkJ210
                                  refine g_istore_n cx [(2, .int y78), (0, .ref (ad 17)), (3, .int y77)] e_X2_reckon_210 (by decide) rfl ?_
                                  refine g_goto cx 276 e_X2_reckon_211 (by decide) ?_
                                  refine g_lsub [1, 0, 2] [(0, .ref (ad 17)), (2, .int y78), (3, .int y77)] rfl ?_
                                  exact J276 R3 y78 y77 oR3 fR3 py78 py77 (by have q0 := (jv_k (x := 0) 0 (by decide)).1; have q1 := (jv_k (x := 0) 0 (by decide)).2; have q2 := (jv_k (x := 256) 256 (by decide)).1; have q3 := (jv_k (x := 256) 256 (by decide)).2; have q4 := p22.1; have q5 := p22.2; have q6 := (jv_t x25).1; have q7 := (jv_t x25).2; have q8 := p21.1; have q9 := p21.2; have q10 := py77.1; have q11 := py77.2; have q12 := (gc_nlt zc14); have q13 := (gc_nle zc19); have q14 := (gc_nle zc24); have q15 := (gc_ne zc27); have q16 := zi197_0; omega) hkJ210
                                refine g_if_eq cx 207 e_X2_reckon_200 (by decide) (fun zc79 => ?_) (fun zc79 => ?_)
                                · have p80 := gn_eq 0 0 (gc_eq zc79) py76 (jv_k (x := 0) 0 (by decide)) (by decide)
                                  have hk81 := hkJ197.trans (if_pos zc79)
                                  refine g_iload_n cx 2 rfl e_X2_reckon_207 ?_
                                  refine g_iconst cx 1 (by decide) e_X2_reckon_208 ?_
                                  refine g_isub cx e_X2_reckon_209 ?_
                                  refine g_topi (fun x82 ex82 => ?_)
                                  have hk83 := k_ls hk81 ex82
                                  have zx82 := jv_sub 0 31 ex82 p66 (jv_k (x := 1) 1 (by decide)) (by decide)
                                  refine g_lsub [1, 0] [(0, .ref (ad 17)), (3, .int y77)] rfl ?_
                                  exact J210 x82 (jv_w zx82.2 (by decide)) hk83
                                · have p84 := gn_neL 1 1 (gc_ne zc79) py76 (jv_k (x := 0) 0 (by decide)) (by decide)
                                  have hk85 := hkJ197.trans (if_neg zc79)
                                  refine g_iload_n cx 2 rfl e_X2_reckon_203 ?_
                                  refine g_goto cx 210 e_X2_reckon_204 (by decide) ?_
                                  refine g_lsub [1, 0] [(0, .ref (ad 17)), (3, .int y77)] rfl ?_
                                  exact J210 y1 (jv_w p66 (by decide)) hk85
                              refine g_if_eq cx 196 e_X2_reckon_182 (by decide) (fun zc86 => ?_) (fun zc86 => ?_)
                              · have p87 := gn_eq 0 0 (gc_eq zc86) py76 (jv_k (x := 0) 0 (by decide)) (by decide)
                                have hk88 := hkJ178.trans (if_pos zc86)
                                refine g_iload_n cx 3 rfl e_X2_reckon_196 ?_
                                refine g_lsub [1, 2, 0] [(0, .ref (ad 17)), (2, .int y1), (6, .int y76)] rfl ?_
                                exact J197 y2 (jv_w p21 (by decide)) (by have q0 := (jv_k (x := 0) 0 (by decide)).1; have q1 := (jv_k (x := 0) 0 (by decide)).2; have q2 := (jv_k (x := 256) 256 (by decide)).1; have q3 := (jv_k (x := 256) 256 (by decide)).2; have q4 := p22.1; have q5 := p22.2; have q6 := (jv_t x25).1; have q7 := (jv_t x25).2; have q8 := p21.1; have q9 := p21.2; have q10 := p87.1; have q11 := p87.2; have q12 := (gc_nlt zc14); have q13 := (gc_nle zc19); have q14 := (gc_nle zc24); have q15 := (gc_ne zc27); have q16 := (gc_eq zc86); omega) hk88
                              · have p89 := gn_neL 1 1 (gc_ne zc86) py76 (jv_k (x := 0) 0 (by decide)) (by decide)
                                have hk90 := hkJ178.trans (if_neg zc86)
                                refine g_iload_n cx 3 rfl e_X2_reckon_185 ?_
                                refine g_iload cx 4 rfl e_X2_reckon_186 ?_
                                refine g_iconst cx 1 (by decide) e_X2_reckon_188 ?_
                                refine g_isub cx e_X2_reckon_189 ?_
                                refine g_topi (fun x91 ex91 => ?_)
                                have hk92 := k_ls hk90 ex91
                                refine g_mmax cx ml_X2_66 e_X2_reckon_190 ⟨Nat.le_of_ble_eq_true rfl, Nat.le_of_ble_eq_true rfl⟩ (by decide) ?_
                                refine g_topi (fun x93 ex93 => ?_)
                                have hk94 := k_ls hk92 ex93
                                have px93 := jv_max 0 2147483647 ex93 p21 (jv_t x91) (by decide)
                                refine g_goto cx 197 e_X2_reckon_193 (by decide) ?_
                                refine g_lsub [1, 2, 0] [(0, .ref (ad 17)), (2, .int y1), (6, .int y76)] rfl ?_
                                exact J197 x93 px93 (by have q0 := (jv_k (x := 0) 0 (by decide)).1; have q1 := (jv_k (x := 0) 0 (by decide)).2; have q2 := (jv_k (x := 256) 256 (by decide)).1; have q3 := (jv_k (x := 256) 256 (by decide)).2; have q4 := p22.1; have q5 := p22.2; have q6 := (jv_t x25).1; have q7 := (jv_t x25).2; have q8 := (jv_t x91).1; have q9 := (jv_t x91).2; have q10 := px93.1; have q11 := px93.2; have q12 := p21.1; have q13 := p21.2; have q14 := p89.1; have q15 := p89.2; have q16 := (gc_nlt zc14); have q17 := (gc_nle zc19); have q18 := (gc_nle zc24); have q19 := (gc_ne zc27); have q20 := (gc_ne zc86); have q21 := (g_max1 ex93); have q22 := (g_max2 ex93); omega) hk94
                            refine g_icmp_ne cx 177 e_X2_reckon_170 (by decide) (fun zc95 => ?_) (fun zc95 => ?_)
                            · have hk96 := hkJ170.trans (if_neg zc95)
                              refine g_iconst cx 0 (by decide) e_X2_reckon_177 ?_
                              exact J178 0 (jv_w (jv_k (x := 0) 0 (by decide)) (by decide)) hk96
                            · have hk97 := hkJ170.trans (if_pos zc95)
                              refine g_iconst cx 1 (by decide) e_X2_reckon_173 ?_
                              refine g_goto cx 178 e_X2_reckon_174 (by decide) ?_
                              exact J178 1 (jv_w (jv_k (x := 1) 1 (by decide)) (by decide)) hk97
                          refine g_icmp_ne cx 169 e_X2_reckon_162 (by decide) (fun zc98 => ?_) (fun zc98 => ?_)
                          · have hk99 := hkJ159.trans (if_neg zc98)
                            refine g_iconst cx 0 (by decide) e_X2_reckon_169 ?_
                            refine g_lsub [0, 1, 2, 4] [(0, .ref (ad 17)), (2, .int y1), (3, .int y2), (5, .int x33)] rfl ?_
                            exact J170 0 (jv_w (jv_k (x := 0) 0 (by decide)) (by decide)) hk99
                          · have p100 := gn_eq 5 5 (gc_eq zc98) (jv_t x31) (jv_k (x := 5) 5 (by decide)) (by decide)
                            have hk101 := hkJ159.trans (if_pos zc98)
                            refine g_iconst cx 1 (by decide) e_X2_reckon_165 ?_
                            refine g_goto cx 170 e_X2_reckon_166 (by decide) ?_
                            refine g_lsub [0, 1, 2, 4] [(0, .ref (ad 17)), (2, .int y1), (3, .int y2), (5, .int x33)] rfl ?_
                            exact J170 1 (jv_w (jv_k (x := 1) 1 (by decide)) (by decide)) hk101
                        refine g_if_eq cx 158 e_X2_reckon_151 (by decide) (fun zc102 => ?_) (fun zc102 => ?_)
                        · have p103 := gn_eq 0 0 (gc_eq zc102) (jv_t x72) (jv_k (x := 0) 0 (by decide)) (by decide)
                          have hk104 := hk73.trans (if_pos zc102)
                          refine g_iconst cx 0 (by decide) e_X2_reckon_158 ?_
                          exact J159 0 (jv_w (jv_k (x := 0) 0 (by decide)) (by decide)) hk104
                        · have hk105 := hk73.trans (if_neg zc102)
                          refine g_iconst cx 1 (by decide) e_X2_reckon_154 ?_
                          refine g_goto cx 159 e_X2_reckon_155 (by decide) ?_
                          exact J159 1 (jv_w (jv_k (x := 1) 1 (by decide)) (by decide)) hk105
                      refine g_icmp_eq cx 143 e_X2_reckon_134 (by decide) (fun zc106 => ?_) (fun zc106 => ?_)
                      · have p107 := gn_eq 4 4 (gc_eq zc106) (jv_t x31) (jv_k (x := 4) 4 (by decide)) (by decide)
                        have hk108 := hk69.trans (if_pos zc106)
                        refine g_lsub [2, 3, 4, 1, 0] [(0, .ref (ad 17)), (2, .int y1), (3, .int y2), (4, .int x31), (5, .int x33)] rfl ?_
                        exact J143  hk108
                      · have hk109 := hk69.trans (if_neg zc106)
                        refine g_iload cx 1 rfl e_X2_reckon_137 ?_
                        refine g_iconst cx 5 (by decide) e_X2_reckon_139 ?_
                        refine g_icmp_ne cx 214 e_X2_reckon_140 (by decide) (fun zc110 => ?_) (fun zc110 => ?_)
                        · have hk111 := hk109.trans (if_neg zc110)
                          refine g_iload_n cx 3 rfl e_X2_reckon_214 ?_
                          refine g_iconst cx 2 (by decide) e_X2_reckon_215 ?_
                          have J244 : (SP = K_X2_reckon_17_244 F R3) → G X E 7 0 0 (wX X ad F R3) [] 244 [] := by
                            intro   hkJ244
                            unfold K_X2_reckon_17_244 at hkJ244
                            refine g_iconst cx 0 (by decide) e_X2_reckon_244 ?_
                            exact hret e_X2_reckon_245 (Nat.le_of_ble_eq_true rfl) (Nat.le_of_ble_eq_true rfl) rfl ⟨F, R3, rfl, hI, oR3, (g_fr_rf F), fR3, (jv_w (jv_k (x := 0) 0 (by decide)) (by decide)), (hkJ244.symm.trans hSP)⟩
                          refine g_icmp_lt cx 244 e_X2_reckon_216 (by decide) (fun zc112 => ?_) (fun zc112 => ?_)
                          · have p113 := gn_lt 1 1 (gc_lt zc112) p66 (jv_k (x := 2) 2 (by decide)) (by decide)
                            have hk114 := hk111.trans (if_pos zc112)
                            refine g_lsub [] [] rfl ?_
                            exact J244  hk114
                          · have p115 := gn_ge 2 32 (gc_nlt zc112) p66 (jv_k (x := 2) 2 (by decide)) (by decide)
                            have hk116 := hk111.trans (if_neg zc112)
                            refine g_aload_n cx 2 rfl e_X2_reckon_219 ?_
                            refine g_get cx cl_X2 fl_X2_37 17 (.ref (ad 24)) e_X2_reckon_220 rfl rfl ?_
                            refine g_iload_n cx 3 rfl e_X2_reckon_223 ?_
                            refine g_iconst cx 1 (by decide) e_X2_reckon_224 ?_
                            refine g_isub cx e_X2_reckon_225 ?_
                            refine g_topi (fun x117 ex117 => ?_)
                            have hk118 := k_ls hk116 ex117
                            have zx117 := jv_sub 1 31 ex117 p115 (jv_k (x := 1) 1 (by decide)) (by decide)
                            refine g_iald cx 24 e_X2_reckon_226 rfl (jv_ix 32 zx117.2 (by decide)) ?_
                            refine g_topi (fun x119 ex119 => ?_)
                            have hk120 := k_ls hk118 ex119
                            have J246 : (SP = K_X2_reckon_17_246 b4 F R3 x31 y1 y2) → G X E 7 0 0 (wX X ad F R3) [(0, .ref (ad 17)), (2, .int y1), (3, .int y2), (4, .int x31)] 246 [] := by
                              intro   hkJ246
                              unfold K_X2_reckon_17_246 at hkJ246
                              obtain ⟨x121, ex121⟩ : ∃ z : Int32, z = y1 + Int32.ofInt (-1) := ⟨_, rfl⟩
                              have hk122 := k_ls hkJ246 (show x121 = y1 + (-1) from ex121)
                              refine g_iinc cx x121 [(2, .int x121), (0, .ref (ad 17)), (3, .int y2), (4, .int x31)] 1 e_X2_reckon_246 rfl ex121.symm (by decide) rfl ?_
                              have zx121 := jv_add 1 31 (show x121 = y1 + (-1) from ex121) p115 (jv_k (x := (-1)) (-1) (by decide)) (by decide)
                              refine g_aload_n cx 1 rfl e_X2_reckon_249 ?_
                              refine g_get cx cl_X2 fl_X2_37 17 (.ref (ad 24)) e_X2_reckon_250 rfl rfl ?_
                              refine g_iload_n cx 0 rfl e_X2_reckon_253 ?_
                              refine g_iconst cx 1 (by decide) e_X2_reckon_254 ?_
                              refine g_isub cx e_X2_reckon_255 ?_
                              refine g_topi (fun x123 ex123 => ?_)
                              have hk124 := k_ls hk122 ex123
                              have zx123 := jv_sub 0 30 ex123 zx121.2 (jv_k (x := 1) 1 (by decide)) (by decide)
                              refine g_iload cx 3 rfl e_X2_reckon_256 ?_
                              refine g_aload_n cx 1 rfl e_X2_reckon_258 ?_
                              refine g_get cx cl_X2 fl_X2_37 17 (.ref (ad 24)) e_X2_reckon_259 rfl rfl ?_
                              refine g_iload_n cx 0 rfl e_X2_reckon_262 ?_
                              refine g_iconst cx 1 (by decide) e_X2_reckon_263 ?_
                              refine g_isub cx e_X2_reckon_264 ?_
                              refine g_topi (fun x125 ex125 => ?_)
                              have hk126 := k_ls hk124 ex125
                              have zx125 := jv_sub 0 30 ex125 zx121.2 (jv_k (x := 1) 1 (by decide)) (by decide)
                              refine g_iald cx 24 e_X2_reckon_265 rfl (jv_ix 32 zx125.2 (by decide)) ?_
                              refine g_topi (fun x127 ex127 => ?_)
                              have hk128 := k_ls hk126 ex127
                              refine g_aload_n cx 1 rfl e_X2_reckon_266 ?_
                              refine g_get cx cl_X2 fl_X2_37 17 (.ref (ad 24)) e_X2_reckon_267 rfl rfl ?_
                              refine g_iload_n cx 0 rfl e_X2_reckon_270 ?_
                              refine g_iald cx 24 e_X2_reckon_271 rfl (jv_ix 32 zx121.2 (by decide)) ?_
                              refine g_topi (fun x129 ex129 => ?_)
                              have hk130 := k_ls hk128 ex129
                              refine g_cSiW cx [.int x31, .int x127, .int x129] [.int x123, .ref (ad 24)] (w_X2_join l X ad F R3 hI oR3 x31 x127 x129) ml_X2_72 yS_X2_join rfl e_X2_reckon_272 (by unfold g_rr; decide) (by decide) rfl (Nat.le_of_ble_eq_true rfl) (fun r131 w132 h133 => ?_)
                              obtain ⟨rfl, pr131, hx134⟩ := h133
                              have hk135 := k_ls hk130 hx134
                              refine g_iast cx 24 (wX X ad F (g_u R3 24 (upd (R3 24) (Int32.toNatClampNeg x123) r131))) e_X2_reckon_275 rfl (jv_ix 32 zx123.2 (by decide)) rfl ?_
                              obtain ⟨R136, hR136⟩ : ∃ z, z = g_u R3 24 (upd (R3 24) (Int32.toNatClampNeg x123) r131) := ⟨_, rfl⟩
                              rw [← hR136]
                              have hk137 := k_ls hk135 hR136
                              have oR136 : g_okR LA_wX R136 := by rw [hR136]; exact g_okR_u oR3 rfl
                              have fR136 : g_fr mr_X2_reckon_17 R R136 := by rw [hR136]; exact g_fr_r fR3 rfl
                              refine g_lsub [1, 0, 2] [(0, .ref (ad 17)), (2, .int x121), (3, .int y2)] rfl ?_
                              exact J276 R136 x121 y2 oR136 fR136 (jv_w zx121.2 (by decide)) (jv_w p21 (by decide)) (by have q0 := (jv_k (x := 0) 0 (by decide)).1; have q1 := (jv_k (x := 0) 0 (by decide)).2; have q2 := (jv_k (x := 256) 256 (by decide)).1; have q3 := (jv_k (x := 256) 256 (by decide)).2; have q4 := p22.1; have q5 := p22.2; have q6 := (jv_t x25).1; have q7 := (jv_t x25).2; have q8 := p21.1; have q9 := p21.2; have q10 := (gc_nlt zc14); have q11 := (gc_nle zc19); have q12 := (gc_nle zc24); have q13 := (gc_ne zc27); omega) hk137
                            refine g_if_ne cx 246 e_X2_reckon_227 (by decide) (fun zc138 => ?_) (fun zc138 => ?_)
                            · have hk139 := hk120.trans (if_neg zc138)
                              refine g_lsub [2, 3, 4, 1] [(0, .ref (ad 17)), (2, .int y1), (3, .int y2), (4, .int x31)] rfl ?_
                              exact J246  hk139
                            · have p140 := gn_eq 0 0 (gc_eq zc138) (jv_t x119) (jv_k (x := 0) 0 (by decide)) (by decide)
                              have hk141 := hk120.trans (if_pos zc138)
                              refine g_iload cx 1 rfl e_X2_reckon_230 ?_
                              refine g_bipush cx 9 (by decide) e_X2_reckon_232 ?_
                              refine g_icmp_eq cx 244 e_X2_reckon_234 (by decide) (fun zc142 => ?_) (fun zc142 => ?_)
                              · have p143 := gn_eq 9 9 (gc_eq zc142) (jv_t x31) (jv_k (x := 9) 9 (by decide)) (by decide)
                                have hk144 := hk141.trans (if_pos zc142)
                                refine g_lsub [] [] rfl ?_
                                exact J244  hk144
                              · have hk145 := hk141.trans (if_neg zc142)
                                refine g_iload cx 1 rfl e_X2_reckon_237 ?_
                                refine g_bipush cx 10 (by decide) e_X2_reckon_239 ?_
                                refine g_icmp_ne cx 246 e_X2_reckon_241 (by decide) (fun zc146 => ?_) (fun zc146 => ?_)
                                · have hk147 := hk145.trans (if_neg zc146)
                                  refine g_lsub [2, 3, 4, 1] [(0, .ref (ad 17)), (2, .int y1), (3, .int y2), (4, .int x31)] rfl ?_
                                  exact J246  hk147
                                · have p148 := gn_eq 10 10 (gc_eq zc146) (jv_t x31) (jv_k (x := 10) 10 (by decide)) (by decide)
                                  have hk149 := hk145.trans (if_pos zc146)
                                  refine g_lsub [] [] rfl ?_
                                  exact J244  hk149
                        · have p150 := gn_eq 5 5 (gc_eq zc110) (jv_t x31) (jv_k (x := 5) 5 (by decide)) (by decide)
                          have hk151 := hk109.trans (if_pos zc110)
                          refine g_lsub [2, 3, 4, 1, 0] [(0, .ref (ad 17)), (2, .int y1), (3, .int y2), (4, .int x31), (5, .int x33)] rfl ?_
                          exact J143  hk151
                    · have p152 := gn_eq 3 3 (gc_eq zc68) (jv_t x31) (jv_k (x := 3) 3 (by decide)) (by decide)
                      have hk153 := hk67.trans (if_pos zc68)
                      refine g_aload_n cx 2 rfl e_X2_reckon_110 ?_
                      refine g_get cx cl_X2 fl_X2_37 17 (.ref (ad 24)) e_X2_reckon_111 rfl rfl ?_
                      refine g_iload_n cx 3 rfl e_X2_reckon_114 ?_
                      refine g_iconst cx 1 (by decide) e_X2_reckon_115 ?_
                      refine g_isub cx e_X2_reckon_116 ?_
                      refine g_topi (fun x154 ex154 => ?_)
                      have hk155 := k_ls hk153 ex154
                      have zx154 := jv_sub 0 31 ex154 p66 (jv_k (x := 1) 1 (by decide)) (by decide)
                      refine g_iconst cx 1 (by decide) e_X2_reckon_117 ?_
                      refine g_aload_n cx 2 rfl e_X2_reckon_118 ?_
                      refine g_get cx cl_X2 fl_X2_37 17 (.ref (ad 24)) e_X2_reckon_119 rfl rfl ?_
                      refine g_iload_n cx 3 rfl e_X2_reckon_122 ?_
                      refine g_iconst cx 1 (by decide) e_X2_reckon_123 ?_
                      refine g_isub cx e_X2_reckon_124 ?_
                      refine g_topi (fun x156 ex156 => ?_)
                      have hk157 := k_ls hk155 ex156
                      have zx156 := jv_sub 0 31 ex156 p66 (jv_k (x := 1) 1 (by decide)) (by decide)
                      refine g_iald cx 24 e_X2_reckon_125 rfl (jv_ix 32 zx156.2 (by decide)) ?_
                      refine g_topi (fun x158 ex158 => ?_)
                      have hk159 := k_ls hk157 ex158
                      refine g_isub cx e_X2_reckon_126 ?_
                      refine g_topi (fun x160 ex160 => ?_)
                      have hk161 := k_ls hk159 ex160
                      refine g_iast cx 24 (wX X ad F (g_u R3 24 (upd (R3 24) (Int32.toNatClampNeg x154) x160))) e_X2_reckon_127 rfl (jv_ix 32 zx154.2 (by decide)) rfl ?_
                      obtain ⟨R162, hR162⟩ : ∃ z, z = g_u R3 24 (upd (R3 24) (Int32.toNatClampNeg x154) x160) := ⟨_, rfl⟩
                      rw [← hR162]
                      have hk163 := k_ls hk161 hR162
                      have oR162 : g_okR LA_wX R162 := by rw [hR162]; exact g_okR_u oR3 rfl
                      have fR162 : g_fr mr_X2_reckon_17 R R162 := by rw [hR162]; exact g_fr_r fR3 rfl
                      refine g_goto cx 276 e_X2_reckon_128 (by decide) ?_
                      refine g_lsub [2, 3, 4] [(0, .ref (ad 17)), (2, .int y1), (3, .int y2)] rfl ?_
                      exact J276 R162 y1 y2 oR162 fR162 (jv_w p66 (by decide)) (jv_w p21 (by decide)) (by have q0 := (jv_k (x := 0) 0 (by decide)).1; have q1 := (jv_k (x := 0) 0 (by decide)).2; have q2 := (jv_k (x := 256) 256 (by decide)).1; have q3 := (jv_k (x := 256) 256 (by decide)).2; have q4 := p22.1; have q5 := p22.2; have q6 := (jv_t x25).1; have q7 := (jv_t x25).2; have q8 := p21.1; have q9 := p21.2; have q10 := (gc_nlt zc14); have q11 := (gc_nle zc19); have q12 := (gc_nle zc24); have q13 := (gc_ne zc27); omega) hk163
                  · have p164 := gn_lt 0 0 (gc_nle zc65) py1 (jv_k (x := 1) 1 (by decide)) (by decide)
                    have hk165 := hk64.trans (if_neg zc65)
                    refine g_iconst cx 0 (by decide) e_X2_reckon_102 ?_
                    exact hret e_X2_reckon_103 (Nat.le_of_ble_eq_true rfl) (Nat.le_of_ble_eq_true rfl) rfl ⟨F, R3, rfl, hI, oR3, (g_fr_rf F), fR3, (jv_w (jv_k (x := 0) 0 (by decide)) (by decide)), (hk165.symm.trans hSP)⟩
                · have p166 := gn_eq 2 2 (gc_eq zc63) (jv_t x31) (jv_k (x := 2) 2 (by decide)) (by decide)
                  have hk167 := hk62.trans (if_pos zc63)
                  refine g_lsub [2, 3, 4, 1, 0] [(0, .ref (ad 17)), (2, .int y1), (3, .int y2), (4, .int x31), (5, .int x33)] rfl ?_
                  exact J60  hk167
  refine g_lsub [2, 1, 0] [(0, .ref (ad 17)), (2, .int 0), (3, .int a0)] rfl ?_
  exact J4 8589934592 R 0 a0 hA (g_fr_rf R) (jv_w (jv_k (x := 0) 0 (by decide)) (by decide)) (jv_t a0) hk0 (show g_mz a0 < 8589934592 from g_mz_F _)
def KB_X2_forget_17_2 (b2 : (Nat → Nat → Int32) → (Int32) → (Nat → Int32) × (Nat → Nat → Int32)) (F : Nat → Int32) (R2 : Nat → Nat → Int32) (y1 : Int32) : (Nat → Int32) × (Nat → Nat → Int32) :=
  if 12 ≤ y1 then (F, R2) else k_lt (g_u R2 23 (upd (R2 23) (Int32.toNatClampNeg y1) 0)) (fun R8 => k_lt (y1 + 1) (fun x10 => b2 R8 x10))
def K_X2_forget_17_2 (F : Nat → Int32) : Nat → (Nat → Nat → Int32) → (Int32) → (Nat → Int32) × (Nat → Nat → Int32)
  | 0 => fun R2 _ => (F, R2)
  | n + 1 => KB_X2_forget_17_2 (K_X2_forget_17_2 F n) F
def sp_X2_forget_17 (F : Nat → Int32) (R : Nat → Nat → Int32) : (Nat → Int32) × (Nat → Nat → Int32) :=
  K_X2_forget_17_2 F 8589934592 R 0
theorem e_X2_forget_0 : g_dc cX2_forget 0 (.iconst 0) 1 1 := ⟨by decide +kernel, rfl⟩
theorem e_X2_forget_1 : g_dc cX2_forget 1 (.istore_n 1) 1 2 := ⟨by decide +kernel, rfl⟩
theorem e_X2_forget_2 : g_dc cX2_forget 2 (.iload_n 1) 1 3 := ⟨by decide +kernel, rfl⟩
theorem e_X2_forget_3 : g_dc cX2_forget 3 (.aload_n 0) 1 4 := ⟨by decide +kernel, rfl⟩
theorem e_X2_forget_4 : g_dc cX2_forget 4 (.getfield 34) 3 7 := ⟨by decide +kernel, rfl⟩
theorem e_X2_forget_7 : g_dc cX2_forget 7 (.arraylength) 1 8 := ⟨by decide +kernel, rfl⟩
theorem e_X2_forget_8 : g_dc cX2_forget 8 (.if_icmp .ge 16) 3 11 := ⟨by decide +kernel, rfl⟩
theorem e_X2_forget_11 : g_dc cX2_forget 11 (.aload_n 0) 1 12 := ⟨by decide +kernel, rfl⟩
theorem e_X2_forget_12 : g_dc cX2_forget 12 (.getfield 34) 3 15 := ⟨by decide +kernel, rfl⟩
theorem e_X2_forget_15 : g_dc cX2_forget 15 (.iload_n 1) 1 16 := ⟨by decide +kernel, rfl⟩
theorem e_X2_forget_16 : g_dc cX2_forget 16 (.iconst 0) 1 17 := ⟨by decide +kernel, rfl⟩
theorem e_X2_forget_17 : g_dc cX2_forget 17 (.iastore) 1 18 := ⟨by decide +kernel, rfl⟩
theorem e_X2_forget_18 : g_dc cX2_forget 18 (.iinc 1 1) 3 21 := ⟨by decide +kernel, rfl⟩
theorem e_X2_forget_21 : g_dc cX2_forget 21 (.goto (-19)) 3 24 := ⟨by decide +kernel, rfl⟩
theorem e_X2_forget_24 : g_dc cX2_forget 24 (.return_) 1 25 := ⟨by decide +kernel, rfl⟩
def md_X2_forget_17 : List Nat := []
def mr_X2_forget_17 : List Nat := [23]
set_option maxHeartbeats 4000000 in
set_option maxRecDepth 100000 in
theorem w_X2_forget_17 (l : Launch) (X : gX) (ad : Nat → Nat) (F : Nat → Int32) (R : Nat → Nat → Int32) (hI : g_ok LK_wX F) (hA : g_okR LA_wX R) : g_Cv l X yX2_forget cX2_forget 2 1 0 0 [.ref (ad 17)] (wX X ad F R) (fun w => ∃ (F' : Nat → Int32) (R' : Nat → Nat → Int32), w = wX X ad F' R' ∧ g_ok LK_wX F' ∧ g_okR LA_wX R' ∧ g_fr md_X2_forget_17 F F' ∧ g_fr mr_X2_forget_17 R R' ∧ (F', R') = sp_X2_forget_17 F R) := by
  refine g_mv (by decide +kernel) (Nat.le_of_ble_eq_true rfl) (fun E cx hret => ?_)
  obtain ⟨SP, hSP⟩ : ∃ z, z = sp_X2_forget_17 F R := ⟨_, rfl⟩
  have hk0 := hSP
  unfold sp_X2_forget_17 at hk0
  refine g_iconst cx 0 (by decide) e_X2_forget_0 ?_
  refine g_istore_n cx [(1, .int 0), (0, .ref (ad 17))] e_X2_forget_1 (by decide) rfl ?_
  have J2 : ∀ (N : Nat) (R2 : Nat → Nat → Int32) (y1 : Int32), (g_okR LA_wX R2) → (g_fr mr_X2_forget_17 R R2) → (jv 0 14 y1) → (SP = K_X2_forget_17_2 F N R2 y1) → (2147483647 - y1.toInt).toNat < N → G X E 2 0 0 (wX X ad F R2) [(0, .ref (ad 17)), (1, .int y1)] 2 [] := by
    intro N
    induction N with
    | zero => intro R2 y1 oR2 fR2 py1 hkJ2 hm; exact absurd hm (Nat.not_lt_zero _)
    | succ N ih2 =>
      intro R2 y1 oR2 fR2 py1 hkJ2 hm2
      have hkK2 : SP = KB_X2_forget_17_2 (K_X2_forget_17_2 F N) F R2 y1 := hkJ2
      obtain ⟨b2, hb2⟩ : ∃ z, z = K_X2_forget_17_2 F N := ⟨_, rfl⟩
      rw [← hb2] at hkK2
      unfold KB_X2_forget_17_2 at hkK2
      refine g_iload_n cx 1 rfl e_X2_forget_2 ?_
      refine g_aload_n cx 0 rfl e_X2_forget_3 ?_
      refine g_get cx cl_X2 fl_X2_34 17 (.ref (ad 23)) e_X2_forget_4 rfl rfl ?_
      refine g_alen cx 23 12 e_X2_forget_7 rfl (by decide) ?_
      refine g_icmp_ge cx 24 e_X2_forget_8 (by decide) (fun zc3 => ?_) (fun zc3 => ?_)
      · have p4 := gn_ge 12 14 (gc_le zc3) py1 (jv_k (x := 12) 12 (by decide)) (by decide)
        have hk5 := hkK2.trans (if_pos zc3)
        exact hret e_X2_forget_24 (Nat.le_of_ble_eq_true rfl) (Nat.le_of_ble_eq_true rfl) ⟨F, R2, rfl, hI, oR2, (g_fr_rf F), fR2, (hk5.symm.trans hSP)⟩
      · have p6 := gn_lt 0 11 (gc_nle zc3) py1 (jv_k (x := 12) 12 (by decide)) (by decide)
        have hk7 := hkK2.trans (if_neg zc3)
        refine g_aload_n cx 0 rfl e_X2_forget_11 ?_
        refine g_get cx cl_X2 fl_X2_34 17 (.ref (ad 23)) e_X2_forget_12 rfl rfl ?_
        refine g_iload_n cx 1 rfl e_X2_forget_15 ?_
        refine g_iconst cx 0 (by decide) e_X2_forget_16 ?_
        refine g_iast cx 23 (wX X ad F (g_u R2 23 (upd (R2 23) (Int32.toNatClampNeg y1) 0))) e_X2_forget_17 rfl (jv_ix 12 p6 (by decide)) rfl ?_
        obtain ⟨R8, hR8⟩ : ∃ z, z = g_u R2 23 (upd (R2 23) (Int32.toNatClampNeg y1) 0) := ⟨_, rfl⟩
        rw [← hR8]
        have hk9 := k_ls hk7 hR8
        have oR8 : g_okR LA_wX R8 := by rw [hR8]; exact g_okR_u oR2 rfl
        have fR8 : g_fr mr_X2_forget_17 R R8 := by rw [hR8]; exact g_fr_r fR2 rfl
        obtain ⟨x10, ex10⟩ : ∃ z : Int32, z = y1 + Int32.ofInt 1 := ⟨_, rfl⟩
        have hk11 := k_ls hk9 (show x10 = y1 + 1 from ex10)
        refine g_iinc cx x10 [(1, .int x10), (0, .ref (ad 17))] 1 e_X2_forget_18 rfl ex10.symm (by decide) rfl ?_
        have zx10 := jv_add 1 12 (show x10 = y1 + 1 from ex10) p6 (jv_k (x := 1) 1 (by decide)) (by decide)
        refine g_goto cx 2 e_X2_forget_21 (by decide) ?_
        refine g_lsub [1, 0] [(0, .ref (ad 17)), (1, .int x10)] rfl ?_
        exact ih2 R8 x10 oR8 fR8 (jv_w zx10.2 (by decide)) (hk11.trans (by rw [hb2])) (Nat.lt_of_lt_of_le (show (2147483647 - x10.toInt).toNat < (2147483647 - y1.toInt).toNat from by have q0 := (jv_k (x := 1) 1 (by decide)).1; have q1 := (jv_k (x := 1) 1 (by decide)).2; have q2 := (jv_k (x := 12) 12 (by decide)).1; have q3 := (jv_k (x := 12) 12 (by decide)).2; have q4 := zx10.2.1; have q5 := zx10.2.2; have q6 := p6.1; have q7 := p6.2; have q8 := (gc_nle zc3); have q9 := (g_eq0 zx10.1); omega) (Nat.le_of_lt_succ hm2))
  refine g_lsub [1, 0] [(0, .ref (ad 17)), (1, .int 0)] rfl ?_
  exact J2 8589934592 R 0 hA (g_fr_rf R) (jv_w (jv_k (x := 0) 0 (by decide)) (by decide)) hk0 (show (2147483647 - (0 : Int32).toInt).toNat < 8589934592 from by have q0 := (jv_k (x := 0) 0 (by decide)).1; have q1 := (jv_k (x := 0) 0 (by decide)).2; omega)
