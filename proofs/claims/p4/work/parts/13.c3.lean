theorem e_X1_draw_0 : g_dc cX1_draw 0 (.aload_n 0) 1 1 := ⟨by decide +kernel, rfl⟩
theorem e_X1_draw_1 : g_dc cX1_draw 1 (.getfield 9) 3 4 := ⟨by decide +kernel, rfl⟩
theorem e_X1_draw_4 : g_dc cX1_draw 4 (.ifCond .eq 30) 3 7 := ⟨by decide +kernel, rfl⟩
theorem e_X1_draw_7 : g_dc cX1_draw 7 (.aload_n 0) 1 8 := ⟨by decide +kernel, rfl⟩
theorem e_X1_draw_8 : g_dc cX1_draw 8 (.sipush 25173) 3 11 := ⟨by decide +kernel, rfl⟩
theorem e_X1_draw_11 : g_dc cX1_draw 11 (.aload_n 0) 1 12 := ⟨by decide +kernel, rfl⟩
theorem e_X1_draw_12 : g_dc cX1_draw 12 (.getfield 15) 3 15 := ⟨by decide +kernel, rfl⟩
theorem e_X1_draw_15 : g_dc cX1_draw 15 (.imul) 1 16 := ⟨by decide +kernel, rfl⟩
theorem e_X1_draw_16 : g_dc cX1_draw 16 (.sipush 13849) 3 19 := ⟨by decide +kernel, rfl⟩
theorem e_X1_draw_19 : g_dc cX1_draw 19 (.iadd) 1 20 := ⟨by decide +kernel, rfl⟩
theorem e_X1_draw_20 : g_dc cX1_draw 20 (.ldc 25) 2 22 := ⟨by decide +kernel, rfl⟩
theorem e_X1_draw_22 : g_dc cX1_draw 22 (.iand) 1 23 := ⟨by decide +kernel, rfl⟩
theorem e_X1_draw_23 : g_dc cX1_draw 23 (.putfield 15) 3 26 := ⟨by decide +kernel, rfl⟩
theorem e_X1_draw_26 : g_dc cX1_draw 26 (.aload_n 0) 1 27 := ⟨by decide +kernel, rfl⟩
theorem e_X1_draw_27 : g_dc cX1_draw 27 (.getfield 15) 3 30 := ⟨by decide +kernel, rfl⟩
theorem e_X1_draw_30 : g_dc cX1_draw 30 (.bipush 10) 2 32 := ⟨by decide +kernel, rfl⟩
theorem e_X1_draw_32 : g_dc cX1_draw 32 (.irem) 1 33 := ⟨by decide +kernel, rfl⟩
theorem e_X1_draw_33 : g_dc cX1_draw 33 (.ireturn) 1 34 := ⟨by decide +kernel, rfl⟩
theorem e_X1_draw_34 : g_dc cX1_draw 34 (.iload_n 1) 1 35 := ⟨by decide +kernel, rfl⟩
theorem e_X1_draw_35 : g_dc cX1_draw 35 (.aload_n 0) 1 36 := ⟨by decide +kernel, rfl⟩
theorem e_X1_draw_36 : g_dc cX1_draw 36 (.getfield 19) 3 39 := ⟨by decide +kernel, rfl⟩
theorem e_X1_draw_39 : g_dc cX1_draw 39 (.if_icmp .lt 5) 3 42 := ⟨by decide +kernel, rfl⟩
theorem e_X1_draw_42 : g_dc cX1_draw 42 (.iconst (-1)) 1 43 := ⟨by decide +kernel, rfl⟩
theorem e_X1_draw_43 : g_dc cX1_draw 43 (.ireturn) 1 44 := ⟨by decide +kernel, rfl⟩
theorem e_X1_draw_44 : g_dc cX1_draw 44 (.aload_n 0) 1 45 := ⟨by decide +kernel, rfl⟩
theorem e_X1_draw_45 : g_dc cX1_draw 45 (.getfield 22) 3 48 := ⟨by decide +kernel, rfl⟩
theorem e_X1_draw_48 : g_dc cX1_draw 48 (.bipush 10) 2 50 := ⟨by decide +kernel, rfl⟩
theorem e_X1_draw_50 : g_dc cX1_draw 50 (.irem) 1 51 := ⟨by decide +kernel, rfl⟩
theorem e_X1_draw_51 : g_dc cX1_draw 51 (.istore_n 2) 1 52 := ⟨by decide +kernel, rfl⟩
theorem e_X1_draw_52 : g_dc cX1_draw 52 (.aload_n 0) 1 53 := ⟨by decide +kernel, rfl⟩
theorem e_X1_draw_53 : g_dc cX1_draw 53 (.dup) 1 54 := ⟨by decide +kernel, rfl⟩
theorem e_X1_draw_54 : g_dc cX1_draw 54 (.getfield 22) 3 57 := ⟨by decide +kernel, rfl⟩
theorem e_X1_draw_57 : g_dc cX1_draw 57 (.bipush 10) 2 59 := ⟨by decide +kernel, rfl⟩
theorem e_X1_draw_59 : g_dc cX1_draw 59 (.idiv) 1 60 := ⟨by decide +kernel, rfl⟩
theorem e_X1_draw_60 : g_dc cX1_draw 60 (.putfield 22) 3 63 := ⟨by decide +kernel, rfl⟩
theorem e_X1_draw_63 : g_dc cX1_draw 63 (.iload_n 2) 1 64 := ⟨by decide +kernel, rfl⟩
theorem e_X1_draw_64 : g_dc cX1_draw 64 (.ireturn) 1 65 := ⟨by decide +kernel, rfl⟩
def md_X1_draw : List Nat := [673, 675]
def mr_X1_draw : List Nat := []
set_option maxHeartbeats 4000000 in
set_option maxRecDepth 100000 in
theorem w_X1_draw (l : Launch) (X : gX) (ad : Nat → Nat) (F : Nat → Int32) (R : Nat → Nat → Int32) (hI : g_ok LK_wX F) (hA : g_okR LA_wX R) (a0 : Int32) : g_Ci l X yX1_draw cX1_draw 3 (some .int) 1 0 0 [.ref (ad 42), .int a0] (wX X ad F R) (fun r w => ∃ (F' : Nat → Int32) (R' : Nat → Nat → Int32), w = wX X ad F' R' ∧ g_ok LK_wX F' ∧ g_okR LA_wX R' ∧ g_fr md_X1_draw F F' ∧ g_fr mr_X1_draw R R' ∧ jv (-2147483648) 2147483647 r) := by
  refine g_mi (by decide +kernel) (Nat.le_of_ble_eq_true rfl) (fun E cx hret => ?_)
  refine g_aload_n cx 0 rfl e_X1_draw_0 ?_
  refine g_get cx cl_X1 fl_X1_9 42 (.int (F 672)) e_X1_draw_1 rfl rfl ?_
  refine g_if_eq cx 34 e_X1_draw_4 (by decide) (fun zc1 => ?_) (fun zc1 => ?_)
  · have p2 := gn_eq 0 0 (gc_eq zc1) (jv_t (F 672)) (jv_k (x := 0) 0 (by decide)) (by decide)
    refine g_iload_n cx 1 rfl e_X1_draw_34 ?_
    refine g_aload_n cx 0 rfl e_X1_draw_35 ?_
    refine g_get cx cl_X1 fl_X1_19 42 (.int (F 674)) e_X1_draw_36 rfl rfl ?_
    refine g_icmp_lt cx 44 e_X1_draw_39 (by decide) (fun zc3 => ?_) (fun zc3 => ?_)
    · have p4 := gn_lt (-2147483648) 2147483646 (gc_lt zc3) (jv_t a0) (jv_t (F 674)) (by decide)
      have p5 := gn_gt (-2147483647) 2147483647 (gc_lt zc3) (jv_t (F 674)) (jv_t a0) (by decide)
      refine g_aload_n cx 0 rfl e_X1_draw_44 ?_
      refine g_get cx cl_X1 fl_X1_22 42 (.int (F 675)) e_X1_draw_45 rfl rfl ?_
      refine g_bipush cx 10 (by decide) e_X1_draw_48 ?_
      refine g_irem cx (by decide) e_X1_draw_50 ?_
      refine g_topi (fun x6 ex6 => ?_)
      refine g_istore_n cx [(2, .int x6), (0, .ref (ad 42)), (1, .int a0)] e_X1_draw_51 (by decide) rfl ?_
      refine g_aload_n cx 1 rfl e_X1_draw_52 ?_
      refine g_dup cx rfl e_X1_draw_53 ?_
      refine g_get cx cl_X1 fl_X1_22 42 (.int (F 675)) e_X1_draw_54 rfl rfl ?_
      refine g_bipush cx 10 (by decide) e_X1_draw_57 ?_
      refine g_idiv cx (by decide) e_X1_draw_59 ?_
      refine g_topi (fun x7 ex7 => ?_)
      refine g_put cx cl_X1 fl_X1_22 42 (wX X ad (upd F 675 x7) R) e_X1_draw_60 rfl rfl rfl rfl (Nat.le_of_ble_eq_true rfl) rfl ?_
      obtain ⟨F8, hF8⟩ : ∃ z, z = upd F 675 x7 := ⟨_, rfl⟩
      rw [← hF8]
      have oF8 : g_ok LK_wX F8 := by rw [hF8]; exact g_ok_u hI rfl
      have fF8 : g_fr md_X1_draw F F8 := by rw [hF8]; exact g_fr_u (g_fr_rf F) rfl
      refine g_iload_n cx 0 rfl e_X1_draw_63 ?_
      exact hret e_X1_draw_64 (Nat.le_of_ble_eq_true rfl) (Nat.le_of_ble_eq_true rfl) rfl ⟨F8, R, rfl, oF8, hA, fF8, (g_fr_rf R), (jv_t x6)⟩
    · refine g_iconst cx (-1) (by decide) e_X1_draw_42 ?_
      exact hret e_X1_draw_43 (Nat.le_of_ble_eq_true rfl) (Nat.le_of_ble_eq_true rfl) rfl ⟨F, R, rfl, hI, hA, (g_fr_rf F), (g_fr_rf R), (jv_w (jv_k (x := (-1)) (-1) (by decide)) (by decide))⟩
  · refine g_aload_n cx 0 rfl e_X1_draw_7 ?_
    refine g_sipush cx 25173 (by decide) e_X1_draw_8 ?_
    refine g_aload_n cx 0 rfl e_X1_draw_11 ?_
    refine g_get cx cl_X1 fl_X1_15 42 (.int (F 673)) e_X1_draw_12 rfl rfl ?_
    refine g_imul cx e_X1_draw_15 ?_
    refine g_topi (fun x9 ex9 => ?_)
    refine g_sipush cx 13849 (by decide) e_X1_draw_16 ?_
    refine g_iadd cx e_X1_draw_19 ?_
    refine g_topi (fun x10 ex10 => ?_)
    refine g_ldc cx 65535 kc_X1_25 e_X1_draw_20 ?_
    refine g_iand cx e_X1_draw_22 ?_
    refine g_topi (fun x11 ex11 => ?_)
    have px11 := jv_and 0 65535 ex11 (jv_k (x := 65535) 65535 (by decide)) (by decide)
    refine g_put cx cl_X1 fl_X1_15 42 (wX X ad (upd F 673 x11) R) e_X1_draw_23 rfl rfl rfl rfl (Nat.le_of_ble_eq_true rfl) rfl ?_
    obtain ⟨F12, hF12⟩ : ∃ z, z = upd F 673 x11 := ⟨_, rfl⟩
    rw [← hF12]
    have oF12 : g_ok LK_wX F12 := by rw [hF12]; exact g_ok_u hI rfl
    have fF12 : g_fr md_X1_draw F F12 := by rw [hF12]; exact g_fr_u (g_fr_rf F) rfl
    refine g_aload_n cx 0 rfl e_X1_draw_26 ?_
    refine g_get cx cl_X1 fl_X1_15 42 (.int (F12 673)) e_X1_draw_27 rfl rfl ?_
    refine g_toi x11 (g_pu1 hF12) ?_
    refine g_bipush cx 10 (by decide) e_X1_draw_30 ?_
    refine g_irem cx (by decide) e_X1_draw_32 ?_
    refine g_topi (fun x13 ex13 => ?_)
    have zx13 := jv_rem 0 9 ex13 px11 (jv_k (x := 10) 10 (by decide)) (by decide)
    exact hret e_X1_draw_33 (Nat.le_of_ble_eq_true rfl) (Nat.le_of_ble_eq_true rfl) rfl ⟨F12, R, rfl, oF12, hA, fF12, (g_fr_rf R), (jv_w zx13.2 (by decide))⟩
theorem e_X1_drawFrom_0 : g_dc cX1_drawFrom 0 (.aload_n 0) 1 1 := ⟨by decide +kernel, rfl⟩
theorem e_X1_drawFrom_1 : g_dc cX1_drawFrom 1 (.iconst 1) 1 2 := ⟨by decide +kernel, rfl⟩
theorem e_X1_drawFrom_2 : g_dc cX1_drawFrom 2 (.putfield 9) 3 5 := ⟨by decide +kernel, rfl⟩
theorem e_X1_drawFrom_5 : g_dc cX1_drawFrom 5 (.aload_n 0) 1 6 := ⟨by decide +kernel, rfl⟩
theorem e_X1_drawFrom_6 : g_dc cX1_drawFrom 6 (.iload_n 1) 1 7 := ⟨by decide +kernel, rfl⟩
theorem e_X1_drawFrom_7 : g_dc cX1_drawFrom 7 (.putfield 15) 3 10 := ⟨by decide +kernel, rfl⟩
theorem e_X1_drawFrom_10 : g_dc cX1_drawFrom 10 (.return_) 1 11 := ⟨by decide +kernel, rfl⟩
def md_X1_drawFrom : List Nat := [672, 673]
def mr_X1_drawFrom : List Nat := []
set_option maxHeartbeats 4000000 in
set_option maxRecDepth 100000 in
theorem w_X1_drawFrom (l : Launch) (X : gX) (ad : Nat → Nat) (F : Nat → Int32) (R : Nat → Nat → Int32) (hI : g_ok LK_wX F) (hA : g_okR LA_wX R) (a0 : Int32) : g_Cv l X yX1_drawFrom cX1_drawFrom 2 1 0 0 [.ref (ad 42), .int a0] (wX X ad F R) (fun w => ∃ (F' : Nat → Int32) (R' : Nat → Nat → Int32), w = wX X ad F' R' ∧ g_ok LK_wX F' ∧ g_okR LA_wX R' ∧ g_fr md_X1_drawFrom F F' ∧ g_fr mr_X1_drawFrom R R') := by
  refine g_mv (by decide +kernel) (Nat.le_of_ble_eq_true rfl) (fun E cx hret => ?_)
  refine g_aload_n cx 0 rfl e_X1_drawFrom_0 ?_
  refine g_iconst cx 1 (by decide) e_X1_drawFrom_1 ?_
  refine g_put cx cl_X1 fl_X1_9 42 (wX X ad (upd F 672 1) R) e_X1_drawFrom_2 rfl rfl rfl rfl (Nat.le_of_ble_eq_true rfl) rfl ?_
  obtain ⟨F1, hF1⟩ : ∃ z, z = upd F 672 1 := ⟨_, rfl⟩
  rw [← hF1]
  have oF1 : g_ok LK_wX F1 := by rw [hF1]; exact g_ok_u hI rfl
  have fF1 : g_fr md_X1_drawFrom F F1 := by rw [hF1]; exact g_fr_u (g_fr_rf F) rfl
  refine g_aload_n cx 0 rfl e_X1_drawFrom_5 ?_
  refine g_iload_n cx 1 rfl e_X1_drawFrom_6 ?_
  refine g_put cx cl_X1 fl_X1_15 42 (wX X ad (upd F1 673 a0) R) e_X1_drawFrom_7 rfl rfl rfl rfl (Nat.le_of_ble_eq_true rfl) rfl ?_
  obtain ⟨F2, hF2⟩ : ∃ z, z = upd F1 673 a0 := ⟨_, rfl⟩
  rw [← hF2]
  have oF2 : g_ok LK_wX F2 := by rw [hF2]; exact g_ok_u oF1 rfl
  have fF2 : g_fr md_X1_drawFrom F F2 := by rw [hF2]; exact g_fr_u fF1 rfl
  exact hret e_X1_drawFrom_10 (Nat.le_of_ble_eq_true rfl) (Nat.le_of_ble_eq_true rfl) ⟨F2, R, rfl, oF2, hA, fF2, (g_fr_rf R)⟩
theorem e_X1_drawTold_0 : g_dc cX1_drawTold 0 (.aload_n 0) 1 1 := ⟨by decide +kernel, rfl⟩
theorem e_X1_drawTold_1 : g_dc cX1_drawTold 1 (.iconst 0) 1 2 := ⟨by decide +kernel, rfl⟩
theorem e_X1_drawTold_2 : g_dc cX1_drawTold 2 (.putfield 9) 3 5 := ⟨by decide +kernel, rfl⟩
theorem e_X1_drawTold_5 : g_dc cX1_drawTold 5 (.aload_n 0) 1 6 := ⟨by decide +kernel, rfl⟩
theorem e_X1_drawTold_6 : g_dc cX1_drawTold 6 (.iload_n 1) 1 7 := ⟨by decide +kernel, rfl⟩
theorem e_X1_drawTold_7 : g_dc cX1_drawTold 7 (.putfield 19) 3 10 := ⟨by decide +kernel, rfl⟩
theorem e_X1_drawTold_10 : g_dc cX1_drawTold 10 (.aload_n 0) 1 11 := ⟨by decide +kernel, rfl⟩
theorem e_X1_drawTold_11 : g_dc cX1_drawTold 11 (.iload_n 2) 1 12 := ⟨by decide +kernel, rfl⟩
theorem e_X1_drawTold_12 : g_dc cX1_drawTold 12 (.putfield 22) 3 15 := ⟨by decide +kernel, rfl⟩
theorem e_X1_drawTold_15 : g_dc cX1_drawTold 15 (.return_) 1 16 := ⟨by decide +kernel, rfl⟩
def md_X1_drawTold : List Nat := [672, 674, 675]
def mr_X1_drawTold : List Nat := []
set_option maxHeartbeats 4000000 in
set_option maxRecDepth 100000 in
theorem w_X1_drawTold (l : Launch) (X : gX) (ad : Nat → Nat) (F : Nat → Int32) (R : Nat → Nat → Int32) (hI : g_ok LK_wX F) (hA : g_okR LA_wX R) (a0 : Int32) (a1 : Int32) : g_Cv l X yX1_drawTold cX1_drawTold 3 1 0 0 [.ref (ad 42), .int a0, .int a1] (wX X ad F R) (fun w => ∃ (F' : Nat → Int32) (R' : Nat → Nat → Int32), w = wX X ad F' R' ∧ g_ok LK_wX F' ∧ g_okR LA_wX R' ∧ g_fr md_X1_drawTold F F' ∧ g_fr mr_X1_drawTold R R') := by
  refine g_mv (by decide +kernel) (Nat.le_of_ble_eq_true rfl) (fun E cx hret => ?_)
  refine g_aload_n cx 0 rfl e_X1_drawTold_0 ?_
  refine g_iconst cx 0 (by decide) e_X1_drawTold_1 ?_
  refine g_put cx cl_X1 fl_X1_9 42 (wX X ad (upd F 672 0) R) e_X1_drawTold_2 rfl rfl rfl rfl (Nat.le_of_ble_eq_true rfl) rfl ?_
  obtain ⟨F1, hF1⟩ : ∃ z, z = upd F 672 0 := ⟨_, rfl⟩
  rw [← hF1]
  have oF1 : g_ok LK_wX F1 := by rw [hF1]; exact g_ok_u hI rfl
  have fF1 : g_fr md_X1_drawTold F F1 := by rw [hF1]; exact g_fr_u (g_fr_rf F) rfl
  refine g_aload_n cx 0 rfl e_X1_drawTold_5 ?_
  refine g_iload_n cx 1 rfl e_X1_drawTold_6 ?_
  refine g_put cx cl_X1 fl_X1_19 42 (wX X ad (upd F1 674 a0) R) e_X1_drawTold_7 rfl rfl rfl rfl (Nat.le_of_ble_eq_true rfl) rfl ?_
  obtain ⟨F2, hF2⟩ : ∃ z, z = upd F1 674 a0 := ⟨_, rfl⟩
  rw [← hF2]
  have oF2 : g_ok LK_wX F2 := by rw [hF2]; exact g_ok_u oF1 rfl
  have fF2 : g_fr md_X1_drawTold F F2 := by rw [hF2]; exact g_fr_u fF1 rfl
  refine g_aload_n cx 0 rfl e_X1_drawTold_10 ?_
  refine g_iload_n cx 2 rfl e_X1_drawTold_11 ?_
  refine g_put cx cl_X1 fl_X1_22 42 (wX X ad (upd F2 675 a1) R) e_X1_drawTold_12 rfl rfl rfl rfl (Nat.le_of_ble_eq_true rfl) rfl ?_
  obtain ⟨F3, hF3⟩ : ∃ z, z = upd F2 675 a1 := ⟨_, rfl⟩
  rw [← hF3]
  have oF3 : g_ok LK_wX F3 := by rw [hF3]; exact g_ok_u oF2 rfl
  have fF3 : g_fr md_X1_drawTold F F3 := by rw [hF3]; exact g_fr_u fF2 rfl
  exact hret e_X1_drawTold_15 (Nat.le_of_ble_eq_true rfl) (Nat.le_of_ble_eq_true rfl) ⟨F3, R, rfl, oF3, hA, fF3, (g_fr_rf R)⟩
theorem e_X1_holdStill_0 : g_dc cX1_holdStill 0 (.aload_n 0) 1 1 := ⟨by decide +kernel, rfl⟩
theorem e_X1_holdStill_1 : g_dc cX1_holdStill 1 (.iconst 0) 1 2 := ⟨by decide +kernel, rfl⟩
theorem e_X1_holdStill_2 : g_dc cX1_holdStill 2 (.putfield 9) 3 5 := ⟨by decide +kernel, rfl⟩
theorem e_X1_holdStill_5 : g_dc cX1_holdStill 5 (.aload_n 0) 1 6 := ⟨by decide +kernel, rfl⟩
theorem e_X1_holdStill_6 : g_dc cX1_holdStill 6 (.iconst 0) 1 7 := ⟨by decide +kernel, rfl⟩
theorem e_X1_holdStill_7 : g_dc cX1_holdStill 7 (.putfield 19) 3 10 := ⟨by decide +kernel, rfl⟩
theorem e_X1_holdStill_10 : g_dc cX1_holdStill 10 (.return_) 1 11 := ⟨by decide +kernel, rfl⟩
def md_X1_holdStill : List Nat := [672, 674]
def mr_X1_holdStill : List Nat := []
set_option maxHeartbeats 4000000 in
set_option maxRecDepth 100000 in
theorem w_X1_holdStill (l : Launch) (X : gX) (ad : Nat → Nat) (F : Nat → Int32) (R : Nat → Nat → Int32) (hI : g_ok LK_wX F) (hA : g_okR LA_wX R) : g_Cv l X yX1_holdStill cX1_holdStill 1 1 0 0 [.ref (ad 42)] (wX X ad F R) (fun w => ∃ (F' : Nat → Int32) (R' : Nat → Nat → Int32), w = wX X ad F' R' ∧ g_ok LK_wX F' ∧ g_okR LA_wX R' ∧ g_fr md_X1_holdStill F F' ∧ g_fr mr_X1_holdStill R R') := by
  refine g_mv (by decide +kernel) (Nat.le_of_ble_eq_true rfl) (fun E cx hret => ?_)
  refine g_aload_n cx 0 rfl e_X1_holdStill_0 ?_
  refine g_iconst cx 0 (by decide) e_X1_holdStill_1 ?_
  refine g_put cx cl_X1 fl_X1_9 42 (wX X ad (upd F 672 0) R) e_X1_holdStill_2 rfl rfl rfl rfl (Nat.le_of_ble_eq_true rfl) rfl ?_
  obtain ⟨F1, hF1⟩ : ∃ z, z = upd F 672 0 := ⟨_, rfl⟩
  rw [← hF1]
  have oF1 : g_ok LK_wX F1 := by rw [hF1]; exact g_ok_u hI rfl
  have fF1 : g_fr md_X1_holdStill F F1 := by rw [hF1]; exact g_fr_u (g_fr_rf F) rfl
  refine g_aload_n cx 0 rfl e_X1_holdStill_5 ?_
  refine g_iconst cx 0 (by decide) e_X1_holdStill_6 ?_
  refine g_put cx cl_X1 fl_X1_19 42 (wX X ad (upd F1 674 0) R) e_X1_holdStill_7 rfl rfl rfl rfl (Nat.le_of_ble_eq_true rfl) rfl ?_
  obtain ⟨F2, hF2⟩ : ∃ z, z = upd F1 674 0 := ⟨_, rfl⟩
  rw [← hF2]
  have oF2 : g_ok LK_wX F2 := by rw [hF2]; exact g_ok_u oF1 rfl
  have fF2 : g_fr md_X1_holdStill F F2 := by rw [hF2]; exact g_fr_u fF1 rfl
  exact hret e_X1_holdStill_10 (Nat.le_of_ble_eq_true rfl) (Nat.le_of_ble_eq_true rfl) ⟨F2, R, rfl, oF2, hA, fF2, (g_fr_rf R)⟩
set_option maxHeartbeats 4000000 in
set_option maxRecDepth 100000 in
theorem w_X8_side_5 (l : Launch) (X : gX) (ad : Nat → Nat) (F : Nat → Int32) (R : Nat → Nat → Int32) (hI : g_ok LK_wX F) (hA : g_okR LA_wX R) (a0 : Int32) (a1 : Int32) : g_Ci l X yX8_side cX8_side 3 (some .int) 2 0 0 [.ref (ad 5), .int a0, .int a1] (wX X ad F R) (fun r w => w = wX X ad F R ∧ jv (-2147483648) 2147483647 r) := by
  refine g_mi (by decide +kernel) (Nat.le_of_ble_eq_true rfl) (fun E cx hret => ?_)
  refine g_iload_n cx 1 rfl e_X8_side_0 ?_
  refine g_iconst cx 0 (by decide) e_X8_side_1 ?_
  refine g_bipush cx 9 (by decide) e_X8_side_2 ?_
  refine g_cNiW cx [.int a0, .int 0, .int 9] [] (c_X10_within l X (wX X ad F R) a0 0 9) mn_X8_31 yS_X10_within e_X8_side_4 (by unfold g_rr; decide) (by decide) rfl (Nat.le_of_ble_eq_true rfl) (fun r1 w2 h3 => ?_)
  obtain ⟨rfl, hr1⟩ := h3
  have pr1 : jv 0 1 r1 := by rw [hr1]; exact gi_01 _ _ _
  have J35 : ∀ (y4 : Int32), (jv (-2147483648) 2147483647 y4) → G X E 3 0 0 (wX X ad F R) [] 35 [.int y4] := by
    intro y4 py4
    exact hret e_X8_side_35 (Nat.le_of_ble_eq_true rfl) (Nat.le_of_ble_eq_true rfl) rfl ⟨rfl, py4⟩
  have J34 : G X E 3 0 0 (wX X ad F R) [] 34 [] := by
    refine g_iconst cx 0 (by decide) e_X8_side_34 ?_
    exact J35 0 (jv_w (jv_k (x := 0) 0 (by decide)) (by decide))
  refine g_if_eq cx 34 e_X8_side_7 (by decide) (fun zc5 => ?_) (fun zc5 => ?_)
  · have p6 := gn_eq 0 0 (gc_eq zc5) pr1 (jv_k (x := 0) 0 (by decide)) (by decide)
    refine g_lsub [] [] rfl ?_
    exact J34  
  · have p7 := gn_neL 1 1 (gc_ne zc5) pr1 (jv_k (x := 0) 0 (by decide)) (by decide)
    have p8 := jv_i 0 9 (jv_t a0) (gi_in (A := 0) (B := 9) hr1 zc5 (by decide) (by decide)) (by decide)
    refine g_iload_n cx 2 rfl e_X8_side_10 ?_
    refine g_iconst cx 0 (by decide) e_X8_side_11 ?_
    refine g_bipush cx 7 (by decide) e_X8_side_12 ?_
    refine g_cNiW cx [.int a1, .int 0, .int 7] [] (c_X10_within l X (wX X ad F R) a1 0 7) mn_X8_31 yS_X10_within e_X8_side_14 (by unfold g_rr; decide) (by decide) rfl (Nat.le_of_ble_eq_true rfl) (fun r9 w10 h11 => ?_)
    obtain ⟨rfl, hr9⟩ := h11
    have pr9 : jv 0 1 r9 := by rw [hr9]; exact gi_01 _ _ _
    refine g_if_eq cx 34 e_X8_side_17 (by decide) (fun zc12 => ?_) (fun zc12 => ?_)
    · have p13 := gn_eq 0 0 (gc_eq zc12) pr9 (jv_k (x := 0) 0 (by decide)) (by decide)
      refine g_lsub [] [] rfl ?_
      exact J34  
    · have p14 := gn_neL 1 1 (gc_ne zc12) pr9 (jv_k (x := 0) 0 (by decide)) (by decide)
      have p15 := jv_i 0 7 (jv_t a1) (gi_in (A := 0) (B := 7) hr9 zc12 (by decide) (by decide)) (by decide)
      refine g_aload_n cx 0 rfl e_X8_side_20 ?_
      refine g_get cx cl_X8 fl_X8_27 5 (.ref (ad 6)) e_X8_side_21 rfl rfl ?_
      refine g_iload_n cx 1 rfl e_X8_side_24 ?_
      refine g_bipush cx 8 (by decide) e_X8_side_25 ?_
      refine g_imul cx e_X8_side_27 ?_
      refine g_topi (fun x16 ex16 => ?_)
      have zx16 := jv_mul 0 72 ex16 p8 (jv_k (x := 8) 8 (by decide)) (by decide)
      refine g_iload_n cx 2 rfl e_X8_side_28 ?_
      refine g_iadd cx e_X8_side_29 ?_
      refine g_topi (fun x17 ex17 => ?_)
      have zx17 := jv_add 0 79 ex17 zx16.2 p15 (by decide)
      refine g_iald cx 6 e_X8_side_30 rfl (jv_ix 80 zx17.2 (by decide)) ?_
      refine g_topi (fun x18 ex18 => ?_)
      refine g_goto cx 35 e_X8_side_31 (by decide) ?_
      refine g_lsub [] [] rfl ?_
      exact J35 x18 (jv_t x18)
theorem e_X4_begin_0 : g_dc cX4_begin 0 (.aload_n 1) 1 1 := ⟨by decide +kernel, rfl⟩
theorem e_X4_begin_1 : g_dc cX4_begin 1 (.ifnonnull 4) 3 4 := ⟨by decide +kernel, rfl⟩
theorem e_X4_begin_5 : g_dc cX4_begin 5 (.iconst 0) 1 6 := ⟨by decide +kernel, rfl⟩
theorem e_X4_begin_6 : g_dc cX4_begin 6 (.istore_n 2) 1 7 := ⟨by decide +kernel, rfl⟩
theorem e_X4_begin_7 : g_dc cX4_begin 7 (.iload_n 2) 1 8 := ⟨by decide +kernel, rfl⟩
theorem e_X4_begin_8 : g_dc cX4_begin 8 (.bipush 10) 2 10 := ⟨by decide +kernel, rfl⟩
theorem e_X4_begin_10 : g_dc cX4_begin 10 (.if_icmp .ge 34) 3 13 := ⟨by decide +kernel, rfl⟩
theorem e_X4_begin_13 : g_dc cX4_begin 13 (.aload_n 0) 1 14 := ⟨by decide +kernel, rfl⟩
theorem e_X4_begin_14 : g_dc cX4_begin 14 (.getfield 9) 3 17 := ⟨by decide +kernel, rfl⟩
theorem e_X4_begin_17 : g_dc cX4_begin 17 (.iload_n 2) 1 18 := ⟨by decide +kernel, rfl⟩
theorem e_X4_begin_18 : g_dc cX4_begin 18 (.aload_n 1) 1 19 := ⟨by decide +kernel, rfl⟩
theorem e_X4_begin_19 : g_dc cX4_begin 19 (.iload_n 2) 1 20 := ⟨by decide +kernel, rfl⟩
theorem e_X4_begin_20 : g_dc cX4_begin 20 (.iconst 1) 1 21 := ⟨by decide +kernel, rfl⟩
theorem e_X4_begin_21 : g_dc cX4_begin 21 (.invokevirtual 46) 3 24 := ⟨by decide +kernel, rfl⟩
theorem e_X4_begin_24 : g_dc cX4_begin 24 (.iastore) 1 25 := ⟨by decide +kernel, rfl⟩
theorem e_X4_begin_25 : g_dc cX4_begin 25 (.aload_n 0) 1 26 := ⟨by decide +kernel, rfl⟩
theorem e_X4_begin_26 : g_dc cX4_begin 26 (.getfield 15) 3 29 := ⟨by decide +kernel, rfl⟩
theorem e_X4_begin_29 : g_dc cX4_begin 29 (.iload_n 2) 1 30 := ⟨by decide +kernel, rfl⟩
theorem e_X4_begin_30 : g_dc cX4_begin 30 (.aload_n 1) 1 31 := ⟨by decide +kernel, rfl⟩
theorem e_X4_begin_31 : g_dc cX4_begin 31 (.iload_n 2) 1 32 := ⟨by decide +kernel, rfl⟩
theorem e_X4_begin_32 : g_dc cX4_begin 32 (.bipush 6) 2 34 := ⟨by decide +kernel, rfl⟩
theorem e_X4_begin_34 : g_dc cX4_begin 34 (.invokevirtual 46) 3 37 := ⟨by decide +kernel, rfl⟩
theorem e_X4_begin_37 : g_dc cX4_begin 37 (.iastore) 1 38 := ⟨by decide +kernel, rfl⟩
theorem e_X4_begin_38 : g_dc cX4_begin 38 (.iinc 2 1) 3 41 := ⟨by decide +kernel, rfl⟩
theorem e_X4_begin_41 : g_dc cX4_begin 41 (.goto (-34)) 3 44 := ⟨by decide +kernel, rfl⟩
theorem e_X4_begin_44 : g_dc cX4_begin 44 (.iconst 0) 1 45 := ⟨by decide +kernel, rfl⟩
theorem e_X4_begin_45 : g_dc cX4_begin 45 (.istore_n 2) 1 46 := ⟨by decide +kernel, rfl⟩
theorem e_X4_begin_46 : g_dc cX4_begin 46 (.iload_n 2) 1 47 := ⟨by decide +kernel, rfl⟩
theorem e_X4_begin_47 : g_dc cX4_begin 47 (.aload_n 0) 1 48 := ⟨by decide +kernel, rfl⟩
theorem e_X4_begin_48 : g_dc cX4_begin 48 (.getfield 18) 3 51 := ⟨by decide +kernel, rfl⟩
theorem e_X4_begin_51 : g_dc cX4_begin 51 (.arraylength) 1 52 := ⟨by decide +kernel, rfl⟩
theorem e_X4_begin_52 : g_dc cX4_begin 52 (.if_icmp .ge 16) 3 55 := ⟨by decide +kernel, rfl⟩
theorem e_X4_begin_55 : g_dc cX4_begin 55 (.aload_n 0) 1 56 := ⟨by decide +kernel, rfl⟩
theorem e_X4_begin_56 : g_dc cX4_begin 56 (.getfield 18) 3 59 := ⟨by decide +kernel, rfl⟩
theorem e_X4_begin_59 : g_dc cX4_begin 59 (.iload_n 2) 1 60 := ⟨by decide +kernel, rfl⟩
theorem e_X4_begin_60 : g_dc cX4_begin 60 (.iconst 0) 1 61 := ⟨by decide +kernel, rfl⟩
theorem e_X4_begin_61 : g_dc cX4_begin 61 (.iastore) 1 62 := ⟨by decide +kernel, rfl⟩
theorem e_X4_begin_62 : g_dc cX4_begin 62 (.iinc 2 1) 3 65 := ⟨by decide +kernel, rfl⟩
theorem e_X4_begin_65 : g_dc cX4_begin 65 (.goto (-19)) 3 68 := ⟨by decide +kernel, rfl⟩
theorem e_X4_begin_68 : g_dc cX4_begin 68 (.aload_n 0) 1 69 := ⟨by decide +kernel, rfl⟩
theorem e_X4_begin_69 : g_dc cX4_begin 69 (.aload_n 1) 1 70 := ⟨by decide +kernel, rfl⟩
theorem e_X4_begin_70 : g_dc cX4_begin 70 (.getfield 52) 3 73 := ⟨by decide +kernel, rfl⟩
theorem e_X4_begin_73 : g_dc cX4_begin 73 (.putfield 21) 3 76 := ⟨by decide +kernel, rfl⟩
theorem e_X4_begin_76 : g_dc cX4_begin 76 (.aload_n 0) 1 77 := ⟨by decide +kernel, rfl⟩
theorem e_X4_begin_77 : g_dc cX4_begin 77 (.iconst 0) 1 78 := ⟨by decide +kernel, rfl⟩
theorem e_X4_begin_78 : g_dc cX4_begin 78 (.putfield 25) 3 81 := ⟨by decide +kernel, rfl⟩
theorem e_X4_begin_81 : g_dc cX4_begin 81 (.aload_n 0) 1 82 := ⟨by decide +kernel, rfl⟩
theorem e_X4_begin_82 : g_dc cX4_begin 82 (.iconst 0) 1 83 := ⟨by decide +kernel, rfl⟩
theorem e_X4_begin_83 : g_dc cX4_begin 83 (.putfield 28) 3 86 := ⟨by decide +kernel, rfl⟩
theorem e_X4_begin_86 : g_dc cX4_begin 86 (.aload_n 0) 1 87 := ⟨by decide +kernel, rfl⟩
theorem e_X4_begin_87 : g_dc cX4_begin 87 (.iconst 0) 1 88 := ⟨by decide +kernel, rfl⟩
theorem e_X4_begin_88 : g_dc cX4_begin 88 (.putfield 31) 3 91 := ⟨by decide +kernel, rfl⟩
theorem e_X4_begin_91 : g_dc cX4_begin 91 (.aload_n 0) 1 92 := ⟨by decide +kernel, rfl⟩
theorem e_X4_begin_92 : g_dc cX4_begin 92 (.iconst 0) 1 93 := ⟨by decide +kernel, rfl⟩
theorem e_X4_begin_93 : g_dc cX4_begin 93 (.putfield 34) 3 96 := ⟨by decide +kernel, rfl⟩
theorem e_X4_begin_96 : g_dc cX4_begin 96 (.aload_n 0) 1 97 := ⟨by decide +kernel, rfl⟩
theorem e_X4_begin_97 : g_dc cX4_begin 97 (.iconst 0) 1 98 := ⟨by decide +kernel, rfl⟩
theorem e_X4_begin_98 : g_dc cX4_begin 98 (.putfield 37) 3 101 := ⟨by decide +kernel, rfl⟩
theorem e_X4_begin_101 : g_dc cX4_begin 101 (.aload_n 0) 1 102 := ⟨by decide +kernel, rfl⟩
theorem e_X4_begin_102 : g_dc cX4_begin 102 (.iconst 0) 1 103 := ⟨by decide +kernel, rfl⟩
theorem e_X4_begin_103 : g_dc cX4_begin 103 (.putfield 40) 3 106 := ⟨by decide +kernel, rfl⟩
theorem e_X4_begin_106 : g_dc cX4_begin 106 (.aload_n 0) 1 107 := ⟨by decide +kernel, rfl⟩
theorem e_X4_begin_107 : g_dc cX4_begin 107 (.aload_n 1) 1 108 := ⟨by decide +kernel, rfl⟩
theorem e_X4_begin_108 : g_dc cX4_begin 108 (.getfield 53) 3 111 := ⟨by decide +kernel, rfl⟩
theorem e_X4_begin_111 : g_dc cX4_begin 111 (.putfield 43) 3 114 := ⟨by decide +kernel, rfl⟩
theorem e_X4_begin_114 : g_dc cX4_begin 114 (.return_) 1 115 := ⟨by decide +kernel, rfl⟩
def md_X4_begin_r5 : List Nat := [691, 692, 693, 694, 695, 696, 697, 698]
def mr_X4_begin_r5 : List Nat := [44, 45, 46]
set_option maxHeartbeats 4000000 in
set_option maxRecDepth 100000 in
theorem w_X4_begin_r5 (l : Launch) (X : gX) (ad : Nat → Nat) (F : Nat → Int32) (R : Nat → Nat → Int32) (hI : g_ok LK_wX F) (hA : g_okR LA_wX R) : g_Cv l X yX4_begin cX4_begin 3 3 0 0 [.ref (ad 43), .ref (ad 5)] (wX X ad F R) (fun w => ∃ (F' : Nat → Int32) (R' : Nat → Nat → Int32), w = wX X ad F' R' ∧ g_ok LK_wX F' ∧ g_okR LA_wX R' ∧ g_fr md_X4_begin_r5 F F' ∧ g_fr mr_X4_begin_r5 R R') := by
  refine g_mv (by decide +kernel) (Nat.le_of_ble_eq_true rfl) (fun E cx hret => ?_)
  refine g_aload_n cx 1 rfl e_X4_begin_0 ?_
  refine g_ifnonnull cx 5 e_X4_begin_1 (by decide) ?_
  refine g_iconst cx 0 (by decide) e_X4_begin_5 ?_
  refine g_istore_n cx [(2, .int 0), (0, .ref (ad 43)), (1, .ref (ad 5))] e_X4_begin_6 (by decide) rfl ?_
  have J7 : ∀ (N : Nat) (R2 : Nat → Nat → Int32) (y1 : Int32), (g_okR LA_wX R2) → (g_fr mr_X4_begin_r5 R R2) → (jv 0 10 y1) → (2147483647 - y1.toInt).toNat < N → G X E 3 0 0 (wX X ad F R2) [(0, .ref (ad 43)), (1, .ref (ad 5)), (2, .int y1)] 7 [] := by
    intro N
    induction N with
    | zero => intro R2 y1 oR2 fR2 py1 hm; exact absurd hm (Nat.not_lt_zero _)
    | succ N ih7 =>
      intro R2 y1 oR2 fR2 py1 hm7
      refine g_iload_n cx 2 rfl e_X4_begin_7 ?_
      refine g_bipush cx 10 (by decide) e_X4_begin_8 ?_
      refine g_icmp_ge cx 44 e_X4_begin_10 (by decide) (fun zc3 => ?_) (fun zc3 => ?_)
      · have p4 := gn_ge 10 10 (gc_le zc3) py1 (jv_k (x := 10) 10 (by decide)) (by decide)
        refine g_iconst cx 0 (by decide) e_X4_begin_44 ?_
        refine g_istore_n cx [(2, .int 0), (0, .ref (ad 43)), (1, .ref (ad 5))] e_X4_begin_45 (by decide) rfl ?_
        have J46 : ∀ (N : Nat) (R6 : Nat → Nat → Int32) (y5 : Int32), (g_okR LA_wX R6) → (g_fr mr_X4_begin_r5 R R6) → (jv 0 60 y5) → (2147483647 - y5.toInt).toNat < N → G X E 3 0 0 (wX X ad F R6) [(0, .ref (ad 43)), (1, .ref (ad 5)), (2, .int y5)] 46 [] := by
          intro N
          induction N with
          | zero => intro R6 y5 oR6 fR6 py5 hm; exact absurd hm (Nat.not_lt_zero _)
          | succ N ih46 =>
            intro R6 y5 oR6 fR6 py5 hm46
            refine g_iload_n cx 2 rfl e_X4_begin_46 ?_
            refine g_aload_n cx 0 rfl e_X4_begin_47 ?_
            refine g_get cx cl_X4 fl_X4_18 43 (.ref (ad 46)) e_X4_begin_48 rfl rfl ?_
            refine g_alen cx 46 30 e_X4_begin_51 rfl (by decide) ?_
            refine g_icmp_ge cx 68 e_X4_begin_52 (by decide) (fun zc7 => ?_) (fun zc7 => ?_)
            · have p8 := gn_ge 30 60 (gc_le zc7) py5 (jv_k (x := 30) 30 (by decide)) (by decide)
              refine g_aload_n cx 0 rfl e_X4_begin_68 ?_
              refine g_aload_n cx 1 rfl e_X4_begin_69 ?_
              refine g_getN cx cl_X8 fn_X4_52 5 (.int (F 83)) e_X4_begin_70 rfl rfl ?_
              refine g_put cx cl_X4 fl_X4_21 43 (wX X ad (upd F 691 (F 83)) R6) e_X4_begin_73 rfl rfl rfl rfl (Nat.le_of_ble_eq_true rfl) rfl ?_
              obtain ⟨F9, hF9⟩ : ∃ z, z = upd F 691 (F 83) := ⟨_, rfl⟩
              rw [← hF9]
              have oF9 : g_ok LK_wX F9 := by rw [hF9]; exact g_ok_u hI rfl
              have fF9 : g_fr md_X4_begin_r5 F F9 := by rw [hF9]; exact g_fr_u (g_fr_rf F) rfl
              refine g_aload_n cx 0 rfl e_X4_begin_76 ?_
              refine g_iconst cx 0 (by decide) e_X4_begin_77 ?_
              refine g_put cx cl_X4 fl_X4_25 43 (wX X ad (upd F9 692 0) R6) e_X4_begin_78 rfl rfl rfl rfl (Nat.le_of_ble_eq_true rfl) rfl ?_
              obtain ⟨F10, hF10⟩ : ∃ z, z = upd F9 692 0 := ⟨_, rfl⟩
              rw [← hF10]
              have oF10 : g_ok LK_wX F10 := by rw [hF10]; exact g_ok_u oF9 rfl
              have fF10 : g_fr md_X4_begin_r5 F F10 := by rw [hF10]; exact g_fr_u fF9 rfl
              refine g_aload_n cx 0 rfl e_X4_begin_81 ?_
              refine g_iconst cx 0 (by decide) e_X4_begin_82 ?_
              refine g_put cx cl_X4 fl_X4_28 43 (wX X ad (upd F10 693 0) R6) e_X4_begin_83 rfl rfl rfl rfl (Nat.le_of_ble_eq_true rfl) rfl ?_
              obtain ⟨F11, hF11⟩ : ∃ z, z = upd F10 693 0 := ⟨_, rfl⟩
              rw [← hF11]
              have oF11 : g_ok LK_wX F11 := by rw [hF11]; exact g_ok_u oF10 rfl
              have fF11 : g_fr md_X4_begin_r5 F F11 := by rw [hF11]; exact g_fr_u fF10 rfl
              refine g_aload_n cx 0 rfl e_X4_begin_86 ?_
              refine g_iconst cx 0 (by decide) e_X4_begin_87 ?_
              refine g_put cx cl_X4 fl_X4_31 43 (wX X ad (upd F11 694 0) R6) e_X4_begin_88 rfl rfl rfl rfl (Nat.le_of_ble_eq_true rfl) rfl ?_
              obtain ⟨F12, hF12⟩ : ∃ z, z = upd F11 694 0 := ⟨_, rfl⟩
              rw [← hF12]
              have oF12 : g_ok LK_wX F12 := by rw [hF12]; exact g_ok_u oF11 rfl
              have fF12 : g_fr md_X4_begin_r5 F F12 := by rw [hF12]; exact g_fr_u fF11 rfl
              refine g_aload_n cx 0 rfl e_X4_begin_91 ?_
              refine g_iconst cx 0 (by decide) e_X4_begin_92 ?_
              refine g_put cx cl_X4 fl_X4_34 43 (wX X ad (upd F12 695 0) R6) e_X4_begin_93 rfl rfl rfl rfl (Nat.le_of_ble_eq_true rfl) rfl ?_
              obtain ⟨F13, hF13⟩ : ∃ z, z = upd F12 695 0 := ⟨_, rfl⟩
              rw [← hF13]
              have oF13 : g_ok LK_wX F13 := by rw [hF13]; exact g_ok_u oF12 rfl
              have fF13 : g_fr md_X4_begin_r5 F F13 := by rw [hF13]; exact g_fr_u fF12 rfl
              refine g_aload_n cx 0 rfl e_X4_begin_96 ?_
              refine g_iconst cx 0 (by decide) e_X4_begin_97 ?_
              refine g_put cx cl_X4 fl_X4_37 43 (wX X ad (upd F13 696 0) R6) e_X4_begin_98 rfl rfl rfl rfl (Nat.le_of_ble_eq_true rfl) rfl ?_
              obtain ⟨F14, hF14⟩ : ∃ z, z = upd F13 696 0 := ⟨_, rfl⟩
              rw [← hF14]
              have oF14 : g_ok LK_wX F14 := by rw [hF14]; exact g_ok_u oF13 rfl
              have fF14 : g_fr md_X4_begin_r5 F F14 := by rw [hF14]; exact g_fr_u fF13 rfl
              refine g_aload_n cx 0 rfl e_X4_begin_101 ?_
              refine g_iconst cx 0 (by decide) e_X4_begin_102 ?_
              refine g_put cx cl_X4 fl_X4_40 43 (wX X ad (upd F14 697 0) R6) e_X4_begin_103 rfl rfl rfl rfl (Nat.le_of_ble_eq_true rfl) rfl ?_
              obtain ⟨F15, hF15⟩ : ∃ z, z = upd F14 697 0 := ⟨_, rfl⟩
              rw [← hF15]
              have oF15 : g_ok LK_wX F15 := by rw [hF15]; exact g_ok_u oF14 rfl
              have fF15 : g_fr md_X4_begin_r5 F F15 := by rw [hF15]; exact g_fr_u fF14 rfl
              refine g_aload_n cx 0 rfl e_X4_begin_106 ?_
              refine g_aload_n cx 1 rfl e_X4_begin_107 ?_
              refine g_getN cx cl_X8 fn_X4_53 5 (.int (F15 81)) e_X4_begin_108 rfl rfl ?_
              refine g_toi (F 81) (((((((g_pu2 hF15 rfl).trans (g_pu2 hF14 rfl)).trans (g_pu2 hF13 rfl)).trans (g_pu2 hF12 rfl)).trans (g_pu2 hF11 rfl)).trans (g_pu2 hF10 rfl)).trans (g_pu2 hF9 rfl)) ?_
              refine g_put cx cl_X4 fl_X4_43 43 (wX X ad (upd F15 698 (F 81)) R6) e_X4_begin_111 rfl rfl rfl rfl (Nat.le_of_ble_eq_true rfl) rfl ?_
              obtain ⟨F16, hF16⟩ : ∃ z, z = upd F15 698 (F 81) := ⟨_, rfl⟩
              rw [← hF16]
              have oF16 : g_ok LK_wX F16 := by rw [hF16]; exact g_ok_u oF15 rfl
              have fF16 : g_fr md_X4_begin_r5 F F16 := by rw [hF16]; exact g_fr_u fF15 rfl
              exact hret e_X4_begin_114 (Nat.le_of_ble_eq_true rfl) (Nat.le_of_ble_eq_true rfl) ⟨F16, R6, rfl, oF16, oR6, fF16, fR6⟩
            · have p17 := gn_lt 0 29 (gc_nle zc7) py5 (jv_k (x := 30) 30 (by decide)) (by decide)
              refine g_aload_n cx 0 rfl e_X4_begin_55 ?_
              refine g_get cx cl_X4 fl_X4_18 43 (.ref (ad 46)) e_X4_begin_56 rfl rfl ?_
              refine g_iload_n cx 2 rfl e_X4_begin_59 ?_
              refine g_iconst cx 0 (by decide) e_X4_begin_60 ?_
              refine g_iast cx 46 (wX X ad F (g_u R6 46 (upd (R6 46) (Int32.toNatClampNeg y5) 0))) e_X4_begin_61 rfl (jv_ix 30 p17 (by decide)) rfl ?_
              obtain ⟨R18, hR18⟩ : ∃ z, z = g_u R6 46 (upd (R6 46) (Int32.toNatClampNeg y5) 0) := ⟨_, rfl⟩
              rw [← hR18]
              have oR18 : g_okR LA_wX R18 := by rw [hR18]; exact g_okR_u oR6 rfl
              have fR18 : g_fr mr_X4_begin_r5 R R18 := by rw [hR18]; exact g_fr_r fR6 rfl
              obtain ⟨x19, ex19⟩ : ∃ z : Int32, z = y5 + Int32.ofInt 1 := ⟨_, rfl⟩
              refine g_iinc cx x19 [(2, .int x19), (0, .ref (ad 43)), (1, .ref (ad 5))] 2 e_X4_begin_62 rfl ex19.symm (by decide) rfl ?_
              have zx19 := jv_add 1 30 (show x19 = y5 + 1 from ex19) p17 (jv_k (x := 1) 1 (by decide)) (by decide)
              refine g_goto cx 46 e_X4_begin_65 (by decide) ?_
              refine g_lsub [1, 2, 0] [(0, .ref (ad 43)), (1, .ref (ad 5)), (2, .int x19)] rfl ?_
              exact ih46 R18 x19 oR18 fR18 (jv_w zx19.2 (by decide)) (Nat.lt_of_lt_of_le (show (2147483647 - x19.toInt).toNat < (2147483647 - y5.toInt).toNat from by have q0 := (jv_k (x := 1) 1 (by decide)).1; have q1 := (jv_k (x := 1) 1 (by decide)).2; have q2 := (jv_k (x := 30) 30 (by decide)).1; have q3 := (jv_k (x := 30) 30 (by decide)).2; have q4 := zx19.2.1; have q5 := zx19.2.2; have q6 := p17.1; have q7 := p17.2; have q8 := (gc_nle zc7); have q9 := (g_eq0 zx19.1); omega) (Nat.le_of_lt_succ hm46))
        refine g_lsub [1, 2, 0] [(0, .ref (ad 43)), (1, .ref (ad 5)), (2, .int 0)] rfl ?_
        exact J46 _ R2 0 oR2 fR2 (jv_w (jv_k (x := 0) 0 (by decide)) (by decide)) (Nat.lt_succ_self _)
      · have p20 := gn_lt 0 9 (gc_nle zc3) py1 (jv_k (x := 10) 10 (by decide)) (by decide)
        refine g_aload_n cx 0 rfl e_X4_begin_13 ?_
        refine g_get cx cl_X4 fl_X4_9 43 (.ref (ad 44)) e_X4_begin_14 rfl rfl ?_
        refine g_iload_n cx 2 rfl e_X4_begin_17 ?_
        refine g_aload_n cx 1 rfl e_X4_begin_18 ?_
        refine g_iload_n cx 2 rfl e_X4_begin_19 ?_
        refine g_iconst cx 1 (by decide) e_X4_begin_20 ?_
        refine g_cViW cx [.int y1, .int 1] [.int y1, .ref (ad 44)] (w_X8_side_5 l X ad F R2 hI oR2 y1 1) ml_X4_46 yV_X8_side e_X4_begin_21 (by unfold g_rr; decide) (by decide) 5 rfl rfl rfl (Nat.le_of_ble_eq_true rfl) (fun r21 w22 h23 => ?_)
        obtain ⟨rfl, pr21⟩ := h23
        refine g_iast cx 44 (wX X ad F (g_u R2 44 (upd (R2 44) (Int32.toNatClampNeg y1) r21))) e_X4_begin_24 rfl (jv_ix 10 p20 (by decide)) rfl ?_
        obtain ⟨R24, hR24⟩ : ∃ z, z = g_u R2 44 (upd (R2 44) (Int32.toNatClampNeg y1) r21) := ⟨_, rfl⟩
        rw [← hR24]
        have oR24 : g_okR LA_wX R24 := by rw [hR24]; exact g_okR_u oR2 rfl
        have fR24 : g_fr mr_X4_begin_r5 R R24 := by rw [hR24]; exact g_fr_r fR2 rfl
        refine g_aload_n cx 0 rfl e_X4_begin_25 ?_
        refine g_get cx cl_X4 fl_X4_15 43 (.ref (ad 45)) e_X4_begin_26 rfl rfl ?_
        refine g_iload_n cx 2 rfl e_X4_begin_29 ?_
        refine g_aload_n cx 1 rfl e_X4_begin_30 ?_
        refine g_iload_n cx 2 rfl e_X4_begin_31 ?_
        refine g_bipush cx 6 (by decide) e_X4_begin_32 ?_
        refine g_cViW cx [.int y1, .int 6] [.int y1, .ref (ad 45)] (w_X8_side_5 l X ad F R24 hI oR24 y1 6) ml_X4_46 yV_X8_side e_X4_begin_34 (by unfold g_rr; decide) (by decide) 5 rfl rfl rfl (Nat.le_of_ble_eq_true rfl) (fun r25 w26 h27 => ?_)
        obtain ⟨rfl, pr25⟩ := h27
        refine g_iast cx 45 (wX X ad F (g_u R24 45 (upd (R24 45) (Int32.toNatClampNeg y1) r25))) e_X4_begin_37 rfl (jv_ix 10 p20 (by decide)) rfl ?_
        obtain ⟨R28, hR28⟩ : ∃ z, z = g_u R24 45 (upd (R24 45) (Int32.toNatClampNeg y1) r25) := ⟨_, rfl⟩
        rw [← hR28]
        have oR28 : g_okR LA_wX R28 := by rw [hR28]; exact g_okR_u oR24 rfl
        have fR28 : g_fr mr_X4_begin_r5 R R28 := by rw [hR28]; exact g_fr_r fR24 rfl
        obtain ⟨x29, ex29⟩ : ∃ z : Int32, z = y1 + Int32.ofInt 1 := ⟨_, rfl⟩
        refine g_iinc cx x29 [(2, .int x29), (0, .ref (ad 43)), (1, .ref (ad 5))] 2 e_X4_begin_38 rfl ex29.symm (by decide) rfl ?_
        have zx29 := jv_add 1 10 (show x29 = y1 + 1 from ex29) p20 (jv_k (x := 1) 1 (by decide)) (by decide)
        refine g_goto cx 7 e_X4_begin_41 (by decide) ?_
        refine g_lsub [1, 2, 0] [(0, .ref (ad 43)), (1, .ref (ad 5)), (2, .int x29)] rfl ?_
        exact ih7 R28 x29 oR28 fR28 (jv_w zx29.2 (by decide)) (Nat.lt_of_lt_of_le (show (2147483647 - x29.toInt).toNat < (2147483647 - y1.toInt).toNat from by have q0 := (jv_k (x := 1) 1 (by decide)).1; have q1 := (jv_k (x := 1) 1 (by decide)).2; have q2 := (jv_k (x := 10) 10 (by decide)).1; have q3 := (jv_k (x := 10) 10 (by decide)).2; have q4 := zx29.2.1; have q5 := zx29.2.2; have q6 := p20.1; have q7 := p20.2; have q8 := (gc_nle zc3); have q9 := (g_eq0 zx29.1); omega) (Nat.le_of_lt_succ hm7))
  refine g_lsub [1, 2, 0] [(0, .ref (ad 43)), (1, .ref (ad 5)), (2, .int 0)] rfl ?_
  exact J7 _ R 0 hA (g_fr_rf R) (jv_w (jv_k (x := 0) 0 (by decide)) (by decide)) (Nat.lt_succ_self _)
theorem e_X4_lead_0 : g_dc cX4_lead 0 (.iload_n 1) 1 1 := ⟨by decide +kernel, rfl⟩
theorem e_X4_lead_1 : g_dc cX4_lead 1 (.iconst 0) 1 2 := ⟨by decide +kernel, rfl⟩
theorem e_X4_lead_2 : g_dc cX4_lead 2 (.bipush 9) 2 4 := ⟨by decide +kernel, rfl⟩
theorem e_X4_lead_4 : g_dc cX4_lead 4 (.invokestatic 54) 3 7 := ⟨by decide +kernel, rfl⟩
theorem e_X4_lead_7 : g_dc cX4_lead 7 (.ifCond .eq 27) 3 10 := ⟨by decide +kernel, rfl⟩
theorem e_X4_lead_10 : g_dc cX4_lead 10 (.iload_n 2) 1 11 := ⟨by decide +kernel, rfl⟩
theorem e_X4_lead_11 : g_dc cX4_lead 11 (.iconst 0) 1 12 := ⟨by decide +kernel, rfl⟩
theorem e_X4_lead_12 : g_dc cX4_lead 12 (.iconst 2) 1 13 := ⟨by decide +kernel, rfl⟩
theorem e_X4_lead_13 : g_dc cX4_lead 13 (.invokestatic 54) 3 16 := ⟨by decide +kernel, rfl⟩
theorem e_X4_lead_16 : g_dc cX4_lead 16 (.ifCond .eq 18) 3 19 := ⟨by decide +kernel, rfl⟩
theorem e_X4_lead_19 : g_dc cX4_lead 19 (.aload_n 0) 1 20 := ⟨by decide +kernel, rfl⟩
theorem e_X4_lead_20 : g_dc cX4_lead 20 (.getfield 18) 3 23 := ⟨by decide +kernel, rfl⟩
theorem e_X4_lead_23 : g_dc cX4_lead 23 (.iload_n 2) 1 24 := ⟨by decide +kernel, rfl⟩
theorem e_X4_lead_24 : g_dc cX4_lead 24 (.bipush 10) 2 26 := ⟨by decide +kernel, rfl⟩
theorem e_X4_lead_26 : g_dc cX4_lead 26 (.imul) 1 27 := ⟨by decide +kernel, rfl⟩
theorem e_X4_lead_27 : g_dc cX4_lead 27 (.iload_n 1) 1 28 := ⟨by decide +kernel, rfl⟩
theorem e_X4_lead_28 : g_dc cX4_lead 28 (.iadd) 1 29 := ⟨by decide +kernel, rfl⟩
theorem e_X4_lead_29 : g_dc cX4_lead 29 (.dup2) 1 30 := ⟨by decide +kernel, rfl⟩
theorem e_X4_lead_30 : g_dc cX4_lead 30 (.iaload) 1 31 := ⟨by decide +kernel, rfl⟩
theorem e_X4_lead_31 : g_dc cX4_lead 31 (.iload_n 3) 1 32 := ⟨by decide +kernel, rfl⟩
theorem e_X4_lead_32 : g_dc cX4_lead 32 (.iadd) 1 33 := ⟨by decide +kernel, rfl⟩
theorem e_X4_lead_33 : g_dc cX4_lead 33 (.iastore) 1 34 := ⟨by decide +kernel, rfl⟩
theorem e_X4_lead_34 : g_dc cX4_lead 34 (.return_) 1 35 := ⟨by decide +kernel, rfl⟩
def md_X4_lead : List Nat := []
def mr_X4_lead : List Nat := [46]
set_option maxHeartbeats 4000000 in
set_option maxRecDepth 100000 in
theorem w_X4_lead (l : Launch) (X : gX) (ad : Nat → Nat) (F : Nat → Int32) (R : Nat → Nat → Int32) (hI : g_ok LK_wX F) (hA : g_okR LA_wX R) (a0 : Int32) (a1 : Int32) (a2 : Int32) : g_Cv l X yX4_lead cX4_lead 4 2 0 0 [.ref (ad 43), .int a0, .int a1, .int a2] (wX X ad F R) (fun w => ∃ (F' : Nat → Int32) (R' : Nat → Nat → Int32), w = wX X ad F' R' ∧ g_ok LK_wX F' ∧ g_okR LA_wX R' ∧ g_fr md_X4_lead F F' ∧ g_fr mr_X4_lead R R') := by
  refine g_mv (by decide +kernel) (Nat.le_of_ble_eq_true rfl) (fun E cx hret => ?_)
  refine g_iload_n cx 1 rfl e_X4_lead_0 ?_
  refine g_iconst cx 0 (by decide) e_X4_lead_1 ?_
  refine g_bipush cx 9 (by decide) e_X4_lead_2 ?_
  refine g_cNiW cx [.int a0, .int 0, .int 9] [] (c_X10_within l X (wX X ad F R) a0 0 9) mn_X4_54 yS_X10_within e_X4_lead_4 (by unfold g_rr; decide) (by decide) rfl (Nat.le_of_ble_eq_true rfl) (fun r1 w2 h3 => ?_)
  obtain ⟨rfl, hr1⟩ := h3
  have pr1 : jv 0 1 r1 := by rw [hr1]; exact gi_01 _ _ _
  have J34 : ∀ (R4 : Nat → Nat → Int32), (g_okR LA_wX R4) → (g_fr mr_X4_lead R R4) → G X E 4 0 0 (wX X ad F R4) [] 34 [] := by
    intro R4 oR4 fR4
    exact hret e_X4_lead_34 (Nat.le_of_ble_eq_true rfl) (Nat.le_of_ble_eq_true rfl) ⟨F, R4, rfl, hI, oR4, (g_fr_rf F), fR4⟩
  refine g_if_eq cx 34 e_X4_lead_7 (by decide) (fun zc5 => ?_) (fun zc5 => ?_)
  · have p6 := gn_eq 0 0 (gc_eq zc5) pr1 (jv_k (x := 0) 0 (by decide)) (by decide)
    refine g_lsub [] [] rfl ?_
    exact J34 R hA (g_fr_rf R)
  · have p7 := gn_neL 1 1 (gc_ne zc5) pr1 (jv_k (x := 0) 0 (by decide)) (by decide)
    have p8 := jv_i 0 9 (jv_t a0) (gi_in (A := 0) (B := 9) hr1 zc5 (by decide) (by decide)) (by decide)
    refine g_iload_n cx 2 rfl e_X4_lead_10 ?_
    refine g_iconst cx 0 (by decide) e_X4_lead_11 ?_
    refine g_iconst cx 2 (by decide) e_X4_lead_12 ?_
    refine g_cNiW cx [.int a1, .int 0, .int 2] [] (c_X10_within l X (wX X ad F R) a1 0 2) mn_X4_54 yS_X10_within e_X4_lead_13 (by unfold g_rr; decide) (by decide) rfl (Nat.le_of_ble_eq_true rfl) (fun r9 w10 h11 => ?_)
    obtain ⟨rfl, hr9⟩ := h11
    have pr9 : jv 0 1 r9 := by rw [hr9]; exact gi_01 _ _ _
    refine g_if_eq cx 34 e_X4_lead_16 (by decide) (fun zc12 => ?_) (fun zc12 => ?_)
    · have p13 := gn_eq 0 0 (gc_eq zc12) pr9 (jv_k (x := 0) 0 (by decide)) (by decide)
      refine g_lsub [] [] rfl ?_
      exact J34 R hA (g_fr_rf R)
    · have p14 := gn_neL 1 1 (gc_ne zc12) pr9 (jv_k (x := 0) 0 (by decide)) (by decide)
      have p15 := jv_i 0 2 (jv_t a1) (gi_in (A := 0) (B := 2) hr9 zc12 (by decide) (by decide)) (by decide)
      refine g_aload_n cx 0 rfl e_X4_lead_19 ?_
      refine g_get cx cl_X4 fl_X4_18 43 (.ref (ad 46)) e_X4_lead_20 rfl rfl ?_
      refine g_iload_n cx 2 rfl e_X4_lead_23 ?_
      refine g_bipush cx 10 (by decide) e_X4_lead_24 ?_
      refine g_imul cx e_X4_lead_26 ?_
      refine g_topi (fun x16 ex16 => ?_)
      have zx16 := jv_mul 0 20 ex16 p15 (jv_k (x := 10) 10 (by decide)) (by decide)
      refine g_iload_n cx 1 rfl e_X4_lead_27 ?_
      refine g_iadd cx e_X4_lead_28 ?_
      refine g_topi (fun x17 ex17 => ?_)
      have zx17 := jv_add 0 29 ex17 zx16.2 p8 (by decide)
      refine g_dup2 cx rfl rfl e_X4_lead_29 ?_
      refine g_iald cx 46 e_X4_lead_30 rfl (jv_ix 30 zx17.2 (by decide)) ?_
      refine g_topi (fun x18 ex18 => ?_)
      refine g_iload_n cx 3 rfl e_X4_lead_31 ?_
      refine g_iadd cx e_X4_lead_32 ?_
      refine g_topi (fun x19 ex19 => ?_)
      refine g_iast cx 46 (wX X ad F (g_u R 46 (upd (R 46) (Int32.toNatClampNeg x17) x19))) e_X4_lead_33 rfl (jv_ix 30 zx17.2 (by decide)) rfl ?_
      obtain ⟨R20, hR20⟩ : ∃ z, z = g_u R 46 (upd (R 46) (Int32.toNatClampNeg x17) x19) := ⟨_, rfl⟩
      rw [← hR20]
      have oR20 : g_okR LA_wX R20 := by rw [hR20]; exact g_okR_u hA rfl
      have fR20 : g_fr mr_X4_lead R R20 := by rw [hR20]; exact g_fr_r (g_fr_rf R) rfl
      refine g_lsub [] [] rfl ?_
      exact J34 R20 oR20 fR20
theorem e_X4_standingSet_0 : g_dc cX4_standingSet 0 (.aload_n 0) 1 1 := ⟨by decide +kernel, rfl⟩
theorem e_X4_standingSet_1 : g_dc cX4_standingSet 1 (.getfield 21) 3 4 := ⟨by decide +kernel, rfl⟩
theorem e_X4_standingSet_4 : g_dc cX4_standingSet 4 (.aload_n 0) 1 5 := ⟨by decide +kernel, rfl⟩
theorem e_X4_standingSet_5 : g_dc cX4_standingSet 5 (.getfield 25) 3 8 := ⟨by decide +kernel, rfl⟩
theorem e_X4_standingSet_8 : g_dc cX4_standingSet 8 (.aload_n 0) 1 9 := ⟨by decide +kernel, rfl⟩
theorem e_X4_standingSet_9 : g_dc cX4_standingSet 9 (.getfield 28) 3 12 := ⟨by decide +kernel, rfl⟩
theorem e_X4_standingSet_12 : g_dc cX4_standingSet 12 (.ior) 1 13 := ⟨by decide +kernel, rfl⟩
theorem e_X4_standingSet_13 : g_dc cX4_standingSet 13 (.iconst (-1)) 1 14 := ⟨by decide +kernel, rfl⟩
theorem e_X4_standingSet_14 : g_dc cX4_standingSet 14 (.ixor) 1 15 := ⟨by decide +kernel, rfl⟩
theorem e_X4_standingSet_15 : g_dc cX4_standingSet 15 (.iand) 1 16 := ⟨by decide +kernel, rfl⟩
theorem e_X4_standingSet_16 : g_dc cX4_standingSet 16 (.ireturn) 1 17 := ⟨by decide +kernel, rfl⟩
set_option maxHeartbeats 4000000 in
set_option maxRecDepth 100000 in
theorem w_X4_standingSet (l : Launch) (X : gX) (ad : Nat → Nat) (F : Nat → Int32) (R : Nat → Nat → Int32) (hI : g_ok LK_wX F) (hA : g_okR LA_wX R) : g_Ci l X yX4_standingSet cX4_standingSet 1 (some .int) 1 0 0 [.ref (ad 43)] (wX X ad F R) (fun r w => w = wX X ad F R ∧ jv (-2147483648) 2147483647 r) := by
  refine g_mi (by decide +kernel) (Nat.le_of_ble_eq_true rfl) (fun E cx hret => ?_)
  refine g_aload_n cx 0 rfl e_X4_standingSet_0 ?_
  refine g_get cx cl_X4 fl_X4_21 43 (.int (F 691)) e_X4_standingSet_1 rfl rfl ?_
  refine g_aload_n cx 0 rfl e_X4_standingSet_4 ?_
  refine g_get cx cl_X4 fl_X4_25 43 (.int (F 692)) e_X4_standingSet_5 rfl rfl ?_
  refine g_aload_n cx 0 rfl e_X4_standingSet_8 ?_
  refine g_get cx cl_X4 fl_X4_28 43 (.int (F 693)) e_X4_standingSet_9 rfl rfl ?_
  refine g_ior cx e_X4_standingSet_12 ?_
  refine g_topi (fun x1 ex1 => ?_)
  refine g_iconst cx (-1) (by decide) e_X4_standingSet_13 ?_
  refine g_ixor cx e_X4_standingSet_14 ?_
  refine g_topi (fun x2 ex2 => ?_)
  refine g_iand cx e_X4_standingSet_15 ?_
  refine g_topi (fun x3 ex3 => ?_)
  exact hret e_X4_standingSet_16 (Nat.le_of_ble_eq_true rfl) (Nat.le_of_ble_eq_true rfl) rfl ⟨rfl, (jv_t x3)⟩
theorem e_X4_standing_0 : g_dc cX4_standing 0 (.aload_n 0) 1 1 := ⟨by decide +kernel, rfl⟩
theorem e_X4_standing_1 : g_dc cX4_standing 1 (.invokevirtual 58) 3 4 := ⟨by decide +kernel, rfl⟩
theorem e_X4_standing_4 : g_dc cX4_standing 4 (.invokestatic 62) 3 7 := ⟨by decide +kernel, rfl⟩
theorem e_X4_standing_7 : g_dc cX4_standing 7 (.ireturn) 1 8 := ⟨by decide +kernel, rfl⟩
set_option maxHeartbeats 4000000 in
set_option maxRecDepth 100000 in
theorem w_X4_standing (l : Launch) (X : gX) (ad : Nat → Nat) (F : Nat → Int32) (R : Nat → Nat → Int32) (hI : g_ok LK_wX F) (hA : g_okR LA_wX R) : g_Ci l X yX4_standing cX4_standing 1 (some .int) 2 0 0 [.ref (ad 43)] (wX X ad F R) (fun r w => w = wX X ad F R ∧ jv (-2147483648) 2147483647 r) := by
  refine g_mi (by decide +kernel) (Nat.le_of_ble_eq_true rfl) (fun E cx hret => ?_)
  refine g_aload_n cx 0 rfl e_X4_standing_0 ?_
  refine g_cViW cx [] [] (w_X4_standingSet l X ad F R hI hA) ml_X4_58 yV_X4_standingSet e_X4_standing_1 (by unfold g_rr; decide) (by decide) 43 rfl rfl rfl (Nat.le_of_ble_eq_true rfl) (fun r1 w2 h3 => ?_)
  obtain ⟨rfl, pr1⟩ := h3
  refine g_cOiW cx [.int r1] [] (c_J6_bitCount_0f7a4 l X (wX X ad F R) r1) ml_X4_62 yS_J6_bitCount_0f7a4 e_X4_standing_4 (by unfold g_rr; decide) (by decide) rfl (Nat.le_of_ble_eq_true rfl) (fun r4 w5 h6 => ?_)
  obtain ⟨rfl, hr4⟩ := h6
  exact hret e_X4_standing_7 (Nat.le_of_ble_eq_true rfl) (Nat.le_of_ble_eq_true rfl) rfl ⟨rfl, (jv_t r4)⟩
theorem e_X4_inches_0 : g_dc cX4_inches 0 (.iconst 0) 1 1 := ⟨by decide +kernel, rfl⟩
theorem e_X4_inches_1 : g_dc cX4_inches 1 (.istore_n 1) 1 2 := ⟨by decide +kernel, rfl⟩
theorem e_X4_inches_2 : g_dc cX4_inches 2 (.iconst 0) 1 3 := ⟨by decide +kernel, rfl⟩
theorem e_X4_inches_3 : g_dc cX4_inches 3 (.istore_n 2) 1 4 := ⟨by decide +kernel, rfl⟩
theorem e_X4_inches_4 : g_dc cX4_inches 4 (.iload_n 2) 1 5 := ⟨by decide +kernel, rfl⟩
theorem e_X4_inches_5 : g_dc cX4_inches 5 (.aload_n 0) 1 6 := ⟨by decide +kernel, rfl⟩
theorem e_X4_inches_6 : g_dc cX4_inches 6 (.getfield 18) 3 9 := ⟨by decide +kernel, rfl⟩
theorem e_X4_inches_9 : g_dc cX4_inches 9 (.arraylength) 1 10 := ⟨by decide +kernel, rfl⟩
theorem e_X4_inches_10 : g_dc cX4_inches 10 (.if_icmp .ge 18) 3 13 := ⟨by decide +kernel, rfl⟩
theorem e_X4_inches_13 : g_dc cX4_inches 13 (.iload_n 1) 1 14 := ⟨by decide +kernel, rfl⟩
theorem e_X4_inches_14 : g_dc cX4_inches 14 (.aload_n 0) 1 15 := ⟨by decide +kernel, rfl⟩
theorem e_X4_inches_15 : g_dc cX4_inches 15 (.getfield 18) 3 18 := ⟨by decide +kernel, rfl⟩
theorem e_X4_inches_18 : g_dc cX4_inches 18 (.iload_n 2) 1 19 := ⟨by decide +kernel, rfl⟩
theorem e_X4_inches_19 : g_dc cX4_inches 19 (.iaload) 1 20 := ⟨by decide +kernel, rfl⟩
theorem e_X4_inches_20 : g_dc cX4_inches 20 (.iadd) 1 21 := ⟨by decide +kernel, rfl⟩
theorem e_X4_inches_21 : g_dc cX4_inches 21 (.istore_n 1) 1 22 := ⟨by decide +kernel, rfl⟩
theorem e_X4_inches_22 : g_dc cX4_inches 22 (.iinc 2 1) 3 25 := ⟨by decide +kernel, rfl⟩
theorem e_X4_inches_25 : g_dc cX4_inches 25 (.goto (-21)) 3 28 := ⟨by decide +kernel, rfl⟩
theorem e_X4_inches_28 : g_dc cX4_inches 28 (.iload_n 1) 1 29 := ⟨by decide +kernel, rfl⟩
theorem e_X4_inches_29 : g_dc cX4_inches 29 (.ireturn) 1 30 := ⟨by decide +kernel, rfl⟩
set_option maxHeartbeats 4000000 in
set_option maxRecDepth 100000 in
theorem w_X4_inches (l : Launch) (X : gX) (ad : Nat → Nat) (F : Nat → Int32) (R : Nat → Nat → Int32) (hI : g_ok LK_wX F) (hA : g_okR LA_wX R) : g_Ci l X yX4_inches cX4_inches 3 (some .int) 1 0 0 [.ref (ad 43)] (wX X ad F R) (fun r w => w = wX X ad F R ∧ jv (-2147483648) 2147483647 r) := by
  refine g_mi (by decide +kernel) (Nat.le_of_ble_eq_true rfl) (fun E cx hret => ?_)
  refine g_iconst cx 0 (by decide) e_X4_inches_0 ?_
  refine g_istore_n cx [(1, .int 0), (0, .ref (ad 43))] e_X4_inches_1 (by decide) rfl ?_
  refine g_iconst cx 0 (by decide) e_X4_inches_2 ?_
  refine g_istore_n cx [(2, .int 0), (1, .int 0), (0, .ref (ad 43))] e_X4_inches_3 (by decide) rfl ?_
  have J4 : ∀ (N : Nat) (y1 : Int32) (y2 : Int32), (jv (-2147483648) 2147483647 y1) → (jv 0 60 y2) → (2147483647 - y2.toInt).toNat < N → G X E 3 0 0 (wX X ad F R) [(0, .ref (ad 43)), (1, .int y1), (2, .int y2)] 4 [] := by
    intro N
    induction N with
    | zero => intro y1 y2 py1 py2 hm; exact absurd hm (Nat.not_lt_zero _)
    | succ N ih4 =>
      intro y1 y2 py1 py2 hm4
      refine g_iload_n cx 2 rfl e_X4_inches_4 ?_
      refine g_aload_n cx 0 rfl e_X4_inches_5 ?_
      refine g_get cx cl_X4 fl_X4_18 43 (.ref (ad 46)) e_X4_inches_6 rfl rfl ?_
      refine g_alen cx 46 30 e_X4_inches_9 rfl (by decide) ?_
      refine g_icmp_ge cx 28 e_X4_inches_10 (by decide) (fun zc3 => ?_) (fun zc3 => ?_)
      · have p4 := gn_ge 30 60 (gc_le zc3) py2 (jv_k (x := 30) 30 (by decide)) (by decide)
        refine g_iload_n cx 1 rfl e_X4_inches_28 ?_
        exact hret e_X4_inches_29 (Nat.le_of_ble_eq_true rfl) (Nat.le_of_ble_eq_true rfl) rfl ⟨rfl, py1⟩
      · have p5 := gn_lt 0 29 (gc_nle zc3) py2 (jv_k (x := 30) 30 (by decide)) (by decide)
        refine g_iload_n cx 1 rfl e_X4_inches_13 ?_
        refine g_aload_n cx 0 rfl e_X4_inches_14 ?_
        refine g_get cx cl_X4 fl_X4_18 43 (.ref (ad 46)) e_X4_inches_15 rfl rfl ?_
        refine g_iload_n cx 2 rfl e_X4_inches_18 ?_
        refine g_iald cx 46 e_X4_inches_19 rfl (jv_ix 30 p5 (by decide)) ?_
        refine g_topi (fun x6 ex6 => ?_)
        refine g_iadd cx e_X4_inches_20 ?_
        refine g_topi (fun x7 ex7 => ?_)
        refine g_istore_n cx [(1, .int x7), (0, .ref (ad 43)), (2, .int y2)] e_X4_inches_21 (by decide) rfl ?_
        obtain ⟨x8, ex8⟩ : ∃ z : Int32, z = y2 + Int32.ofInt 1 := ⟨_, rfl⟩
        refine g_iinc cx x8 [(2, .int x8), (1, .int x7), (0, .ref (ad 43))] 2 e_X4_inches_22 rfl ex8.symm (by decide) rfl ?_
        have zx8 := jv_add 1 30 (show x8 = y2 + 1 from ex8) p5 (jv_k (x := 1) 1 (by decide)) (by decide)
        refine g_goto cx 4 e_X4_inches_25 (by decide) ?_
        refine g_lsub [2, 1, 0] [(0, .ref (ad 43)), (1, .int x7), (2, .int x8)] rfl ?_
        exact ih4 x7 x8 (jv_t x7) (jv_w zx8.2 (by decide)) (Nat.lt_of_lt_of_le (show (2147483647 - x8.toInt).toNat < (2147483647 - y2.toInt).toNat from by have q0 := (jv_k (x := 1) 1 (by decide)).1; have q1 := (jv_k (x := 1) 1 (by decide)).2; have q2 := (jv_k (x := 30) 30 (by decide)).1; have q3 := (jv_k (x := 30) 30 (by decide)).2; have q4 := zx8.2.1; have q5 := zx8.2.2; have q6 := p5.1; have q7 := p5.2; have q8 := (gc_nle zc3); have q9 := (g_eq0 zx8.1); omega) (Nat.le_of_lt_succ hm4))
  refine g_lsub [2, 1, 0] [(0, .ref (ad 43)), (1, .int 0), (2, .int 0)] rfl ?_
  exact J4 _ 0 0 (jv_w (jv_k (x := 0) 0 (by decide)) (by decide)) (jv_w (jv_k (x := 0) 0 (by decide)) (by decide)) (Nat.lt_succ_self _)
theorem e_X4_isOver_0 : g_dc cX4_isOver 0 (.aload_n 0) 1 1 := ⟨by decide +kernel, rfl⟩
theorem e_X4_isOver_1 : g_dc cX4_isOver 1 (.getfield 28) 3 4 := ⟨by decide +kernel, rfl⟩
theorem e_X4_isOver_4 : g_dc cX4_isOver 4 (.iconst 1) 1 5 := ⟨by decide +kernel, rfl⟩
theorem e_X4_isOver_5 : g_dc cX4_isOver 5 (.iload_n 1) 1 6 := ⟨by decide +kernel, rfl⟩
theorem e_X4_isOver_6 : g_dc cX4_isOver 6 (.ishl) 1 7 := ⟨by decide +kernel, rfl⟩
theorem e_X4_isOver_7 : g_dc cX4_isOver 7 (.iand) 1 8 := ⟨by decide +kernel, rfl⟩
theorem e_X4_isOver_8 : g_dc cX4_isOver 8 (.ifCond .eq 7) 3 11 := ⟨by decide +kernel, rfl⟩
theorem e_X4_isOver_11 : g_dc cX4_isOver 11 (.iconst 1) 1 12 := ⟨by decide +kernel, rfl⟩
theorem e_X4_isOver_12 : g_dc cX4_isOver 12 (.goto 4) 3 15 := ⟨by decide +kernel, rfl⟩
theorem e_X4_isOver_15 : g_dc cX4_isOver 15 (.iconst 0) 1 16 := ⟨by decide +kernel, rfl⟩
theorem e_X4_isOver_16 : g_dc cX4_isOver 16 (.ireturn) 1 17 := ⟨by decide +kernel, rfl⟩
set_option maxHeartbeats 4000000 in
set_option maxRecDepth 100000 in
theorem w_X4_isOver (l : Launch) (X : gX) (ad : Nat → Nat) (F : Nat → Int32) (R : Nat → Nat → Int32) (hI : g_ok LK_wX F) (hA : g_okR LA_wX R) (a0 : Int32) : g_Ci l X yX4_isOver cX4_isOver 2 (some .boolean) 1 0 0 [.ref (ad 43), .int a0] (wX X ad F R) (fun r w => w = wX X ad F R ∧ jv 0 1 r) := by
  refine g_mi (by decide +kernel) (Nat.le_of_ble_eq_true rfl) (fun E cx hret => ?_)
  refine g_aload_n cx 0 rfl e_X4_isOver_0 ?_
  refine g_get cx cl_X4 fl_X4_28 43 (.int (F 693)) e_X4_isOver_1 rfl rfl ?_
  refine g_iconst cx 1 (by decide) e_X4_isOver_4 ?_
  refine g_iload_n cx 1 rfl e_X4_isOver_5 ?_
  refine g_ishl cx e_X4_isOver_6 ?_
  refine g_topi (fun x1 ex1 => ?_)
  refine g_iand cx e_X4_isOver_7 ?_
  refine g_topi (fun x2 ex2 => ?_)
  have J16 : ∀ (y3 : Int32), (jv 0 1 y3) → G X E 2 0 0 (wX X ad F R) [] 16 [.int y3] := by
    intro y3 py3
    exact hret e_X4_isOver_16 (Nat.le_of_ble_eq_true rfl) (Nat.le_of_ble_eq_true rfl) (g_narb py3) ⟨rfl, py3⟩
  refine g_if_eq cx 15 e_X4_isOver_8 (by decide) (fun zc4 => ?_) (fun zc4 => ?_)
  · have p5 := gn_eq 0 0 (gc_eq zc4) (jv_t x2) (jv_k (x := 0) 0 (by decide)) (by decide)
    refine g_iconst cx 0 (by decide) e_X4_isOver_15 ?_
    refine g_lsub [] [] rfl ?_
    exact J16 0 (jv_w (jv_k (x := 0) 0 (by decide)) (by decide))
  · refine g_iconst cx 1 (by decide) e_X4_isOver_11 ?_
    refine g_goto cx 16 e_X4_isOver_12 (by decide) ?_
    refine g_lsub [] [] rfl ?_
    exact J16 1 (jv_w (jv_k (x := 1) 1 (by decide)) (by decide))
theorem e_X4_tellThing_0 : g_dc cX4_tellThing 0 (.iload_n 1) 1 1 := ⟨by decide +kernel, rfl⟩
theorem e_X4_tellThing_1 : g_dc cX4_tellThing 1 (.iconst 0) 1 2 := ⟨by decide +kernel, rfl⟩
theorem e_X4_tellThing_2 : g_dc cX4_tellThing 2 (.bipush 9) 2 4 := ⟨by decide +kernel, rfl⟩
theorem e_X4_tellThing_4 : g_dc cX4_tellThing 4 (.invokestatic 54) 3 7 := ⟨by decide +kernel, rfl⟩
theorem e_X4_tellThing_7 : g_dc cX4_tellThing 7 (.ifCond .eq 14) 3 10 := ⟨by decide +kernel, rfl⟩
theorem e_X4_tellThing_10 : g_dc cX4_tellThing 10 (.aload_n 0) 1 11 := ⟨by decide +kernel, rfl⟩
theorem e_X4_tellThing_11 : g_dc cX4_tellThing 11 (.getfield 21) 3 14 := ⟨by decide +kernel, rfl⟩
theorem e_X4_tellThing_14 : g_dc cX4_tellThing 14 (.iconst 1) 1 15 := ⟨by decide +kernel, rfl⟩
theorem e_X4_tellThing_15 : g_dc cX4_tellThing 15 (.iload_n 1) 1 16 := ⟨by decide +kernel, rfl⟩
theorem e_X4_tellThing_16 : g_dc cX4_tellThing 16 (.ishl) 1 17 := ⟨by decide +kernel, rfl⟩
theorem e_X4_tellThing_17 : g_dc cX4_tellThing 17 (.iand) 1 18 := ⟨by decide +kernel, rfl⟩
theorem e_X4_tellThing_18 : g_dc cX4_tellThing 18 (.ifCond .ne 5) 3 21 := ⟨by decide +kernel, rfl⟩
theorem e_X4_tellThing_21 : g_dc cX4_tellThing 21 (.iconst (-1)) 1 22 := ⟨by decide +kernel, rfl⟩
theorem e_X4_tellThing_22 : g_dc cX4_tellThing 22 (.ireturn) 1 23 := ⟨by decide +kernel, rfl⟩
theorem e_X4_tellThing_23 : g_dc cX4_tellThing 23 (.iload_n 2) 1 24 := ⟨by decide +kernel, rfl⟩
theorem e_X4_tellThing_24 : g_dc cX4_tellThing 24 (.tableswitch 109 1 5 #[36, 55, 82, 89, 99]) 36 60 := ⟨by decide +kernel, rfl⟩
theorem e_X4_tellThing_60 : g_dc cX4_tellThing 60 (.aload_n 0) 1 61 := ⟨by decide +kernel, rfl⟩
theorem e_X4_tellThing_61 : g_dc cX4_tellThing 61 (.iload_n 1) 1 62 := ⟨by decide +kernel, rfl⟩
theorem e_X4_tellThing_62 : g_dc cX4_tellThing 62 (.invokevirtual 77) 3 65 := ⟨by decide +kernel, rfl⟩
theorem e_X4_tellThing_65 : g_dc cX4_tellThing 65 (.ifCond .eq 7) 3 68 := ⟨by decide +kernel, rfl⟩
theorem e_X4_tellThing_68 : g_dc cX4_tellThing 68 (.iconst (-1)) 1 69 := ⟨by decide +kernel, rfl⟩
theorem e_X4_tellThing_69 : g_dc cX4_tellThing 69 (.goto 9) 3 72 := ⟨by decide +kernel, rfl⟩
theorem e_X4_tellThing_72 : g_dc cX4_tellThing 72 (.aload_n 0) 1 73 := ⟨by decide +kernel, rfl⟩
theorem e_X4_tellThing_73 : g_dc cX4_tellThing 73 (.getfield 9) 3 76 := ⟨by decide +kernel, rfl⟩
theorem e_X4_tellThing_76 : g_dc cX4_tellThing 76 (.iload_n 1) 1 77 := ⟨by decide +kernel, rfl⟩
theorem e_X4_tellThing_77 : g_dc cX4_tellThing 77 (.iaload) 1 78 := ⟨by decide +kernel, rfl⟩
theorem e_X4_tellThing_78 : g_dc cX4_tellThing 78 (.ireturn) 1 79 := ⟨by decide +kernel, rfl⟩
theorem e_X4_tellThing_79 : g_dc cX4_tellThing 79 (.aload_n 0) 1 80 := ⟨by decide +kernel, rfl⟩
theorem e_X4_tellThing_80 : g_dc cX4_tellThing 80 (.getfield 18) 3 83 := ⟨by decide +kernel, rfl⟩
theorem e_X4_tellThing_83 : g_dc cX4_tellThing 83 (.iload_n 1) 1 84 := ⟨by decide +kernel, rfl⟩
theorem e_X4_tellThing_84 : g_dc cX4_tellThing 84 (.iaload) 1 85 := ⟨by decide +kernel, rfl⟩
theorem e_X4_tellThing_85 : g_dc cX4_tellThing 85 (.aload_n 0) 1 86 := ⟨by decide +kernel, rfl⟩
theorem e_X4_tellThing_86 : g_dc cX4_tellThing 86 (.getfield 18) 3 89 := ⟨by decide +kernel, rfl⟩
theorem e_X4_tellThing_89 : g_dc cX4_tellThing 89 (.bipush 10) 2 91 := ⟨by decide +kernel, rfl⟩
theorem e_X4_tellThing_91 : g_dc cX4_tellThing 91 (.iload_n 1) 1 92 := ⟨by decide +kernel, rfl⟩
theorem e_X4_tellThing_92 : g_dc cX4_tellThing 92 (.iadd) 1 93 := ⟨by decide +kernel, rfl⟩
theorem e_X4_tellThing_93 : g_dc cX4_tellThing 93 (.iaload) 1 94 := ⟨by decide +kernel, rfl⟩
theorem e_X4_tellThing_94 : g_dc cX4_tellThing 94 (.iadd) 1 95 := ⟨by decide +kernel, rfl⟩
theorem e_X4_tellThing_95 : g_dc cX4_tellThing 95 (.aload_n 0) 1 96 := ⟨by decide +kernel, rfl⟩
theorem e_X4_tellThing_96 : g_dc cX4_tellThing 96 (.getfield 18) 3 99 := ⟨by decide +kernel, rfl⟩
theorem e_X4_tellThing_99 : g_dc cX4_tellThing 99 (.bipush 20) 2 101 := ⟨by decide +kernel, rfl⟩
theorem e_X4_tellThing_101 : g_dc cX4_tellThing 101 (.iload_n 1) 1 102 := ⟨by decide +kernel, rfl⟩
theorem e_X4_tellThing_102 : g_dc cX4_tellThing 102 (.iadd) 1 103 := ⟨by decide +kernel, rfl⟩
theorem e_X4_tellThing_103 : g_dc cX4_tellThing 103 (.iaload) 1 104 := ⟨by decide +kernel, rfl⟩
theorem e_X4_tellThing_104 : g_dc cX4_tellThing 104 (.iadd) 1 105 := ⟨by decide +kernel, rfl⟩
theorem e_X4_tellThing_105 : g_dc cX4_tellThing 105 (.ireturn) 1 106 := ⟨by decide +kernel, rfl⟩
theorem e_X4_tellThing_106 : g_dc cX4_tellThing 106 (.aload_n 0) 1 107 := ⟨by decide +kernel, rfl⟩
theorem e_X4_tellThing_107 : g_dc cX4_tellThing 107 (.getfield 18) 3 110 := ⟨by decide +kernel, rfl⟩
theorem e_X4_tellThing_110 : g_dc cX4_tellThing 110 (.iload_n 1) 1 111 := ⟨by decide +kernel, rfl⟩
theorem e_X4_tellThing_111 : g_dc cX4_tellThing 111 (.iaload) 1 112 := ⟨by decide +kernel, rfl⟩
theorem e_X4_tellThing_112 : g_dc cX4_tellThing 112 (.ireturn) 1 113 := ⟨by decide +kernel, rfl⟩
theorem e_X4_tellThing_113 : g_dc cX4_tellThing 113 (.aload_n 0) 1 114 := ⟨by decide +kernel, rfl⟩
theorem e_X4_tellThing_114 : g_dc cX4_tellThing 114 (.getfield 18) 3 117 := ⟨by decide +kernel, rfl⟩
theorem e_X4_tellThing_117 : g_dc cX4_tellThing 117 (.bipush 10) 2 119 := ⟨by decide +kernel, rfl⟩
theorem e_X4_tellThing_119 : g_dc cX4_tellThing 119 (.iload_n 1) 1 120 := ⟨by decide +kernel, rfl⟩
theorem e_X4_tellThing_120 : g_dc cX4_tellThing 120 (.iadd) 1 121 := ⟨by decide +kernel, rfl⟩
theorem e_X4_tellThing_121 : g_dc cX4_tellThing 121 (.iaload) 1 122 := ⟨by decide +kernel, rfl⟩
theorem e_X4_tellThing_122 : g_dc cX4_tellThing 122 (.ireturn) 1 123 := ⟨by decide +kernel, rfl⟩
theorem e_X4_tellThing_123 : g_dc cX4_tellThing 123 (.aload_n 0) 1 124 := ⟨by decide +kernel, rfl⟩
theorem e_X4_tellThing_124 : g_dc cX4_tellThing 124 (.getfield 18) 3 127 := ⟨by decide +kernel, rfl⟩
theorem e_X4_tellThing_127 : g_dc cX4_tellThing 127 (.bipush 20) 2 129 := ⟨by decide +kernel, rfl⟩
theorem e_X4_tellThing_129 : g_dc cX4_tellThing 129 (.iload_n 1) 1 130 := ⟨by decide +kernel, rfl⟩
theorem e_X4_tellThing_130 : g_dc cX4_tellThing 130 (.iadd) 1 131 := ⟨by decide +kernel, rfl⟩
theorem e_X4_tellThing_131 : g_dc cX4_tellThing 131 (.iaload) 1 132 := ⟨by decide +kernel, rfl⟩
theorem e_X4_tellThing_132 : g_dc cX4_tellThing 132 (.ireturn) 1 133 := ⟨by decide +kernel, rfl⟩
theorem e_X4_tellThing_133 : g_dc cX4_tellThing 133 (.aload_n 0) 1 134 := ⟨by decide +kernel, rfl⟩
theorem e_X4_tellThing_134 : g_dc cX4_tellThing 134 (.getfield 15) 3 137 := ⟨by decide +kernel, rfl⟩
theorem e_X4_tellThing_137 : g_dc cX4_tellThing 137 (.iload_n 1) 1 138 := ⟨by decide +kernel, rfl⟩
theorem e_X4_tellThing_138 : g_dc cX4_tellThing 138 (.iaload) 1 139 := ⟨by decide +kernel, rfl⟩
theorem e_X4_tellThing_139 : g_dc cX4_tellThing 139 (.ireturn) 1 140 := ⟨by decide +kernel, rfl⟩
set_option maxHeartbeats 4000000 in
set_option maxRecDepth 100000 in
theorem w_X4_tellThing (l : Launch) (X : gX) (ad : Nat → Nat) (F : Nat → Int32) (R : Nat → Nat → Int32) (hI : g_ok LK_wX F) (hA : g_okR LA_wX R) (a0 : Int32) (a1 : Int32) : g_Ci l X yX4_tellThing cX4_tellThing 3 (some .int) 2 0 0 [.ref (ad 43), .int a0, .int a1] (wX X ad F R) (fun r w => w = wX X ad F R ∧ jv (-2147483648) 2147483647 r) := by
  refine g_mi (by decide +kernel) (Nat.le_of_ble_eq_true rfl) (fun E cx hret => ?_)
  refine g_iload_n cx 1 rfl e_X4_tellThing_0 ?_
  refine g_iconst cx 0 (by decide) e_X4_tellThing_1 ?_
  refine g_bipush cx 9 (by decide) e_X4_tellThing_2 ?_
  refine g_cNiW cx [.int a0, .int 0, .int 9] [] (c_X10_within l X (wX X ad F R) a0 0 9) mn_X4_54 yS_X10_within e_X4_tellThing_4 (by unfold g_rr; decide) (by decide) rfl (Nat.le_of_ble_eq_true rfl) (fun r1 w2 h3 => ?_)
  obtain ⟨rfl, hr1⟩ := h3
  have pr1 : jv 0 1 r1 := by rw [hr1]; exact gi_01 _ _ _
  have J21 : G X E 3 0 0 (wX X ad F R) [] 21 [] := by
    refine g_iconst cx (-1) (by decide) e_X4_tellThing_21 ?_
    exact hret e_X4_tellThing_22 (Nat.le_of_ble_eq_true rfl) (Nat.le_of_ble_eq_true rfl) rfl ⟨rfl, (jv_w (jv_k (x := (-1)) (-1) (by decide)) (by decide))⟩
  refine g_if_eq cx 21 e_X4_tellThing_7 (by decide) (fun zc4 => ?_) (fun zc4 => ?_)
  · have p5 := gn_eq 0 0 (gc_eq zc4) pr1 (jv_k (x := 0) 0 (by decide)) (by decide)
    refine g_lsub [] [] rfl ?_
    exact J21  
  · have p6 := gn_neL 1 1 (gc_ne zc4) pr1 (jv_k (x := 0) 0 (by decide)) (by decide)
    have p7 := jv_i 0 9 (jv_t a0) (gi_in (A := 0) (B := 9) hr1 zc4 (by decide) (by decide)) (by decide)
    refine g_aload_n cx 0 rfl e_X4_tellThing_10 ?_
    refine g_get cx cl_X4 fl_X4_21 43 (.int (F 691)) e_X4_tellThing_11 rfl rfl ?_
    refine g_iconst cx 1 (by decide) e_X4_tellThing_14 ?_
    refine g_iload_n cx 1 rfl e_X4_tellThing_15 ?_
    refine g_ishl cx e_X4_tellThing_16 ?_
    refine g_topi (fun x8 ex8 => ?_)
    refine g_iand cx e_X4_tellThing_17 ?_
    refine g_topi (fun x9 ex9 => ?_)
    refine g_if_ne cx 23 e_X4_tellThing_18 (by decide) (fun zc10 => ?_) (fun zc10 => ?_)
    · refine g_iload_n cx 2 rfl e_X4_tellThing_23 ?_
      refine g_topi (fun zy11 ezy11 => ?_)
      rcases g_sw 1 5 zy11 with ⟨zw12n, zw12h, zw12e⟩ | zw12
      · have zw12d : zw12n = 0 ∨ zw12n = 1 ∨ zw12n = 2 ∨ zw12n = 3 ∨ zw12n = 4 := by omega
        rcases zw12d with rfl | rfl | rfl | rfl | rfl
        · refine g_tableIn cx 60 e_X4_tellThing_24 (by rw [zw12e]; decide) (by rw [zw12e]; decide) (by rw [zw12e]; rfl) (by decide) ?_
          have p13 : jv 1 1 a1 := by rw [← ezy11]; exact jv_k 1 (by rw [zw12e]; rfl)
          refine g_aload_n cx 0 rfl e_X4_tellThing_60 ?_
          refine g_iload_n cx 1 rfl e_X4_tellThing_61 ?_
          refine g_cViW cx [.int a0] [] (w_X4_isOver l X ad F R hI hA a0) ml_X4_77 yV_X4_isOver e_X4_tellThing_62 (by unfold g_rr; decide) (by decide) 43 rfl rfl rfl (Nat.le_of_ble_eq_true rfl) (fun r14 w15 h16 => ?_)
          obtain ⟨rfl, pr14⟩ := h16
          have J78 : ∀ (y17 : Int32), (jv (-2147483648) 2147483647 y17) → G X E 3 0 0 (wX X ad F R) [] 78 [.int y17] := by
            intro y17 py17
            exact hret e_X4_tellThing_78 (Nat.le_of_ble_eq_true rfl) (Nat.le_of_ble_eq_true rfl) rfl ⟨rfl, py17⟩
          refine g_if_eq cx 72 e_X4_tellThing_65 (by decide) (fun zc18 => ?_) (fun zc18 => ?_)
          · have p19 := gn_eq 0 0 (gc_eq zc18) pr14 (jv_k (x := 0) 0 (by decide)) (by decide)
            refine g_aload_n cx 0 rfl e_X4_tellThing_72 ?_
            refine g_get cx cl_X4 fl_X4_9 43 (.ref (ad 44)) e_X4_tellThing_73 rfl rfl ?_
            refine g_iload_n cx 1 rfl e_X4_tellThing_76 ?_
            refine g_iald cx 44 e_X4_tellThing_77 rfl (jv_ix 10 p7 (by decide)) ?_
            refine g_topi (fun x20 ex20 => ?_)
            refine g_lsub [] [] rfl ?_
            exact J78 x20 (jv_t x20)
          · have p21 := gn_neL 1 1 (gc_ne zc18) pr14 (jv_k (x := 0) 0 (by decide)) (by decide)
            refine g_iconst cx (-1) (by decide) e_X4_tellThing_68 ?_
            refine g_goto cx 78 e_X4_tellThing_69 (by decide) ?_
            refine g_lsub [] [] rfl ?_
            exact J78 (-1) (jv_w (jv_k (x := (-1)) (-1) (by decide)) (by decide))
        · refine g_tableIn cx 79 e_X4_tellThing_24 (by rw [zw12e]; decide) (by rw [zw12e]; decide) (by rw [zw12e]; rfl) (by decide) ?_
          have p22 : jv 2 2 a1 := by rw [← ezy11]; exact jv_k 2 (by rw [zw12e]; rfl)
          refine g_aload_n cx 0 rfl e_X4_tellThing_79 ?_
          refine g_get cx cl_X4 fl_X4_18 43 (.ref (ad 46)) e_X4_tellThing_80 rfl rfl ?_
          refine g_iload_n cx 1 rfl e_X4_tellThing_83 ?_
          refine g_iald cx 46 e_X4_tellThing_84 rfl (jv_ix 30 p7 (by decide)) ?_
          refine g_topi (fun x23 ex23 => ?_)
          refine g_aload_n cx 0 rfl e_X4_tellThing_85 ?_
          refine g_get cx cl_X4 fl_X4_18 43 (.ref (ad 46)) e_X4_tellThing_86 rfl rfl ?_
          refine g_bipush cx 10 (by decide) e_X4_tellThing_89 ?_
          refine g_iload_n cx 1 rfl e_X4_tellThing_91 ?_
          refine g_iadd cx e_X4_tellThing_92 ?_
          refine g_topi (fun x24 ex24 => ?_)
          have zx24 := jv_add 10 19 ex24 (jv_k (x := 10) 10 (by decide)) p7 (by decide)
          refine g_iald cx 46 e_X4_tellThing_93 rfl (jv_ix 30 zx24.2 (by decide)) ?_
          refine g_topi (fun x25 ex25 => ?_)
          refine g_iadd cx e_X4_tellThing_94 ?_
          refine g_topi (fun x26 ex26 => ?_)
          refine g_aload_n cx 0 rfl e_X4_tellThing_95 ?_
          refine g_get cx cl_X4 fl_X4_18 43 (.ref (ad 46)) e_X4_tellThing_96 rfl rfl ?_
          refine g_bipush cx 20 (by decide) e_X4_tellThing_99 ?_
          refine g_iload_n cx 1 rfl e_X4_tellThing_101 ?_
          refine g_iadd cx e_X4_tellThing_102 ?_
          refine g_topi (fun x27 ex27 => ?_)
          have zx27 := jv_add 20 29 ex27 (jv_k (x := 20) 20 (by decide)) p7 (by decide)
          refine g_iald cx 46 e_X4_tellThing_103 rfl (jv_ix 30 zx27.2 (by decide)) ?_
          refine g_topi (fun x28 ex28 => ?_)
          refine g_iadd cx e_X4_tellThing_104 ?_
          refine g_topi (fun x29 ex29 => ?_)
          exact hret e_X4_tellThing_105 (Nat.le_of_ble_eq_true rfl) (Nat.le_of_ble_eq_true rfl) rfl ⟨rfl, (jv_t x29)⟩
        · refine g_tableIn cx 106 e_X4_tellThing_24 (by rw [zw12e]; decide) (by rw [zw12e]; decide) (by rw [zw12e]; rfl) (by decide) ?_
          have p30 : jv 3 3 a1 := by rw [← ezy11]; exact jv_k 3 (by rw [zw12e]; rfl)
          refine g_aload_n cx 0 rfl e_X4_tellThing_106 ?_
          refine g_get cx cl_X4 fl_X4_18 43 (.ref (ad 46)) e_X4_tellThing_107 rfl rfl ?_
          refine g_iload_n cx 1 rfl e_X4_tellThing_110 ?_
          refine g_iald cx 46 e_X4_tellThing_111 rfl (jv_ix 30 p7 (by decide)) ?_
          refine g_topi (fun x31 ex31 => ?_)
          exact hret e_X4_tellThing_112 (Nat.le_of_ble_eq_true rfl) (Nat.le_of_ble_eq_true rfl) rfl ⟨rfl, (jv_t x31)⟩
        · refine g_tableIn cx 113 e_X4_tellThing_24 (by rw [zw12e]; decide) (by rw [zw12e]; decide) (by rw [zw12e]; rfl) (by decide) ?_
          have p32 : jv 4 4 a1 := by rw [← ezy11]; exact jv_k 4 (by rw [zw12e]; rfl)
          refine g_aload_n cx 0 rfl e_X4_tellThing_113 ?_
          refine g_get cx cl_X4 fl_X4_18 43 (.ref (ad 46)) e_X4_tellThing_114 rfl rfl ?_
          refine g_bipush cx 10 (by decide) e_X4_tellThing_117 ?_
          refine g_iload_n cx 1 rfl e_X4_tellThing_119 ?_
          refine g_iadd cx e_X4_tellThing_120 ?_
          refine g_topi (fun x33 ex33 => ?_)
          have zx33 := jv_add 10 19 ex33 (jv_k (x := 10) 10 (by decide)) p7 (by decide)
          refine g_iald cx 46 e_X4_tellThing_121 rfl (jv_ix 30 zx33.2 (by decide)) ?_
          refine g_topi (fun x34 ex34 => ?_)
          exact hret e_X4_tellThing_122 (Nat.le_of_ble_eq_true rfl) (Nat.le_of_ble_eq_true rfl) rfl ⟨rfl, (jv_t x34)⟩
        · refine g_tableIn cx 123 e_X4_tellThing_24 (by rw [zw12e]; decide) (by rw [zw12e]; decide) (by rw [zw12e]; rfl) (by decide) ?_
          have p35 : jv 5 5 a1 := by rw [← ezy11]; exact jv_k 5 (by rw [zw12e]; rfl)
          refine g_aload_n cx 0 rfl e_X4_tellThing_123 ?_
          refine g_get cx cl_X4 fl_X4_18 43 (.ref (ad 46)) e_X4_tellThing_124 rfl rfl ?_
          refine g_bipush cx 20 (by decide) e_X4_tellThing_127 ?_
          refine g_iload_n cx 1 rfl e_X4_tellThing_129 ?_
          refine g_iadd cx e_X4_tellThing_130 ?_
          refine g_topi (fun x36 ex36 => ?_)
          have zx36 := jv_add 20 29 ex36 (jv_k (x := 20) 20 (by decide)) p7 (by decide)
          refine g_iald cx 46 e_X4_tellThing_131 rfl (jv_ix 30 zx36.2 (by decide)) ?_
          refine g_topi (fun x37 ex37 => ?_)
          exact hret e_X4_tellThing_132 (Nat.le_of_ble_eq_true rfl) (Nat.le_of_ble_eq_true rfl) rfl ⟨rfl, (jv_t x37)⟩
      · refine g_tableOut cx 133 e_X4_tellThing_24 zw12 (by decide) ?_
        refine g_aload_n cx 0 rfl e_X4_tellThing_133 ?_
        refine g_get cx cl_X4 fl_X4_15 43 (.ref (ad 45)) e_X4_tellThing_134 rfl rfl ?_
        refine g_iload_n cx 1 rfl e_X4_tellThing_137 ?_
        refine g_iald cx 45 e_X4_tellThing_138 rfl (jv_ix 10 p7 (by decide)) ?_
        refine g_topi (fun x38 ex38 => ?_)
        exact hret e_X4_tellThing_139 (Nat.le_of_ble_eq_true rfl) (Nat.le_of_ble_eq_true rfl) rfl ⟨rfl, (jv_t x38)⟩
    · have p39 := gn_eq 0 0 (gc_eq zc10) (jv_t x9) (jv_k (x := 0) 0 (by decide)) (by decide)
      refine g_lsub [] [] rfl ?_
      exact J21  
theorem e_X4_tell_0 : g_dc cX4_tell 0 (.iload_n 1) 1 1 := ⟨by decide +kernel, rfl⟩
theorem e_X4_tell_1 : g_dc cX4_tell 1 (.tableswitch 96 0 8 #[51, 56, 61, 66, 71, 76, 81, 86, 91]) 51 52 := ⟨by decide +kernel, rfl⟩
theorem e_X4_tell_52 : g_dc cX4_tell 52 (.aload_n 0) 1 53 := ⟨by decide +kernel, rfl⟩
theorem e_X4_tell_53 : g_dc cX4_tell 53 (.invokevirtual 68) 3 56 := ⟨by decide +kernel, rfl⟩
theorem e_X4_tell_56 : g_dc cX4_tell 56 (.ireturn) 1 57 := ⟨by decide +kernel, rfl⟩
theorem e_X4_tell_57 : g_dc cX4_tell 57 (.aload_n 0) 1 58 := ⟨by decide +kernel, rfl⟩
theorem e_X4_tell_58 : g_dc cX4_tell 58 (.invokevirtual 71) 3 61 := ⟨by decide +kernel, rfl⟩
theorem e_X4_tell_61 : g_dc cX4_tell 61 (.ireturn) 1 62 := ⟨by decide +kernel, rfl⟩
theorem e_X4_tell_62 : g_dc cX4_tell 62 (.aload_n 0) 1 63 := ⟨by decide +kernel, rfl⟩
theorem e_X4_tell_63 : g_dc cX4_tell 63 (.getfield 40) 3 66 := ⟨by decide +kernel, rfl⟩
theorem e_X4_tell_66 : g_dc cX4_tell 66 (.ireturn) 1 67 := ⟨by decide +kernel, rfl⟩
theorem e_X4_tell_67 : g_dc cX4_tell 67 (.aload_n 0) 1 68 := ⟨by decide +kernel, rfl⟩
theorem e_X4_tell_68 : g_dc cX4_tell 68 (.getfield 43) 3 71 := ⟨by decide +kernel, rfl⟩
theorem e_X4_tell_71 : g_dc cX4_tell 71 (.ireturn) 1 72 := ⟨by decide +kernel, rfl⟩
theorem e_X4_tell_72 : g_dc cX4_tell 72 (.aload_n 0) 1 73 := ⟨by decide +kernel, rfl⟩
theorem e_X4_tell_73 : g_dc cX4_tell 73 (.getfield 25) 3 76 := ⟨by decide +kernel, rfl⟩
theorem e_X4_tell_76 : g_dc cX4_tell 76 (.ireturn) 1 77 := ⟨by decide +kernel, rfl⟩
theorem e_X4_tell_77 : g_dc cX4_tell 77 (.aload_n 0) 1 78 := ⟨by decide +kernel, rfl⟩
theorem e_X4_tell_78 : g_dc cX4_tell 78 (.getfield 28) 3 81 := ⟨by decide +kernel, rfl⟩
theorem e_X4_tell_81 : g_dc cX4_tell 81 (.ireturn) 1 82 := ⟨by decide +kernel, rfl⟩
theorem e_X4_tell_82 : g_dc cX4_tell 82 (.aload_n 0) 1 83 := ⟨by decide +kernel, rfl⟩
theorem e_X4_tell_83 : g_dc cX4_tell 83 (.getfield 31) 3 86 := ⟨by decide +kernel, rfl⟩
theorem e_X4_tell_86 : g_dc cX4_tell 86 (.ireturn) 1 87 := ⟨by decide +kernel, rfl⟩
theorem e_X4_tell_87 : g_dc cX4_tell 87 (.aload_n 0) 1 88 := ⟨by decide +kernel, rfl⟩
theorem e_X4_tell_88 : g_dc cX4_tell 88 (.getfield 34) 3 91 := ⟨by decide +kernel, rfl⟩
theorem e_X4_tell_91 : g_dc cX4_tell 91 (.ireturn) 1 92 := ⟨by decide +kernel, rfl⟩
theorem e_X4_tell_92 : g_dc cX4_tell 92 (.aload_n 0) 1 93 := ⟨by decide +kernel, rfl⟩
theorem e_X4_tell_93 : g_dc cX4_tell 93 (.getfield 37) 3 96 := ⟨by decide +kernel, rfl⟩
theorem e_X4_tell_96 : g_dc cX4_tell 96 (.ireturn) 1 97 := ⟨by decide +kernel, rfl⟩
theorem e_X4_tell_97 : g_dc cX4_tell 97 (.iload_n 1) 1 98 := ⟨by decide +kernel, rfl⟩
theorem e_X4_tell_98 : g_dc cX4_tell 98 (.bipush 10) 2 100 := ⟨by decide +kernel, rfl⟩
theorem e_X4_tell_100 : g_dc cX4_tell 100 (.bipush 69) 2 102 := ⟨by decide +kernel, rfl⟩
theorem e_X4_tell_102 : g_dc cX4_tell 102 (.invokestatic 54) 3 105 := ⟨by decide +kernel, rfl⟩
theorem e_X4_tell_105 : g_dc cX4_tell 105 (.ifCond .eq 18) 3 108 := ⟨by decide +kernel, rfl⟩
theorem e_X4_tell_108 : g_dc cX4_tell 108 (.aload_n 0) 1 109 := ⟨by decide +kernel, rfl⟩
theorem e_X4_tell_109 : g_dc cX4_tell 109 (.iload_n 1) 1 110 := ⟨by decide +kernel, rfl⟩
theorem e_X4_tell_110 : g_dc cX4_tell 110 (.bipush 10) 2 112 := ⟨by decide +kernel, rfl⟩
theorem e_X4_tell_112 : g_dc cX4_tell 112 (.irem) 1 113 := ⟨by decide +kernel, rfl⟩
theorem e_X4_tell_113 : g_dc cX4_tell 113 (.iload_n 1) 1 114 := ⟨by decide +kernel, rfl⟩
theorem e_X4_tell_114 : g_dc cX4_tell 114 (.bipush 10) 2 116 := ⟨by decide +kernel, rfl⟩
theorem e_X4_tell_116 : g_dc cX4_tell 116 (.idiv) 1 117 := ⟨by decide +kernel, rfl⟩
theorem e_X4_tell_117 : g_dc cX4_tell 117 (.invokevirtual 74) 3 120 := ⟨by decide +kernel, rfl⟩
theorem e_X4_tell_120 : g_dc cX4_tell 120 (.goto 4) 3 123 := ⟨by decide +kernel, rfl⟩
theorem e_X4_tell_123 : g_dc cX4_tell 123 (.iconst (-1)) 1 124 := ⟨by decide +kernel, rfl⟩
theorem e_X4_tell_124 : g_dc cX4_tell 124 (.ireturn) 1 125 := ⟨by decide +kernel, rfl⟩
set_option maxHeartbeats 4000000 in
set_option maxRecDepth 100000 in
theorem w_X4_tell (l : Launch) (X : gX) (ad : Nat → Nat) (F : Nat → Int32) (R : Nat → Nat → Int32) (hI : g_ok LK_wX F) (hA : g_okR LA_wX R) (a0 : Int32) : g_Ci l X yX4_tell cX4_tell 2 (some .int) 3 0 0 [.ref (ad 43), .int a0] (wX X ad F R) (fun r w => w = wX X ad F R ∧ jv (-2147483648) 2147483647 r) := by
  refine g_mi (by decide +kernel) (Nat.le_of_ble_eq_true rfl) (fun E cx hret => ?_)
  refine g_iload_n cx 1 rfl e_X4_tell_0 ?_
  refine g_topi (fun zy1 ezy1 => ?_)
  rcases g_sw 0 8 zy1 with ⟨zw2n, zw2h, zw2e⟩ | zw2
  · have zw2d : zw2n = 0 ∨ zw2n = 1 ∨ zw2n = 2 ∨ zw2n = 3 ∨ zw2n = 4 ∨ zw2n = 5 ∨ zw2n = 6 ∨ zw2n = 7 ∨ zw2n = 8 := by omega
    rcases zw2d with rfl | rfl | rfl | rfl | rfl | rfl | rfl | rfl | rfl
    · refine g_tableIn cx 52 e_X4_tell_1 (by rw [zw2e]; decide) (by rw [zw2e]; decide) (by rw [zw2e]; rfl) (by decide) ?_
      have p3 : jv 0 0 a0 := by rw [← ezy1]; exact jv_k 0 (by rw [zw2e]; rfl)
      refine g_aload_n cx 0 rfl e_X4_tell_52 ?_
      refine g_cViW cx [] [] (w_X4_standing l X ad F R hI hA) ml_X4_68 yV_X4_standing e_X4_tell_53 (by unfold g_rr; decide) (by decide) 43 rfl rfl rfl (Nat.le_of_ble_eq_true rfl) (fun r4 w5 h6 => ?_)
      obtain ⟨rfl, pr4⟩ := h6
      exact hret e_X4_tell_56 (Nat.le_of_ble_eq_true rfl) (Nat.le_of_ble_eq_true rfl) rfl ⟨rfl, pr4⟩
    · refine g_tableIn cx 57 e_X4_tell_1 (by rw [zw2e]; decide) (by rw [zw2e]; decide) (by rw [zw2e]; rfl) (by decide) ?_
      have p7 : jv 1 1 a0 := by rw [← ezy1]; exact jv_k 1 (by rw [zw2e]; rfl)
      refine g_aload_n cx 0 rfl e_X4_tell_57 ?_
      refine g_cViW cx [] [] (w_X4_inches l X ad F R hI hA) ml_X4_71 yV_X4_inches e_X4_tell_58 (by unfold g_rr; decide) (by decide) 43 rfl rfl rfl (Nat.le_of_ble_eq_true rfl) (fun r8 w9 h10 => ?_)
      obtain ⟨rfl, pr8⟩ := h10
      exact hret e_X4_tell_61 (Nat.le_of_ble_eq_true rfl) (Nat.le_of_ble_eq_true rfl) rfl ⟨rfl, pr8⟩
    · refine g_tableIn cx 62 e_X4_tell_1 (by rw [zw2e]; decide) (by rw [zw2e]; decide) (by rw [zw2e]; rfl) (by decide) ?_
      have p11 : jv 2 2 a0 := by rw [← ezy1]; exact jv_k 2 (by rw [zw2e]; rfl)
      refine g_aload_n cx 0 rfl e_X4_tell_62 ?_
      refine g_get cx cl_X4 fl_X4_40 43 (.int (F 697)) e_X4_tell_63 rfl rfl ?_
      exact hret e_X4_tell_66 (Nat.le_of_ble_eq_true rfl) (Nat.le_of_ble_eq_true rfl) rfl ⟨rfl, (jv_t (F 697))⟩
    · refine g_tableIn cx 67 e_X4_tell_1 (by rw [zw2e]; decide) (by rw [zw2e]; decide) (by rw [zw2e]; rfl) (by decide) ?_
      have p12 : jv 3 3 a0 := by rw [← ezy1]; exact jv_k 3 (by rw [zw2e]; rfl)
      refine g_aload_n cx 0 rfl e_X4_tell_67 ?_
      refine g_get cx cl_X4 fl_X4_43 43 (.int (F 698)) e_X4_tell_68 rfl rfl ?_
      exact hret e_X4_tell_71 (Nat.le_of_ble_eq_true rfl) (Nat.le_of_ble_eq_true rfl) rfl ⟨rfl, (jv_t (F 698))⟩
    · refine g_tableIn cx 72 e_X4_tell_1 (by rw [zw2e]; decide) (by rw [zw2e]; decide) (by rw [zw2e]; rfl) (by decide) ?_
      have p13 : jv 4 4 a0 := by rw [← ezy1]; exact jv_k 4 (by rw [zw2e]; rfl)
      refine g_aload_n cx 0 rfl e_X4_tell_72 ?_
      refine g_get cx cl_X4 fl_X4_25 43 (.int (F 692)) e_X4_tell_73 rfl rfl ?_
      exact hret e_X4_tell_76 (Nat.le_of_ble_eq_true rfl) (Nat.le_of_ble_eq_true rfl) rfl ⟨rfl, (jv_t (F 692))⟩
    · refine g_tableIn cx 77 e_X4_tell_1 (by rw [zw2e]; decide) (by rw [zw2e]; decide) (by rw [zw2e]; rfl) (by decide) ?_
      have p14 : jv 5 5 a0 := by rw [← ezy1]; exact jv_k 5 (by rw [zw2e]; rfl)
      refine g_aload_n cx 0 rfl e_X4_tell_77 ?_
      refine g_get cx cl_X4 fl_X4_28 43 (.int (F 693)) e_X4_tell_78 rfl rfl ?_
      exact hret e_X4_tell_81 (Nat.le_of_ble_eq_true rfl) (Nat.le_of_ble_eq_true rfl) rfl ⟨rfl, (jv_t (F 693))⟩
    · refine g_tableIn cx 82 e_X4_tell_1 (by rw [zw2e]; decide) (by rw [zw2e]; decide) (by rw [zw2e]; rfl) (by decide) ?_
      have p15 : jv 6 6 a0 := by rw [← ezy1]; exact jv_k 6 (by rw [zw2e]; rfl)
      refine g_aload_n cx 0 rfl e_X4_tell_82 ?_
      refine g_get cx cl_X4 fl_X4_31 43 (.int (F 694)) e_X4_tell_83 rfl rfl ?_
      exact hret e_X4_tell_86 (Nat.le_of_ble_eq_true rfl) (Nat.le_of_ble_eq_true rfl) rfl ⟨rfl, (jv_t (F 694))⟩
    · refine g_tableIn cx 87 e_X4_tell_1 (by rw [zw2e]; decide) (by rw [zw2e]; decide) (by rw [zw2e]; rfl) (by decide) ?_
      have p16 : jv 7 7 a0 := by rw [← ezy1]; exact jv_k 7 (by rw [zw2e]; rfl)
      refine g_aload_n cx 0 rfl e_X4_tell_87 ?_
      refine g_get cx cl_X4 fl_X4_34 43 (.int (F 695)) e_X4_tell_88 rfl rfl ?_
      exact hret e_X4_tell_91 (Nat.le_of_ble_eq_true rfl) (Nat.le_of_ble_eq_true rfl) rfl ⟨rfl, (jv_t (F 695))⟩
    · refine g_tableIn cx 92 e_X4_tell_1 (by rw [zw2e]; decide) (by rw [zw2e]; decide) (by rw [zw2e]; rfl) (by decide) ?_
      have p17 : jv 8 8 a0 := by rw [← ezy1]; exact jv_k 8 (by rw [zw2e]; rfl)
      refine g_aload_n cx 0 rfl e_X4_tell_92 ?_
      refine g_get cx cl_X4 fl_X4_37 43 (.int (F 696)) e_X4_tell_93 rfl rfl ?_
      exact hret e_X4_tell_96 (Nat.le_of_ble_eq_true rfl) (Nat.le_of_ble_eq_true rfl) rfl ⟨rfl, (jv_t (F 696))⟩
  · refine g_tableOut cx 97 e_X4_tell_1 zw2 (by decide) ?_
    refine g_iload_n cx 1 rfl e_X4_tell_97 ?_
    refine g_bipush cx 10 (by decide) e_X4_tell_98 ?_
    refine g_bipush cx 69 (by decide) e_X4_tell_100 ?_
    refine g_cNiW cx [.int a0, .int 10, .int 69] [] (c_X10_within l X (wX X ad F R) a0 10 69) mn_X4_54 yS_X10_within e_X4_tell_102 (by unfold g_rr; decide) (by decide) rfl (Nat.le_of_ble_eq_true rfl) (fun r18 w19 h20 => ?_)
    obtain ⟨rfl, hr18⟩ := h20
    have pr18 : jv 0 1 r18 := by rw [hr18]; exact gi_01 _ _ _
    have J124 : ∀ (y21 : Int32), (jv (-2147483648) 2147483647 y21) → G X E 2 0 0 (wX X ad F R) [] 124 [.int y21] := by
      intro y21 py21
      exact hret e_X4_tell_124 (Nat.le_of_ble_eq_true rfl) (Nat.le_of_ble_eq_true rfl) rfl ⟨rfl, py21⟩
    refine g_if_eq cx 123 e_X4_tell_105 (by decide) (fun zc22 => ?_) (fun zc22 => ?_)
    · have p23 := gn_eq 0 0 (gc_eq zc22) pr18 (jv_k (x := 0) 0 (by decide)) (by decide)
      refine g_iconst cx (-1) (by decide) e_X4_tell_123 ?_
      refine g_lsub [] [] rfl ?_
      exact J124 (-1) (jv_w (jv_k (x := (-1)) (-1) (by decide)) (by decide))
    · have p24 := gn_neL 1 1 (gc_ne zc22) pr18 (jv_k (x := 0) 0 (by decide)) (by decide)
      have p25 := jv_i 10 69 (jv_t a0) (gi_in (A := 10) (B := 69) hr18 zc22 (by decide) (by decide)) (by decide)
      refine g_aload_n cx 0 rfl e_X4_tell_108 ?_
      refine g_iload_n cx 1 rfl e_X4_tell_109 ?_
      refine g_bipush cx 10 (by decide) e_X4_tell_110 ?_
      refine g_irem cx (by decide) e_X4_tell_112 ?_
      refine g_topi (fun x26 ex26 => ?_)
      have zx26 := jv_rem 0 9 ex26 p25 (jv_k (x := 10) 10 (by decide)) (by decide)
      refine g_iload_n cx 1 rfl e_X4_tell_113 ?_
      refine g_bipush cx 10 (by decide) e_X4_tell_114 ?_
      refine g_idiv cx (by decide) e_X4_tell_116 ?_
      refine g_topi (fun x27 ex27 => ?_)
      have zx27 := jv_div 0 6 ex27 p25 (jv_k (x := 10) 10 (by decide)) (by decide)
      refine g_cViW cx [.int x26, .int x27] [] (w_X4_tellThing l X ad F R hI hA x26 x27) ml_X4_74 yV_X4_tellThing e_X4_tell_117 (by unfold g_rr; decide) (by decide) 43 rfl rfl rfl (Nat.le_of_ble_eq_true rfl) (fun r28 w29 h30 => ?_)
      obtain ⟨rfl, pr28⟩ := h30
      refine g_goto cx 124 e_X4_tell_120 (by decide) ?_
      refine g_lsub [] [] rfl ?_
      exact J124 r28 pr28
theorem e_X4_isAsTold_0 : g_dc cX4_isAsTold 0 (.iconst 0) 1 1 := ⟨by decide +kernel, rfl⟩
theorem e_X4_isAsTold_1 : g_dc cX4_isAsTold 1 (.istore_n 2) 1 2 := ⟨by decide +kernel, rfl⟩
theorem e_X4_isAsTold_2 : g_dc cX4_isAsTold 2 (.iconst 0) 1 3 := ⟨by decide +kernel, rfl⟩
theorem e_X4_isAsTold_3 : g_dc cX4_isAsTold 3 (.istore_n 3) 1 4 := ⟨by decide +kernel, rfl⟩
theorem e_X4_isAsTold_4 : g_dc cX4_isAsTold 4 (.aload_n 1) 1 5 := ⟨by decide +kernel, rfl⟩
theorem e_X4_isAsTold_5 : g_dc cX4_isAsTold 5 (.ifnull 63) 3 8 := ⟨by decide +kernel, rfl⟩
theorem e_X4_isAsTold_8 : g_dc cX4_isAsTold 8 (.iload_n 3) 1 9 := ⟨by decide +kernel, rfl⟩
theorem e_X4_isAsTold_9 : g_dc cX4_isAsTold 9 (.bipush 10) 2 11 := ⟨by decide +kernel, rfl⟩
theorem e_X4_isAsTold_11 : g_dc cX4_isAsTold 11 (.if_icmp .ge 57) 3 14 := ⟨by decide +kernel, rfl⟩
theorem e_X4_isAsTold_14 : g_dc cX4_isAsTold 14 (.aload_n 0) 1 15 := ⟨by decide +kernel, rfl⟩
theorem e_X4_isAsTold_15 : g_dc cX4_isAsTold 15 (.getfield 21) 3 18 := ⟨by decide +kernel, rfl⟩
theorem e_X4_isAsTold_18 : g_dc cX4_isAsTold 18 (.iconst 1) 1 19 := ⟨by decide +kernel, rfl⟩
theorem e_X4_isAsTold_19 : g_dc cX4_isAsTold 19 (.iload_n 3) 1 20 := ⟨by decide +kernel, rfl⟩
theorem e_X4_isAsTold_20 : g_dc cX4_isAsTold 20 (.ishl) 1 21 := ⟨by decide +kernel, rfl⟩
theorem e_X4_isAsTold_21 : g_dc cX4_isAsTold 21 (.iand) 1 22 := ⟨by decide +kernel, rfl⟩
theorem e_X4_isAsTold_22 : g_dc cX4_isAsTold 22 (.ifCond .eq 40) 3 25 := ⟨by decide +kernel, rfl⟩
theorem e_X4_isAsTold_25 : g_dc cX4_isAsTold 25 (.aload_n 0) 1 26 := ⟨by decide +kernel, rfl⟩
theorem e_X4_isAsTold_26 : g_dc cX4_isAsTold 26 (.iload_n 3) 1 27 := ⟨by decide +kernel, rfl⟩
theorem e_X4_isAsTold_27 : g_dc cX4_isAsTold 27 (.invokevirtual 77) 3 30 := ⟨by decide +kernel, rfl⟩
theorem e_X4_isAsTold_30 : g_dc cX4_isAsTold 30 (.ifCond .eq 9) 3 33 := ⟨by decide +kernel, rfl⟩
theorem e_X4_isAsTold_33 : g_dc cX4_isAsTold 33 (.sipush 255) 3 36 := ⟨by decide +kernel, rfl⟩
theorem e_X4_isAsTold_36 : g_dc cX4_isAsTold 36 (.goto 9) 3 39 := ⟨by decide +kernel, rfl⟩
theorem e_X4_isAsTold_39 : g_dc cX4_isAsTold 39 (.aload_n 0) 1 40 := ⟨by decide +kernel, rfl⟩
theorem e_X4_isAsTold_40 : g_dc cX4_isAsTold 40 (.getfield 9) 3 43 := ⟨by decide +kernel, rfl⟩
theorem e_X4_isAsTold_43 : g_dc cX4_isAsTold 43 (.iload_n 3) 1 44 := ⟨by decide +kernel, rfl⟩
theorem e_X4_isAsTold_44 : g_dc cX4_isAsTold 44 (.iaload) 1 45 := ⟨by decide +kernel, rfl⟩
theorem e_X4_isAsTold_45 : g_dc cX4_isAsTold 45 (.istore 4) 2 47 := ⟨by decide +kernel, rfl⟩
theorem e_X4_isAsTold_47 : g_dc cX4_isAsTold 47 (.aload_n 1) 1 48 := ⟨by decide +kernel, rfl⟩
theorem e_X4_isAsTold_48 : g_dc cX4_isAsTold 48 (.iload_n 2) 1 49 := ⟨by decide +kernel, rfl⟩
theorem e_X4_isAsTold_49 : g_dc cX4_isAsTold 49 (.invokevirtual 81) 3 52 := ⟨by decide +kernel, rfl⟩
theorem e_X4_isAsTold_52 : g_dc cX4_isAsTold 52 (.iload 4) 2 54 := ⟨by decide +kernel, rfl⟩
theorem e_X4_isAsTold_54 : g_dc cX4_isAsTold 54 (.if_icmp .eq 5) 3 57 := ⟨by decide +kernel, rfl⟩
theorem e_X4_isAsTold_57 : g_dc cX4_isAsTold 57 (.iconst 0) 1 58 := ⟨by decide +kernel, rfl⟩
theorem e_X4_isAsTold_58 : g_dc cX4_isAsTold 58 (.ireturn) 1 59 := ⟨by decide +kernel, rfl⟩
theorem e_X4_isAsTold_59 : g_dc cX4_isAsTold 59 (.iinc 2 1) 3 62 := ⟨by decide +kernel, rfl⟩
theorem e_X4_isAsTold_62 : g_dc cX4_isAsTold 62 (.iinc 3 1) 3 65 := ⟨by decide +kernel, rfl⟩
theorem e_X4_isAsTold_65 : g_dc cX4_isAsTold 65 (.goto (-61)) 3 68 := ⟨by decide +kernel, rfl⟩
theorem e_X4_isAsTold_68 : g_dc cX4_isAsTold 68 (.iconst 1) 1 69 := ⟨by decide +kernel, rfl⟩
theorem e_X4_isAsTold_69 : g_dc cX4_isAsTold 69 (.ireturn) 1 70 := ⟨by decide +kernel, rfl⟩
set_option maxHeartbeats 4000000 in
set_option maxRecDepth 100000 in
theorem w_X4_isAsTold_r9 (l : Launch) (X : gX) (ad : Nat → Nat) (F : Nat → Int32) (R : Nat → Nat → Int32) (hI : g_ok LK_wX F) (hA : g_okR LA_wX R) : g_Ci l X yX4_isAsTold cX4_isAsTold 5 (some .boolean) 3 0 0 [.ref (ad 43), .ref (ad 9)] (wX X ad F R) (fun r w => w = wX X ad F R ∧ jv 0 1 r) := by
  refine g_mi (by decide +kernel) (Nat.le_of_ble_eq_true rfl) (fun E cx hret => ?_)
  refine g_iconst cx 0 (by decide) e_X4_isAsTold_0 ?_
  refine g_istore_n cx [(2, .int 0), (0, .ref (ad 43)), (1, .ref (ad 9))] e_X4_isAsTold_1 (by decide) rfl ?_
  refine g_iconst cx 0 (by decide) e_X4_isAsTold_2 ?_
  refine g_istore_n cx [(3, .int 0), (2, .int 0), (0, .ref (ad 43)), (1, .ref (ad 9))] e_X4_isAsTold_3 (by decide) rfl ?_
  have J4 : ∀ (N : Nat) (y1 : Int32) (y2 : Int32), (jv (-2147483648) 2147483647 y1) → (jv 0 10 y2) → (2147483647 - y2.toInt).toNat < N → G X E 5 0 0 (wX X ad F R) [(0, .ref (ad 43)), (1, .ref (ad 9)), (2, .int y1), (3, .int y2)] 4 [] := by
    intro N
    induction N with
    | zero => intro y1 y2 py1 py2 hm; exact absurd hm (Nat.not_lt_zero _)
    | succ N ih4 =>
      intro y1 y2 py1 py2 hm4
      refine g_aload_n cx 1 rfl e_X4_isAsTold_4 ?_
      refine g_ifnull cx e_X4_isAsTold_5 ?_
      refine g_iload_n cx 3 rfl e_X4_isAsTold_8 ?_
      refine g_bipush cx 10 (by decide) e_X4_isAsTold_9 ?_
      refine g_icmp_ge cx 68 e_X4_isAsTold_11 (by decide) (fun zc3 => ?_) (fun zc3 => ?_)
      · have p4 := gn_ge 10 10 (gc_le zc3) py2 (jv_k (x := 10) 10 (by decide)) (by decide)
        refine g_iconst cx 1 (by decide) e_X4_isAsTold_68 ?_
        exact hret e_X4_isAsTold_69 (Nat.le_of_ble_eq_true rfl) (Nat.le_of_ble_eq_true rfl) rfl ⟨rfl, (jv_w (jv_k (x := 1) 1 (by decide)) (by decide))⟩
      · have p5 := gn_lt 0 9 (gc_nle zc3) py2 (jv_k (x := 10) 10 (by decide)) (by decide)
        refine g_aload_n cx 0 rfl e_X4_isAsTold_14 ?_
        refine g_get cx cl_X4 fl_X4_21 43 (.int (F 691)) e_X4_isAsTold_15 rfl rfl ?_
        refine g_iconst cx 1 (by decide) e_X4_isAsTold_18 ?_
        refine g_iload_n cx 3 rfl e_X4_isAsTold_19 ?_
        refine g_ishl cx e_X4_isAsTold_20 ?_
        refine g_topi (fun x6 ex6 => ?_)
        refine g_iand cx e_X4_isAsTold_21 ?_
        refine g_topi (fun x7 ex7 => ?_)
        have J62 : ∀ (y8 : Int32), (jv (-2147483648) 2147483647 y8) → G X E 5 0 0 (wX X ad F R) [(0, .ref (ad 43)), (1, .ref (ad 9)), (2, .int y8), (3, .int y2)] 62 [] := by
          intro y8 py8
          obtain ⟨x9, ex9⟩ : ∃ z : Int32, z = y2 + Int32.ofInt 1 := ⟨_, rfl⟩
          refine g_iinc cx x9 [(3, .int x9), (0, .ref (ad 43)), (1, .ref (ad 9)), (2, .int y8)] 3 e_X4_isAsTold_62 rfl ex9.symm (by decide) rfl ?_
          have zx9 := jv_add 1 10 (show x9 = y2 + 1 from ex9) p5 (jv_k (x := 1) 1 (by decide)) (by decide)
          refine g_goto cx 4 e_X4_isAsTold_65 (by decide) ?_
          refine g_lsub [1, 2, 3, 0] [(0, .ref (ad 43)), (1, .ref (ad 9)), (2, .int y8), (3, .int x9)] rfl ?_
          exact ih4 y8 x9 py8 (jv_w zx9.2 (by decide)) (Nat.lt_of_lt_of_le (show (2147483647 - x9.toInt).toNat < (2147483647 - y2.toInt).toNat from by have q0 := (jv_k (x := 1) 1 (by decide)).1; have q1 := (jv_k (x := 1) 1 (by decide)).2; have q2 := (jv_k (x := 10) 10 (by decide)).1; have q3 := (jv_k (x := 10) 10 (by decide)).2; have q4 := zx9.2.1; have q5 := zx9.2.2; have q6 := p5.1; have q7 := p5.2; have q8 := (gc_nle zc3); have q9 := (g_eq0 zx9.1); omega) (Nat.le_of_lt_succ hm4))
        refine g_if_eq cx 62 e_X4_isAsTold_22 (by decide) (fun zc10 => ?_) (fun zc10 => ?_)
        · have p11 := gn_eq 0 0 (gc_eq zc10) (jv_t x7) (jv_k (x := 0) 0 (by decide)) (by decide)
          exact J62 y1 py1
        · refine g_aload_n cx 0 rfl e_X4_isAsTold_25 ?_
          refine g_iload_n cx 3 rfl e_X4_isAsTold_26 ?_
          refine g_cViW cx [.int y2] [] (w_X4_isOver l X ad F R hI hA y2) ml_X4_77 yV_X4_isOver e_X4_isAsTold_27 (by unfold g_rr; decide) (by decide) 43 rfl rfl rfl (Nat.le_of_ble_eq_true rfl) (fun r12 w13 h14 => ?_)
          obtain ⟨rfl, pr12⟩ := h14
          have J45 : ∀ (y15 : Int32), (jv (-2147483648) 2147483647 y15) → G X E 5 0 0 (wX X ad F R) [(0, .ref (ad 43)), (1, .ref (ad 9)), (2, .int y1), (3, .int y2)] 45 [.int y15] := by
            intro y15 py15
            refine g_istore cx [(4, .int y15), (0, .ref (ad 43)), (1, .ref (ad 9)), (2, .int y1), (3, .int y2)] e_X4_isAsTold_45 (by decide) rfl ?_
            refine g_aload_n cx 2 rfl e_X4_isAsTold_47 ?_
            refine g_iload_n cx 3 rfl e_X4_isAsTold_48 ?_
            refine g_cViW cx [.int y1] [] (w_X9_at l X ad F R hI hA y1) ml_X4_81 yV_X9_at e_X4_isAsTold_49 (by unfold g_rr; decide) (by decide) 9 rfl rfl rfl (Nat.le_of_ble_eq_true rfl) (fun r16 w17 h18 => ?_)
            obtain ⟨rfl, pr16⟩ := h18
            refine g_iload cx 0 rfl e_X4_isAsTold_52 ?_
            refine g_icmp_eq cx 59 e_X4_isAsTold_54 (by decide) (fun zc19 => ?_) (fun zc19 => ?_)
            · obtain ⟨x20, ex20⟩ : ∃ z : Int32, z = y1 + Int32.ofInt 1 := ⟨_, rfl⟩
              refine g_iinc cx x20 [(2, .int x20), (4, .int y15), (0, .ref (ad 43)), (1, .ref (ad 9)), (3, .int y2)] 3 e_X4_isAsTold_59 rfl ex20.symm (by decide) rfl ?_
              refine g_lsub [2, 3, 0, 4] [(0, .ref (ad 43)), (1, .ref (ad 9)), (2, .int x20), (3, .int y2)] rfl ?_
              exact J62 x20 (jv_t x20)
            · refine g_iconst cx 0 (by decide) e_X4_isAsTold_57 ?_
              exact hret e_X4_isAsTold_58 (Nat.le_of_ble_eq_true rfl) (Nat.le_of_ble_eq_true rfl) rfl ⟨rfl, (jv_w (jv_k (x := 0) 0 (by decide)) (by decide))⟩
          refine g_if_eq cx 39 e_X4_isAsTold_30 (by decide) (fun zc21 => ?_) (fun zc21 => ?_)
          · have p22 := gn_eq 0 0 (gc_eq zc21) pr12 (jv_k (x := 0) 0 (by decide)) (by decide)
            refine g_aload_n cx 0 rfl e_X4_isAsTold_39 ?_
            refine g_get cx cl_X4 fl_X4_9 43 (.ref (ad 44)) e_X4_isAsTold_40 rfl rfl ?_
            refine g_iload_n cx 3 rfl e_X4_isAsTold_43 ?_
            refine g_iald cx 44 e_X4_isAsTold_44 rfl (jv_ix 10 p5 (by decide)) ?_
            refine g_topi (fun x23 ex23 => ?_)
            exact J45 x23 (jv_t x23)
          · have p24 := gn_neL 1 1 (gc_ne zc21) pr12 (jv_k (x := 0) 0 (by decide)) (by decide)
            refine g_sipush cx 255 (by decide) e_X4_isAsTold_33 ?_
            refine g_goto cx 45 e_X4_isAsTold_36 (by decide) ?_
            exact J45 255 (jv_w (jv_k (x := 255) 255 (by decide)) (by decide))
  refine g_lsub [2, 3, 1, 0] [(0, .ref (ad 43)), (1, .ref (ad 9)), (2, .int 0), (3, .int 0)] rfl ?_
  exact J4 _ 0 0 (jv_w (jv_k (x := 0) 0 (by decide)) (by decide)) (jv_w (jv_k (x := 0) 0 (by decide)) (by decide)) (Nat.lt_succ_self _)
theorem e_X4_loss_0 : g_dc cX4_loss 0 (.iconst 0) 1 1 := ⟨by decide +kernel, rfl⟩
theorem e_X4_loss_1 : g_dc cX4_loss 1 (.istore_n 2) 1 2 := ⟨by decide +kernel, rfl⟩
theorem e_X4_loss_2 : g_dc cX4_loss 2 (.iconst 0) 1 3 := ⟨by decide +kernel, rfl⟩
theorem e_X4_loss_3 : g_dc cX4_loss 3 (.istore_n 3) 1 4 := ⟨by decide +kernel, rfl⟩
theorem e_X4_loss_4 : g_dc cX4_loss 4 (.aload_n 1) 1 5 := ⟨by decide +kernel, rfl⟩
theorem e_X4_loss_5 : g_dc cX4_loss 5 (.ifnull 46) 3 8 := ⟨by decide +kernel, rfl⟩
theorem e_X4_loss_8 : g_dc cX4_loss 8 (.iload_n 3) 1 9 := ⟨by decide +kernel, rfl⟩
theorem e_X4_loss_9 : g_dc cX4_loss 9 (.bipush 10) 2 11 := ⟨by decide +kernel, rfl⟩
theorem e_X4_loss_11 : g_dc cX4_loss 11 (.if_icmp .ge 40) 3 14 := ⟨by decide +kernel, rfl⟩
theorem e_X4_loss_14 : g_dc cX4_loss 14 (.aload_n 0) 1 15 := ⟨by decide +kernel, rfl⟩
theorem e_X4_loss_15 : g_dc cX4_loss 15 (.getfield 21) 3 18 := ⟨by decide +kernel, rfl⟩
theorem e_X4_loss_18 : g_dc cX4_loss 18 (.aload_n 0) 1 19 := ⟨by decide +kernel, rfl⟩
theorem e_X4_loss_19 : g_dc cX4_loss 19 (.getfield 25) 3 22 := ⟨by decide +kernel, rfl⟩
theorem e_X4_loss_22 : g_dc cX4_loss 22 (.aload_n 0) 1 23 := ⟨by decide +kernel, rfl⟩
theorem e_X4_loss_23 : g_dc cX4_loss 23 (.getfield 28) 3 26 := ⟨by decide +kernel, rfl⟩
theorem e_X4_loss_26 : g_dc cX4_loss 26 (.ior) 1 27 := ⟨by decide +kernel, rfl⟩
theorem e_X4_loss_27 : g_dc cX4_loss 27 (.iand) 1 28 := ⟨by decide +kernel, rfl⟩
theorem e_X4_loss_28 : g_dc cX4_loss 28 (.iconst 1) 1 29 := ⟨by decide +kernel, rfl⟩
theorem e_X4_loss_29 : g_dc cX4_loss 29 (.iload_n 3) 1 30 := ⟨by decide +kernel, rfl⟩
theorem e_X4_loss_30 : g_dc cX4_loss 30 (.ishl) 1 31 := ⟨by decide +kernel, rfl⟩
theorem e_X4_loss_31 : g_dc cX4_loss 31 (.iand) 1 32 := ⟨by decide +kernel, rfl⟩
theorem e_X4_loss_32 : g_dc cX4_loss 32 (.ifCond .eq 13) 3 35 := ⟨by decide +kernel, rfl⟩
theorem e_X4_loss_35 : g_dc cX4_loss 35 (.iload_n 2) 1 36 := ⟨by decide +kernel, rfl⟩
theorem e_X4_loss_36 : g_dc cX4_loss 36 (.aload_n 1) 1 37 := ⟨by decide +kernel, rfl⟩
theorem e_X4_loss_37 : g_dc cX4_loss 37 (.iload_n 3) 1 38 := ⟨by decide +kernel, rfl⟩
theorem e_X4_loss_38 : g_dc cX4_loss 38 (.bipush 7) 2 40 := ⟨by decide +kernel, rfl⟩
theorem e_X4_loss_40 : g_dc cX4_loss 40 (.invokevirtual 46) 3 43 := ⟨by decide +kernel, rfl⟩
theorem e_X4_loss_43 : g_dc cX4_loss 43 (.iadd) 1 44 := ⟨by decide +kernel, rfl⟩
theorem e_X4_loss_44 : g_dc cX4_loss 44 (.istore_n 2) 1 45 := ⟨by decide +kernel, rfl⟩
theorem e_X4_loss_45 : g_dc cX4_loss 45 (.iinc 3 1) 3 48 := ⟨by decide +kernel, rfl⟩
theorem e_X4_loss_48 : g_dc cX4_loss 48 (.goto (-44)) 3 51 := ⟨by decide +kernel, rfl⟩
theorem e_X4_loss_51 : g_dc cX4_loss 51 (.iload_n 2) 1 52 := ⟨by decide +kernel, rfl⟩
theorem e_X4_loss_52 : g_dc cX4_loss 52 (.ireturn) 1 53 := ⟨by decide +kernel, rfl⟩
set_option maxHeartbeats 4000000 in
set_option maxRecDepth 100000 in
theorem w_X4_loss_r5 (l : Launch) (X : gX) (ad : Nat → Nat) (F : Nat → Int32) (R : Nat → Nat → Int32) (hI : g_ok LK_wX F) (hA : g_okR LA_wX R) : g_Ci l X yX4_loss cX4_loss 4 (some .int) 3 0 0 [.ref (ad 43), .ref (ad 5)] (wX X ad F R) (fun r w => w = wX X ad F R ∧ jv (-2147483648) 2147483647 r) := by
  refine g_mi (by decide +kernel) (Nat.le_of_ble_eq_true rfl) (fun E cx hret => ?_)
  refine g_iconst cx 0 (by decide) e_X4_loss_0 ?_
  refine g_istore_n cx [(2, .int 0), (0, .ref (ad 43)), (1, .ref (ad 5))] e_X4_loss_1 (by decide) rfl ?_
  refine g_iconst cx 0 (by decide) e_X4_loss_2 ?_
  refine g_istore_n cx [(3, .int 0), (2, .int 0), (0, .ref (ad 43)), (1, .ref (ad 5))] e_X4_loss_3 (by decide) rfl ?_
  have J4 : ∀ (N : Nat) (y1 : Int32) (y2 : Int32), (jv (-2147483648) 2147483647 y1) → (jv 0 10 y2) → (2147483647 - y2.toInt).toNat < N → G X E 4 0 0 (wX X ad F R) [(0, .ref (ad 43)), (1, .ref (ad 5)), (2, .int y1), (3, .int y2)] 4 [] := by
    intro N
    induction N with
    | zero => intro y1 y2 py1 py2 hm; exact absurd hm (Nat.not_lt_zero _)
    | succ N ih4 =>
      intro y1 y2 py1 py2 hm4
      refine g_aload_n cx 1 rfl e_X4_loss_4 ?_
      refine g_ifnull cx e_X4_loss_5 ?_
      refine g_iload_n cx 3 rfl e_X4_loss_8 ?_
      refine g_bipush cx 10 (by decide) e_X4_loss_9 ?_
      refine g_icmp_ge cx 51 e_X4_loss_11 (by decide) (fun zc3 => ?_) (fun zc3 => ?_)
      · have p4 := gn_ge 10 10 (gc_le zc3) py2 (jv_k (x := 10) 10 (by decide)) (by decide)
        refine g_iload_n cx 2 rfl e_X4_loss_51 ?_
        exact hret e_X4_loss_52 (Nat.le_of_ble_eq_true rfl) (Nat.le_of_ble_eq_true rfl) rfl ⟨rfl, py1⟩
      · have p5 := gn_lt 0 9 (gc_nle zc3) py2 (jv_k (x := 10) 10 (by decide)) (by decide)
        refine g_aload_n cx 0 rfl e_X4_loss_14 ?_
        refine g_get cx cl_X4 fl_X4_21 43 (.int (F 691)) e_X4_loss_15 rfl rfl ?_
        refine g_aload_n cx 0 rfl e_X4_loss_18 ?_
        refine g_get cx cl_X4 fl_X4_25 43 (.int (F 692)) e_X4_loss_19 rfl rfl ?_
        refine g_aload_n cx 0 rfl e_X4_loss_22 ?_
        refine g_get cx cl_X4 fl_X4_28 43 (.int (F 693)) e_X4_loss_23 rfl rfl ?_
        refine g_ior cx e_X4_loss_26 ?_
        refine g_topi (fun x6 ex6 => ?_)
        refine g_iand cx e_X4_loss_27 ?_
        refine g_topi (fun x7 ex7 => ?_)
        refine g_iconst cx 1 (by decide) e_X4_loss_28 ?_
        refine g_iload_n cx 3 rfl e_X4_loss_29 ?_
        refine g_ishl cx e_X4_loss_30 ?_
        refine g_topi (fun x8 ex8 => ?_)
        refine g_iand cx e_X4_loss_31 ?_
        refine g_topi (fun x9 ex9 => ?_)
        have J45 : ∀ (y10 : Int32), (jv (-2147483648) 2147483647 y10) → G X E 4 0 0 (wX X ad F R) [(0, .ref (ad 43)), (1, .ref (ad 5)), (2, .int y10), (3, .int y2)] 45 [] := by
          intro y10 py10
          obtain ⟨x11, ex11⟩ : ∃ z : Int32, z = y2 + Int32.ofInt 1 := ⟨_, rfl⟩
          refine g_iinc cx x11 [(3, .int x11), (0, .ref (ad 43)), (1, .ref (ad 5)), (2, .int y10)] 3 e_X4_loss_45 rfl ex11.symm (by decide) rfl ?_
          have zx11 := jv_add 1 10 (show x11 = y2 + 1 from ex11) p5 (jv_k (x := 1) 1 (by decide)) (by decide)
          refine g_goto cx 4 e_X4_loss_48 (by decide) ?_
          refine g_lsub [1, 2, 3, 0] [(0, .ref (ad 43)), (1, .ref (ad 5)), (2, .int y10), (3, .int x11)] rfl ?_
          exact ih4 y10 x11 py10 (jv_w zx11.2 (by decide)) (Nat.lt_of_lt_of_le (show (2147483647 - x11.toInt).toNat < (2147483647 - y2.toInt).toNat from by have q0 := (jv_k (x := 1) 1 (by decide)).1; have q1 := (jv_k (x := 1) 1 (by decide)).2; have q2 := (jv_k (x := 10) 10 (by decide)).1; have q3 := (jv_k (x := 10) 10 (by decide)).2; have q4 := zx11.2.1; have q5 := zx11.2.2; have q6 := p5.1; have q7 := p5.2; have q8 := (gc_nle zc3); have q9 := (g_eq0 zx11.1); omega) (Nat.le_of_lt_succ hm4))
        refine g_if_eq cx 45 e_X4_loss_32 (by decide) (fun zc12 => ?_) (fun zc12 => ?_)
        · have p13 := gn_eq 0 0 (gc_eq zc12) (jv_t x9) (jv_k (x := 0) 0 (by decide)) (by decide)
          exact J45 y1 py1
        · refine g_iload_n cx 2 rfl e_X4_loss_35 ?_
          refine g_aload_n cx 1 rfl e_X4_loss_36 ?_
          refine g_iload_n cx 3 rfl e_X4_loss_37 ?_
          refine g_bipush cx 7 (by decide) e_X4_loss_38 ?_
          refine g_cViW cx [.int y2, .int 7] [.int y1] (w_X8_side_5 l X ad F R hI hA y2 7) ml_X4_46 yV_X8_side e_X4_loss_40 (by unfold g_rr; decide) (by decide) 5 rfl rfl rfl (Nat.le_of_ble_eq_true rfl) (fun r14 w15 h16 => ?_)
          obtain ⟨rfl, pr14⟩ := h16
          refine g_iadd cx e_X4_loss_43 ?_
          refine g_topi (fun x17 ex17 => ?_)
          refine g_istore_n cx [(2, .int x17), (0, .ref (ad 43)), (1, .ref (ad 5)), (3, .int y2)] e_X4_loss_44 (by decide) rfl ?_
          refine g_lsub [1, 2, 0, 3] [(0, .ref (ad 43)), (1, .ref (ad 5)), (2, .int x17), (3, .int y2)] rfl ?_
          exact J45 x17 (jv_t x17)
  refine g_lsub [2, 3, 1, 0] [(0, .ref (ad 43)), (1, .ref (ad 5)), (2, .int 0), (3, .int 0)] rfl ?_
  exact J4 _ 0 0 (jv_w (jv_k (x := 0) 0 (by decide)) (by decide)) (jv_w (jv_k (x := 0) 0 (by decide)) (by decide)) (Nat.lt_succ_self _)
theorem e_X4_leave_0 : g_dc cX4_leave 0 (.aload_n 1) 1 1 := ⟨by decide +kernel, rfl⟩
theorem e_X4_leave_1 : g_dc cX4_leave 1 (.ifnonnull 4) 3 4 := ⟨by decide +kernel, rfl⟩
theorem e_X4_leave_5 : g_dc cX4_leave 5 (.iconst 0) 1 6 := ⟨by decide +kernel, rfl⟩
theorem e_X4_leave_6 : g_dc cX4_leave 6 (.istore_n 2) 1 7 := ⟨by decide +kernel, rfl⟩
theorem e_X4_leave_7 : g_dc cX4_leave 7 (.iload_n 2) 1 8 := ⟨by decide +kernel, rfl⟩
theorem e_X4_leave_8 : g_dc cX4_leave 8 (.bipush 10) 2 10 := ⟨by decide +kernel, rfl⟩
theorem e_X4_leave_10 : g_dc cX4_leave 10 (.if_icmp .ge 76) 3 13 := ⟨by decide +kernel, rfl⟩
theorem e_X4_leave_13 : g_dc cX4_leave 13 (.aload_n 0) 1 14 := ⟨by decide +kernel, rfl⟩
theorem e_X4_leave_14 : g_dc cX4_leave 14 (.iload_n 2) 1 15 := ⟨by decide +kernel, rfl⟩
theorem e_X4_leave_15 : g_dc cX4_leave 15 (.invokevirtual 77) 3 18 := ⟨by decide +kernel, rfl⟩
theorem e_X4_leave_18 : g_dc cX4_leave 18 (.ifCond .eq 11) 3 21 := ⟨by decide +kernel, rfl⟩
theorem e_X4_leave_21 : g_dc cX4_leave 21 (.aload_n 1) 1 22 := ⟨by decide +kernel, rfl⟩
theorem e_X4_leave_22 : g_dc cX4_leave 22 (.iload_n 2) 1 23 := ⟨by decide +kernel, rfl⟩
theorem e_X4_leave_23 : g_dc cX4_leave 23 (.invokevirtual 86) 3 26 := ⟨by decide +kernel, rfl⟩
theorem e_X4_leave_26 : g_dc cX4_leave 26 (.goto 54) 3 29 := ⟨by decide +kernel, rfl⟩
theorem e_X4_leave_29 : g_dc cX4_leave 29 (.aload_n 1) 1 30 := ⟨by decide +kernel, rfl⟩
theorem e_X4_leave_30 : g_dc cX4_leave 30 (.iload_n 2) 1 31 := ⟨by decide +kernel, rfl⟩
theorem e_X4_leave_31 : g_dc cX4_leave 31 (.invokevirtual 90) 3 34 := ⟨by decide +kernel, rfl⟩
theorem e_X4_leave_34 : g_dc cX4_leave 34 (.ifCond .eq 46) 3 37 := ⟨by decide +kernel, rfl⟩
theorem e_X4_leave_37 : g_dc cX4_leave 37 (.aload_n 1) 1 38 := ⟨by decide +kernel, rfl⟩
theorem e_X4_leave_38 : g_dc cX4_leave 38 (.iload_n 2) 1 39 := ⟨by decide +kernel, rfl⟩
theorem e_X4_leave_39 : g_dc cX4_leave 39 (.iconst 1) 1 40 := ⟨by decide +kernel, rfl⟩
theorem e_X4_leave_40 : g_dc cX4_leave 40 (.aload_n 0) 1 41 := ⟨by decide +kernel, rfl⟩
theorem e_X4_leave_41 : g_dc cX4_leave 41 (.getfield 9) 3 44 := ⟨by decide +kernel, rfl⟩
theorem e_X4_leave_44 : g_dc cX4_leave 44 (.iload_n 2) 1 45 := ⟨by decide +kernel, rfl⟩
theorem e_X4_leave_45 : g_dc cX4_leave 45 (.iaload) 1 46 := ⟨by decide +kernel, rfl⟩
theorem e_X4_leave_46 : g_dc cX4_leave 46 (.invokevirtual 93) 3 49 := ⟨by decide +kernel, rfl⟩
theorem e_X4_leave_49 : g_dc cX4_leave 49 (.aload_n 1) 1 50 := ⟨by decide +kernel, rfl⟩
theorem e_X4_leave_50 : g_dc cX4_leave 50 (.iload_n 2) 1 51 := ⟨by decide +kernel, rfl⟩
theorem e_X4_leave_51 : g_dc cX4_leave 51 (.bipush 6) 2 53 := ⟨by decide +kernel, rfl⟩
theorem e_X4_leave_53 : g_dc cX4_leave 53 (.aload_n 0) 1 54 := ⟨by decide +kernel, rfl⟩
theorem e_X4_leave_54 : g_dc cX4_leave 54 (.getfield 15) 3 57 := ⟨by decide +kernel, rfl⟩
theorem e_X4_leave_57 : g_dc cX4_leave 57 (.iload_n 2) 1 58 := ⟨by decide +kernel, rfl⟩
theorem e_X4_leave_58 : g_dc cX4_leave 58 (.iaload) 1 59 := ⟨by decide +kernel, rfl⟩
theorem e_X4_leave_59 : g_dc cX4_leave 59 (.invokevirtual 93) 3 62 := ⟨by decide +kernel, rfl⟩
theorem e_X4_leave_62 : g_dc cX4_leave 62 (.aload_n 0) 1 63 := ⟨by decide +kernel, rfl⟩
theorem e_X4_leave_63 : g_dc cX4_leave 63 (.getfield 25) 3 66 := ⟨by decide +kernel, rfl⟩
theorem e_X4_leave_66 : g_dc cX4_leave 66 (.iconst 1) 1 67 := ⟨by decide +kernel, rfl⟩
theorem e_X4_leave_67 : g_dc cX4_leave 67 (.iload_n 2) 1 68 := ⟨by decide +kernel, rfl⟩
theorem e_X4_leave_68 : g_dc cX4_leave 68 (.ishl) 1 69 := ⟨by decide +kernel, rfl⟩
theorem e_X4_leave_69 : g_dc cX4_leave 69 (.iand) 1 70 := ⟨by decide +kernel, rfl⟩
theorem e_X4_leave_70 : g_dc cX4_leave 70 (.ifCond .eq 10) 3 73 := ⟨by decide +kernel, rfl⟩
theorem e_X4_leave_73 : g_dc cX4_leave 73 (.aload_n 1) 1 74 := ⟨by decide +kernel, rfl⟩
theorem e_X4_leave_74 : g_dc cX4_leave 74 (.iload_n 2) 1 75 := ⟨by decide +kernel, rfl⟩
theorem e_X4_leave_75 : g_dc cX4_leave 75 (.iconst 3) 1 76 := ⟨by decide +kernel, rfl⟩
theorem e_X4_leave_76 : g_dc cX4_leave 76 (.iconst 1) 1 77 := ⟨by decide +kernel, rfl⟩
theorem e_X4_leave_77 : g_dc cX4_leave 77 (.invokevirtual 93) 3 80 := ⟨by decide +kernel, rfl⟩
theorem e_X4_leave_80 : g_dc cX4_leave 80 (.iinc 2 1) 3 83 := ⟨by decide +kernel, rfl⟩
theorem e_X4_leave_83 : g_dc cX4_leave 83 (.goto (-76)) 3 86 := ⟨by decide +kernel, rfl⟩
theorem e_X4_leave_86 : g_dc cX4_leave 86 (.aload_n 1) 1 87 := ⟨by decide +kernel, rfl⟩
theorem e_X4_leave_87 : g_dc cX4_leave 87 (.aload_n 0) 1 88 := ⟨by decide +kernel, rfl⟩
theorem e_X4_leave_88 : g_dc cX4_leave 88 (.getfield 43) 3 91 := ⟨by decide +kernel, rfl⟩
theorem e_X4_leave_91 : g_dc cX4_leave 91 (.putfield 53) 3 94 := ⟨by decide +kernel, rfl⟩
theorem e_X4_leave_94 : g_dc cX4_leave 94 (.return_) 1 95 := ⟨by decide +kernel, rfl⟩
def md_X4_leave_r1 : List Nat := [17, 19]
def mr_X4_leave_r1 : List Nat := [2]
set_option maxHeartbeats 4000000 in
set_option maxRecDepth 100000 in
theorem w_X4_leave_r1 (l : Launch) (X : gX) (ad : Nat → Nat) (F : Nat → Int32) (R : Nat → Nat → Int32) (hI : g_ok LK_wX F) (hA : g_okR LA_wX R) : g_Cv l X yX4_leave cX4_leave 3 3 0 0 [.ref (ad 43), .ref (ad 1)] (wX X ad F R) (fun w => ∃ (F' : Nat → Int32) (R' : Nat → Nat → Int32), w = wX X ad F' R' ∧ g_ok LK_wX F' ∧ g_okR LA_wX R' ∧ g_fr md_X4_leave_r1 F F' ∧ g_fr mr_X4_leave_r1 R R') := by
  refine g_mv (by decide +kernel) (Nat.le_of_ble_eq_true rfl) (fun E cx hret => ?_)
  refine g_aload_n cx 1 rfl e_X4_leave_0 ?_
  refine g_ifnonnull cx 5 e_X4_leave_1 (by decide) ?_
  refine g_iconst cx 0 (by decide) e_X4_leave_5 ?_
  refine g_istore_n cx [(2, .int 0), (0, .ref (ad 43)), (1, .ref (ad 1))] e_X4_leave_6 (by decide) rfl ?_
  have J7 : ∀ (N : Nat) (F2 : Nat → Int32) (R3 : Nat → Nat → Int32) (y1 : Int32), (g_ok LK_wX F2) → (g_fr md_X4_leave_r1 F F2) → (g_okR LA_wX R3) → (g_fr mr_X4_leave_r1 R R3) → (jv 0 10 y1) → (2147483647 - y1.toInt).toNat < N → G X E 3 0 0 (wX X ad F2 R3) [(0, .ref (ad 43)), (1, .ref (ad 1)), (2, .int y1)] 7 [] := by
    intro N
    induction N with
    | zero => intro F2 R3 y1 oF2 fF2 oR3 fR3 py1 hm; exact absurd hm (Nat.not_lt_zero _)
    | succ N ih7 =>
      intro F2 R3 y1 oF2 fF2 oR3 fR3 py1 hm7
      refine g_iload_n cx 2 rfl e_X4_leave_7 ?_
      refine g_bipush cx 10 (by decide) e_X4_leave_8 ?_
      refine g_icmp_ge cx 86 e_X4_leave_10 (by decide) (fun zc4 => ?_) (fun zc4 => ?_)
      · have p5 := gn_ge 10 10 (gc_le zc4) py1 (jv_k (x := 10) 10 (by decide)) (by decide)
        refine g_aload_n cx 1 rfl e_X4_leave_86 ?_
        refine g_aload_n cx 0 rfl e_X4_leave_87 ?_
        refine g_get cx cl_X4 fl_X4_43 43 (.int (F2 698)) e_X4_leave_88 rfl rfl ?_
        refine g_toi (F 698) (fF2 698 rfl) ?_
        refine g_putN cx cl_X8 fn_X4_53 1 (wX X ad (upd F2 17 (F 698)) R3) e_X4_leave_91 rfl rfl rfl rfl (Nat.le_of_ble_eq_true rfl) rfl ?_
        obtain ⟨F6, hF6⟩ : ∃ z, z = upd F2 17 (F 698) := ⟨_, rfl⟩
        rw [← hF6]
        have oF6 : g_ok LK_wX F6 := by rw [hF6]; exact g_ok_u oF2 rfl
        have fF6 : g_fr md_X4_leave_r1 F F6 := by rw [hF6]; exact g_fr_u fF2 rfl
        exact hret e_X4_leave_94 (Nat.le_of_ble_eq_true rfl) (Nat.le_of_ble_eq_true rfl) ⟨F6, R3, rfl, oF6, oR3, fF6, fR3⟩
      · have p7 := gn_lt 0 9 (gc_nle zc4) py1 (jv_k (x := 10) 10 (by decide)) (by decide)
        refine g_aload_n cx 0 rfl e_X4_leave_13 ?_
        refine g_iload_n cx 2 rfl e_X4_leave_14 ?_
        refine g_cViW cx [.int y1] [] (w_X4_isOver l X ad F2 R3 oF2 oR3 y1) ml_X4_77 yV_X4_isOver e_X4_leave_15 (by unfold g_rr; decide) (by decide) 43 rfl rfl rfl (Nat.le_of_ble_eq_true rfl) (fun r8 w9 h10 => ?_)
        obtain ⟨rfl, pr8⟩ := h10
        have J80 : ∀ (F11 : Nat → Int32) (R12 : Nat → Nat → Int32), (g_ok LK_wX F11) → (g_fr md_X4_leave_r1 F F11) → (g_okR LA_wX R12) → (g_fr mr_X4_leave_r1 R R12) → G X E 3 0 0 (wX X ad F11 R12) [(0, .ref (ad 43)), (1, .ref (ad 1)), (2, .int y1)] 80 [] := by
          intro F11 R12 oF11 fF11 oR12 fR12
          obtain ⟨x13, ex13⟩ : ∃ z : Int32, z = y1 + Int32.ofInt 1 := ⟨_, rfl⟩
          refine g_iinc cx x13 [(2, .int x13), (0, .ref (ad 43)), (1, .ref (ad 1))] 2 e_X4_leave_80 rfl ex13.symm (by decide) rfl ?_
          have zx13 := jv_add 1 10 (show x13 = y1 + 1 from ex13) p7 (jv_k (x := 1) 1 (by decide)) (by decide)
          refine g_goto cx 7 e_X4_leave_83 (by decide) ?_
          refine g_lsub [1, 2, 0] [(0, .ref (ad 43)), (1, .ref (ad 1)), (2, .int x13)] rfl ?_
          exact ih7 F11 R12 x13 oF11 fF11 oR12 fR12 (jv_w zx13.2 (by decide)) (Nat.lt_of_lt_of_le (show (2147483647 - x13.toInt).toNat < (2147483647 - y1.toInt).toNat from by have q0 := (jv_k (x := 1) 1 (by decide)).1; have q1 := (jv_k (x := 1) 1 (by decide)).2; have q2 := (jv_k (x := 10) 10 (by decide)).1; have q3 := (jv_k (x := 10) 10 (by decide)).2; have q4 := zx13.2.1; have q5 := zx13.2.2; have q6 := p7.1; have q7 := p7.2; have q8 := (gc_nle zc4); have q9 := (g_eq0 zx13.1); omega) (Nat.le_of_lt_succ hm7))
        refine g_if_eq cx 29 e_X4_leave_18 (by decide) (fun zc14 => ?_) (fun zc14 => ?_)
        · have p15 := gn_eq 0 0 (gc_eq zc14) pr8 (jv_k (x := 0) 0 (by decide)) (by decide)
          refine g_aload_n cx 1 rfl e_X4_leave_29 ?_
          refine g_iload_n cx 2 rfl e_X4_leave_30 ?_
          refine g_cViW cx [.int y1] [] (w_X8_has_1 l X ad F2 R3 oF2 oR3 y1) ml_X4_90 yV_X8_has e_X4_leave_31 (by unfold g_rr; decide) (by decide) 1 rfl rfl rfl (Nat.le_of_ble_eq_true rfl) (fun r16 w17 h18 => ?_)
          obtain ⟨rfl, pr16⟩ := h18
          refine g_if_eq cx 80 e_X4_leave_34 (by decide) (fun zc19 => ?_) (fun zc19 => ?_)
          · have p20 := gn_eq 0 0 (gc_eq zc19) pr16 (jv_k (x := 0) 0 (by decide)) (by decide)
            exact J80 F2 R3 oF2 fF2 oR3 fR3
          · have p21 := gn_neL 1 1 (gc_ne zc19) pr16 (jv_k (x := 0) 0 (by decide)) (by decide)
            refine g_aload_n cx 1 rfl e_X4_leave_37 ?_
            refine g_iload_n cx 2 rfl e_X4_leave_38 ?_
            refine g_iconst cx 1 (by decide) e_X4_leave_39 ?_
            refine g_aload_n cx 0 rfl e_X4_leave_40 ?_
            refine g_get cx cl_X4 fl_X4_9 43 (.ref (ad 44)) e_X4_leave_41 rfl rfl ?_
            refine g_iload_n cx 2 rfl e_X4_leave_44 ?_
            refine g_iald cx 44 e_X4_leave_45 rfl (jv_ix 10 p7 (by decide)) ?_
            refine g_topi (fun x22 ex22 => ?_)
            refine g_cVvW cx [.int y1, .int 1, .int x22] [] (w_X8_change_1 l X ad F2 R3 oF2 oR3 y1 1 x22) ml_X4_93 yV_X8_change e_X4_leave_46 (by unfold g_rr; decide) (by decide) 1 rfl rfl rfl (Nat.le_of_ble_eq_true rfl) (fun w24 h25 => ?_)
            obtain ⟨F26, R27, rfl, oF26, oR27, cF26, cR27⟩ := h25
            have fF26 : g_fr md_X4_leave_r1 F F26 := g_fr_c fF2 cF26 rfl
            have fR27 : g_fr mr_X4_leave_r1 R R27 := g_fr_c fR3 cR27 rfl
            refine g_aload_n cx 1 rfl e_X4_leave_49 ?_
            refine g_iload_n cx 2 rfl e_X4_leave_50 ?_
            refine g_bipush cx 6 (by decide) e_X4_leave_51 ?_
            refine g_aload_n cx 0 rfl e_X4_leave_53 ?_
            refine g_get cx cl_X4 fl_X4_15 43 (.ref (ad 45)) e_X4_leave_54 rfl rfl ?_
            refine g_iload_n cx 2 rfl e_X4_leave_57 ?_
            refine g_iald cx 45 e_X4_leave_58 rfl (jv_ix 10 p7 (by decide)) ?_
            refine g_topi (fun x28 ex28 => ?_)
            refine g_cVvW cx [.int y1, .int 6, .int x28] [] (w_X8_change_1 l X ad F26 R27 oF26 oR27 y1 6 x28) ml_X4_93 yV_X8_change e_X4_leave_59 (by unfold g_rr; decide) (by decide) 1 rfl rfl rfl (Nat.le_of_ble_eq_true rfl) (fun w30 h31 => ?_)
            obtain ⟨F32, R33, rfl, oF32, oR33, cF32, cR33⟩ := h31
            have fF32 : g_fr md_X4_leave_r1 F F32 := g_fr_c fF26 cF32 rfl
            have fR33 : g_fr mr_X4_leave_r1 R R33 := g_fr_c fR27 cR33 rfl
            refine g_aload_n cx 0 rfl e_X4_leave_62 ?_
            refine g_get cx cl_X4 fl_X4_25 43 (.int (F32 692)) e_X4_leave_63 rfl rfl ?_
            refine g_toi (F 692) (((cF32 692 rfl).trans (cF26 692 rfl)).trans (fF2 692 rfl)) ?_
            refine g_iconst cx 1 (by decide) e_X4_leave_66 ?_
            refine g_iload_n cx 2 rfl e_X4_leave_67 ?_
            refine g_ishl cx e_X4_leave_68 ?_
            refine g_topi (fun x34 ex34 => ?_)
            refine g_iand cx e_X4_leave_69 ?_
            refine g_topi (fun x35 ex35 => ?_)
            refine g_if_eq cx 80 e_X4_leave_70 (by decide) (fun zc36 => ?_) (fun zc36 => ?_)
            · have p37 := gn_eq 0 0 (gc_eq zc36) (jv_t x35) (jv_k (x := 0) 0 (by decide)) (by decide)
              exact J80 F32 R33 oF32 fF32 oR33 fR33
            · refine g_aload_n cx 1 rfl e_X4_leave_73 ?_
              refine g_iload_n cx 2 rfl e_X4_leave_74 ?_
              refine g_iconst cx 3 (by decide) e_X4_leave_75 ?_
              refine g_iconst cx 1 (by decide) e_X4_leave_76 ?_
              refine g_cVvW cx [.int y1, .int 3, .int 1] [] (w_X8_change_1 l X ad F32 R33 oF32 oR33 y1 3 1) ml_X4_93 yV_X8_change e_X4_leave_77 (by unfold g_rr; decide) (by decide) 1 rfl rfl rfl (Nat.le_of_ble_eq_true rfl) (fun w39 h40 => ?_)
              obtain ⟨F41, R42, rfl, oF41, oR42, cF41, cR42⟩ := h40
              have fF41 : g_fr md_X4_leave_r1 F F41 := g_fr_c fF32 cF41 rfl
              have fR42 : g_fr mr_X4_leave_r1 R R42 := g_fr_c fR33 cR42 rfl
              exact J80 F41 R42 oF41 fF41 oR42 fR42
        · have p43 := gn_neL 1 1 (gc_ne zc14) pr8 (jv_k (x := 0) 0 (by decide)) (by decide)
          refine g_aload_n cx 1 rfl e_X4_leave_21 ?_
          refine g_iload_n cx 2 rfl e_X4_leave_22 ?_
          refine g_cVvW cx [.int y1] [] (w_X8_take_1 l X ad F2 R3 oF2 oR3 y1) ml_X4_86 yV_X8_take e_X4_leave_23 (by unfold g_rr; decide) (by decide) 1 rfl rfl rfl (Nat.le_of_ble_eq_true rfl) (fun w45 h46 => ?_)
          obtain ⟨F47, R48, rfl, oF47, oR48, cF47, cR48⟩ := h46
          have fF47 : g_fr md_X4_leave_r1 F F47 := g_fr_c fF2 cF47 rfl
          have fR48 : g_fr mr_X4_leave_r1 R R48 := g_fr_c fR3 cR48 rfl
          refine g_goto cx 80 e_X4_leave_26 (by decide) ?_
          exact J80 F47 R48 oF47 fF47 oR48 fR48
  refine g_lsub [1, 2, 0] [(0, .ref (ad 43)), (1, .ref (ad 1)), (2, .int 0)] rfl ?_
  exact J7 _ F R 0 hI (g_fr_rf F) hA (g_fr_rf R) (jv_w (jv_k (x := 0) 0 (by decide)) (by decide)) (Nat.lt_succ_self _)
theorem e_X4_allStand_0 : g_dc cX4_allStand 0 (.aload_n 0) 1 1 := ⟨by decide +kernel, rfl⟩
theorem e_X4_allStand_1 : g_dc cX4_allStand 1 (.invokevirtual 58) 3 4 := ⟨by decide +kernel, rfl⟩
theorem e_X4_allStand_4 : g_dc cX4_allStand 4 (.aload_n 0) 1 5 := ⟨by decide +kernel, rfl⟩
theorem e_X4_allStand_5 : g_dc cX4_allStand 5 (.getfield 21) 3 8 := ⟨by decide +kernel, rfl⟩
theorem e_X4_allStand_8 : g_dc cX4_allStand 8 (.if_icmp .ne 7) 3 11 := ⟨by decide +kernel, rfl⟩
theorem e_X4_allStand_11 : g_dc cX4_allStand 11 (.iconst 1) 1 12 := ⟨by decide +kernel, rfl⟩
theorem e_X4_allStand_12 : g_dc cX4_allStand 12 (.goto 4) 3 15 := ⟨by decide +kernel, rfl⟩
theorem e_X4_allStand_15 : g_dc cX4_allStand 15 (.iconst 0) 1 16 := ⟨by decide +kernel, rfl⟩
theorem e_X4_allStand_16 : g_dc cX4_allStand 16 (.ireturn) 1 17 := ⟨by decide +kernel, rfl⟩
set_option maxHeartbeats 4000000 in
set_option maxRecDepth 100000 in
theorem w_X4_allStand (l : Launch) (X : gX) (ad : Nat → Nat) (F : Nat → Int32) (R : Nat → Nat → Int32) (hI : g_ok LK_wX F) (hA : g_okR LA_wX R) : g_Ci l X yX4_allStand cX4_allStand 1 (some .boolean) 2 0 0 [.ref (ad 43)] (wX X ad F R) (fun r w => w = wX X ad F R ∧ jv 0 1 r) := by
  refine g_mi (by decide +kernel) (Nat.le_of_ble_eq_true rfl) (fun E cx hret => ?_)
  refine g_aload_n cx 0 rfl e_X4_allStand_0 ?_
  refine g_cViW cx [] [] (w_X4_standingSet l X ad F R hI hA) ml_X4_58 yV_X4_standingSet e_X4_allStand_1 (by unfold g_rr; decide) (by decide) 43 rfl rfl rfl (Nat.le_of_ble_eq_true rfl) (fun r1 w2 h3 => ?_)
  obtain ⟨rfl, pr1⟩ := h3
  refine g_aload_n cx 0 rfl e_X4_allStand_4 ?_
  refine g_get cx cl_X4 fl_X4_21 43 (.int (F 691)) e_X4_allStand_5 rfl rfl ?_
  have J16 : ∀ (y4 : Int32), (jv 0 1 y4) → G X E 1 0 0 (wX X ad F R) [] 16 [.int y4] := by
    intro y4 py4
    exact hret e_X4_allStand_16 (Nat.le_of_ble_eq_true rfl) (Nat.le_of_ble_eq_true rfl) (g_narb py4) ⟨rfl, py4⟩
  refine g_icmp_ne cx 15 e_X4_allStand_8 (by decide) (fun zc5 => ?_) (fun zc5 => ?_)
  · refine g_iconst cx 0 (by decide) e_X4_allStand_15 ?_
    refine g_lsub [] [] rfl ?_
    exact J16 0 (jv_w (jv_k (x := 0) 0 (by decide)) (by decide))
  · refine g_iconst cx 1 (by decide) e_X4_allStand_11 ?_
    refine g_goto cx 16 e_X4_allStand_12 (by decide) ?_
    refine g_lsub [] [] rfl ?_
    exact J16 1 (jv_w (jv_k (x := 1) 1 (by decide)) (by decide))
theorem e_X2_toldOf_0 : g_dc cX2_toldOf 0 (.iload_n 1) 1 1 := ⟨by decide +kernel, rfl⟩
theorem e_X2_toldOf_1 : g_dc cX2_toldOf 1 (.ifCond .lt 18) 3 4 := ⟨by decide +kernel, rfl⟩
theorem e_X2_toldOf_4 : g_dc cX2_toldOf 4 (.iload_n 1) 1 5 := ⟨by decide +kernel, rfl⟩
theorem e_X2_toldOf_5 : g_dc cX2_toldOf 5 (.bipush 12) 2 7 := ⟨by decide +kernel, rfl⟩
theorem e_X2_toldOf_7 : g_dc cX2_toldOf 7 (.if_icmp .ge 12) 3 10 := ⟨by decide +kernel, rfl⟩
theorem e_X2_toldOf_10 : g_dc cX2_toldOf 10 (.aload_n 0) 1 11 := ⟨by decide +kernel, rfl⟩
theorem e_X2_toldOf_11 : g_dc cX2_toldOf 11 (.getfield 34) 3 14 := ⟨by decide +kernel, rfl⟩
theorem e_X2_toldOf_14 : g_dc cX2_toldOf 14 (.iload_n 1) 1 15 := ⟨by decide +kernel, rfl⟩
theorem e_X2_toldOf_15 : g_dc cX2_toldOf 15 (.iaload) 1 16 := ⟨by decide +kernel, rfl⟩
theorem e_X2_toldOf_16 : g_dc cX2_toldOf 16 (.goto 4) 3 19 := ⟨by decide +kernel, rfl⟩
theorem e_X2_toldOf_19 : g_dc cX2_toldOf 19 (.iconst 0) 1 20 := ⟨by decide +kernel, rfl⟩
theorem e_X2_toldOf_20 : g_dc cX2_toldOf 20 (.ireturn) 1 21 := ⟨by decide +kernel, rfl⟩
set_option maxHeartbeats 4000000 in
set_option maxRecDepth 100000 in
theorem w_X2_toldOf_17 (l : Launch) (X : gX) (ad : Nat → Nat) (F : Nat → Int32) (R : Nat → Nat → Int32) (hI : g_ok LK_wX F) (hA : g_okR LA_wX R) (a0 : Int32) : g_Ci l X yX2_toldOf cX2_toldOf 2 (some .int) 1 0 0 [.ref (ad 17), .int a0] (wX X ad F R) (fun r w => w = wX X ad F R ∧ jv (-2147483648) 2147483647 r) := by
  refine g_mi (by decide +kernel) (Nat.le_of_ble_eq_true rfl) (fun E cx hret => ?_)
  refine g_iload_n cx 1 rfl e_X2_toldOf_0 ?_
  have J20 : ∀ (y1 : Int32), (jv (-2147483648) 2147483647 y1) → G X E 2 0 0 (wX X ad F R) [] 20 [.int y1] := by
    intro y1 py1
    exact hret e_X2_toldOf_20 (Nat.le_of_ble_eq_true rfl) (Nat.le_of_ble_eq_true rfl) rfl ⟨rfl, py1⟩
  have J19 : G X E 2 0 0 (wX X ad F R) [] 19 [] := by
    refine g_iconst cx 0 (by decide) e_X2_toldOf_19 ?_
    exact J20 0 (jv_w (jv_k (x := 0) 0 (by decide)) (by decide))
  refine g_if_lt cx 19 e_X2_toldOf_1 (by decide) (fun zc2 => ?_) (fun zc2 => ?_)
  · have p3 := gn_lt (-2147483648) (-1) (gc_lt zc2) (jv_t a0) (jv_k (x := 0) 0 (by decide)) (by decide)
    refine g_lsub [] [] rfl ?_
    exact J19  
  · have p4 := gn_ge 0 2147483647 (gc_nlt zc2) (jv_t a0) (jv_k (x := 0) 0 (by decide)) (by decide)
    refine g_iload_n cx 1 rfl e_X2_toldOf_4 ?_
    refine g_bipush cx 12 (by decide) e_X2_toldOf_5 ?_
    refine g_icmp_ge cx 19 e_X2_toldOf_7 (by decide) (fun zc5 => ?_) (fun zc5 => ?_)
    · have p6 := gn_ge 12 2147483647 (gc_le zc5) p4 (jv_k (x := 12) 12 (by decide)) (by decide)
      refine g_lsub [] [] rfl ?_
      exact J19  
    · have p7 := gn_lt 0 11 (gc_nle zc5) p4 (jv_k (x := 12) 12 (by decide)) (by decide)
      refine g_aload_n cx 0 rfl e_X2_toldOf_10 ?_
      refine g_get cx cl_X2 fl_X2_34 17 (.ref (ad 23)) e_X2_toldOf_11 rfl rfl ?_
      refine g_iload_n cx 1 rfl e_X2_toldOf_14 ?_
      refine g_iald cx 23 e_X2_toldOf_15 rfl (jv_ix 12 p7 (by decide)) ?_
      refine g_topi (fun x8 ex8 => ?_)
      refine g_goto cx 20 e_X2_toldOf_16 (by decide) ?_
      refine g_lsub [] [] rfl ?_
      exact J20 x8 (jv_t x8)
theorem e_X2_join_0 : g_dc cX2_join 0 (.iload_n 0) 1 1 := ⟨by decide +kernel, rfl⟩
theorem e_X2_join_1 : g_dc cX2_join 1 (.tableswitch 101 6 12 #[43, 47, 51, 55, 67, 79, 90]) 43 44 := ⟨by decide +kernel, rfl⟩
theorem e_X2_join_44 : g_dc cX2_join 44 (.iload_n 1) 1 45 := ⟨by decide +kernel, rfl⟩
theorem e_X2_join_45 : g_dc cX2_join 45 (.iload_n 2) 1 46 := ⟨by decide +kernel, rfl⟩
theorem e_X2_join_46 : g_dc cX2_join 46 (.iadd) 1 47 := ⟨by decide +kernel, rfl⟩
theorem e_X2_join_47 : g_dc cX2_join 47 (.ireturn) 1 48 := ⟨by decide +kernel, rfl⟩
theorem e_X2_join_48 : g_dc cX2_join 48 (.iload_n 1) 1 49 := ⟨by decide +kernel, rfl⟩
theorem e_X2_join_49 : g_dc cX2_join 49 (.iload_n 2) 1 50 := ⟨by decide +kernel, rfl⟩
theorem e_X2_join_50 : g_dc cX2_join 50 (.isub) 1 51 := ⟨by decide +kernel, rfl⟩
theorem e_X2_join_51 : g_dc cX2_join 51 (.ireturn) 1 52 := ⟨by decide +kernel, rfl⟩
theorem e_X2_join_52 : g_dc cX2_join 52 (.iload_n 1) 1 53 := ⟨by decide +kernel, rfl⟩
theorem e_X2_join_53 : g_dc cX2_join 53 (.iload_n 2) 1 54 := ⟨by decide +kernel, rfl⟩
theorem e_X2_join_54 : g_dc cX2_join 54 (.imul) 1 55 := ⟨by decide +kernel, rfl⟩
theorem e_X2_join_55 : g_dc cX2_join 55 (.ireturn) 1 56 := ⟨by decide +kernel, rfl⟩
theorem e_X2_join_56 : g_dc cX2_join 56 (.iload_n 2) 1 57 := ⟨by decide +kernel, rfl⟩
theorem e_X2_join_57 : g_dc cX2_join 57 (.ifCond .ne 7) 3 60 := ⟨by decide +kernel, rfl⟩
theorem e_X2_join_60 : g_dc cX2_join 60 (.iconst 0) 1 61 := ⟨by decide +kernel, rfl⟩
theorem e_X2_join_61 : g_dc cX2_join 61 (.goto 6) 3 64 := ⟨by decide +kernel, rfl⟩
theorem e_X2_join_64 : g_dc cX2_join 64 (.iload_n 1) 1 65 := ⟨by decide +kernel, rfl⟩
theorem e_X2_join_65 : g_dc cX2_join 65 (.iload_n 2) 1 66 := ⟨by decide +kernel, rfl⟩
theorem e_X2_join_66 : g_dc cX2_join 66 (.idiv) 1 67 := ⟨by decide +kernel, rfl⟩
theorem e_X2_join_67 : g_dc cX2_join 67 (.ireturn) 1 68 := ⟨by decide +kernel, rfl⟩
theorem e_X2_join_68 : g_dc cX2_join 68 (.iload_n 2) 1 69 := ⟨by decide +kernel, rfl⟩
theorem e_X2_join_69 : g_dc cX2_join 69 (.ifCond .ne 7) 3 72 := ⟨by decide +kernel, rfl⟩
theorem e_X2_join_72 : g_dc cX2_join 72 (.iconst 0) 1 73 := ⟨by decide +kernel, rfl⟩
theorem e_X2_join_73 : g_dc cX2_join 73 (.goto 6) 3 76 := ⟨by decide +kernel, rfl⟩
theorem e_X2_join_76 : g_dc cX2_join 76 (.iload_n 1) 1 77 := ⟨by decide +kernel, rfl⟩
theorem e_X2_join_77 : g_dc cX2_join 77 (.iload_n 2) 1 78 := ⟨by decide +kernel, rfl⟩
theorem e_X2_join_78 : g_dc cX2_join 78 (.irem) 1 79 := ⟨by decide +kernel, rfl⟩
theorem e_X2_join_79 : g_dc cX2_join 79 (.ireturn) 1 80 := ⟨by decide +kernel, rfl⟩
theorem e_X2_join_80 : g_dc cX2_join 80 (.iload_n 1) 1 81 := ⟨by decide +kernel, rfl⟩
theorem e_X2_join_81 : g_dc cX2_join 81 (.iload_n 2) 1 82 := ⟨by decide +kernel, rfl⟩
theorem e_X2_join_82 : g_dc cX2_join 82 (.if_icmp .ge 7) 3 85 := ⟨by decide +kernel, rfl⟩
theorem e_X2_join_85 : g_dc cX2_join 85 (.iconst 1) 1 86 := ⟨by decide +kernel, rfl⟩
theorem e_X2_join_86 : g_dc cX2_join 86 (.goto 4) 3 89 := ⟨by decide +kernel, rfl⟩
theorem e_X2_join_89 : g_dc cX2_join 89 (.iconst 0) 1 90 := ⟨by decide +kernel, rfl⟩
theorem e_X2_join_90 : g_dc cX2_join 90 (.ireturn) 1 91 := ⟨by decide +kernel, rfl⟩
theorem e_X2_join_91 : g_dc cX2_join 91 (.iload_n 1) 1 92 := ⟨by decide +kernel, rfl⟩
theorem e_X2_join_92 : g_dc cX2_join 92 (.iload_n 2) 1 93 := ⟨by decide +kernel, rfl⟩
theorem e_X2_join_93 : g_dc cX2_join 93 (.if_icmp .le 7) 3 96 := ⟨by decide +kernel, rfl⟩
theorem e_X2_join_96 : g_dc cX2_join 96 (.iconst 1) 1 97 := ⟨by decide +kernel, rfl⟩
theorem e_X2_join_97 : g_dc cX2_join 97 (.goto 4) 3 100 := ⟨by decide +kernel, rfl⟩
theorem e_X2_join_100 : g_dc cX2_join 100 (.iconst 0) 1 101 := ⟨by decide +kernel, rfl⟩
theorem e_X2_join_101 : g_dc cX2_join 101 (.ireturn) 1 102 := ⟨by decide +kernel, rfl⟩
theorem e_X2_join_102 : g_dc cX2_join 102 (.iload_n 1) 1 103 := ⟨by decide +kernel, rfl⟩
theorem e_X2_join_103 : g_dc cX2_join 103 (.iload_n 2) 1 104 := ⟨by decide +kernel, rfl⟩
theorem e_X2_join_104 : g_dc cX2_join 104 (.if_icmp .ne 7) 3 107 := ⟨by decide +kernel, rfl⟩
theorem e_X2_join_107 : g_dc cX2_join 107 (.iconst 1) 1 108 := ⟨by decide +kernel, rfl⟩
theorem e_X2_join_108 : g_dc cX2_join 108 (.goto 4) 3 111 := ⟨by decide +kernel, rfl⟩
theorem e_X2_join_111 : g_dc cX2_join 111 (.iconst 0) 1 112 := ⟨by decide +kernel, rfl⟩
theorem e_X2_join_112 : g_dc cX2_join 112 (.ireturn) 1 113 := ⟨by decide +kernel, rfl⟩
set_option maxHeartbeats 4000000 in
set_option maxRecDepth 100000 in
theorem w_X2_join (l : Launch) (X : gX) (ad : Nat → Nat) (F : Nat → Int32) (R : Nat → Nat → Int32) (hI : g_ok LK_wX F) (hA : g_okR LA_wX R) (a0 : Int32) (a1 : Int32) (a2 : Int32) : g_Ci l X yX2_join cX2_join 3 (some .int) 1 0 0 [.int a0, .int a1, .int a2] (wX X ad F R) (fun r w => w = wX X ad F R ∧ jv (-2147483648) 2147483647 r) := by
  refine g_mi (by decide +kernel) (Nat.le_of_ble_eq_true rfl) (fun E cx hret => ?_)
  refine g_iload_n cx 0 rfl e_X2_join_0 ?_
  refine g_topi (fun zy1 ezy1 => ?_)
  rcases g_sw 6 12 zy1 with ⟨zw2n, zw2h, zw2e⟩ | zw2
  · have zw2d : zw2n = 0 ∨ zw2n = 1 ∨ zw2n = 2 ∨ zw2n = 3 ∨ zw2n = 4 ∨ zw2n = 5 ∨ zw2n = 6 := by omega
    rcases zw2d with rfl | rfl | rfl | rfl | rfl | rfl | rfl
    · refine g_tableIn cx 44 e_X2_join_1 (by rw [zw2e]; decide) (by rw [zw2e]; decide) (by rw [zw2e]; rfl) (by decide) ?_
      have p3 : jv 6 6 a0 := by rw [← ezy1]; exact jv_k 6 (by rw [zw2e]; rfl)
      refine g_iload_n cx 1 rfl e_X2_join_44 ?_
      refine g_iload_n cx 2 rfl e_X2_join_45 ?_
      refine g_iadd cx e_X2_join_46 ?_
      refine g_topi (fun x4 ex4 => ?_)
      exact hret e_X2_join_47 (Nat.le_of_ble_eq_true rfl) (Nat.le_of_ble_eq_true rfl) rfl ⟨rfl, (jv_t x4)⟩
    · refine g_tableIn cx 48 e_X2_join_1 (by rw [zw2e]; decide) (by rw [zw2e]; decide) (by rw [zw2e]; rfl) (by decide) ?_
      have p5 : jv 7 7 a0 := by rw [← ezy1]; exact jv_k 7 (by rw [zw2e]; rfl)
      refine g_iload_n cx 1 rfl e_X2_join_48 ?_
      refine g_iload_n cx 2 rfl e_X2_join_49 ?_
      refine g_isub cx e_X2_join_50 ?_
      refine g_topi (fun x6 ex6 => ?_)
      exact hret e_X2_join_51 (Nat.le_of_ble_eq_true rfl) (Nat.le_of_ble_eq_true rfl) rfl ⟨rfl, (jv_t x6)⟩
    · refine g_tableIn cx 52 e_X2_join_1 (by rw [zw2e]; decide) (by rw [zw2e]; decide) (by rw [zw2e]; rfl) (by decide) ?_
      have p7 : jv 8 8 a0 := by rw [← ezy1]; exact jv_k 8 (by rw [zw2e]; rfl)
      refine g_iload_n cx 1 rfl e_X2_join_52 ?_
      refine g_iload_n cx 2 rfl e_X2_join_53 ?_
      refine g_imul cx e_X2_join_54 ?_
      refine g_topi (fun x8 ex8 => ?_)
      exact hret e_X2_join_55 (Nat.le_of_ble_eq_true rfl) (Nat.le_of_ble_eq_true rfl) rfl ⟨rfl, (jv_t x8)⟩
    · refine g_tableIn cx 56 e_X2_join_1 (by rw [zw2e]; decide) (by rw [zw2e]; decide) (by rw [zw2e]; rfl) (by decide) ?_
      have p9 : jv 9 9 a0 := by rw [← ezy1]; exact jv_k 9 (by rw [zw2e]; rfl)
      refine g_iload_n cx 2 rfl e_X2_join_56 ?_
      have J67 : ∀ (y10 : Int32), (jv (-2147483648) 2147483647 y10) → G X E 3 0 0 (wX X ad F R) [] 67 [.int y10] := by
        intro y10 py10
        exact hret e_X2_join_67 (Nat.le_of_ble_eq_true rfl) (Nat.le_of_ble_eq_true rfl) rfl ⟨rfl, py10⟩
      refine g_if_ne cx 64 e_X2_join_57 (by decide) (fun zc11 => ?_) (fun zc11 => ?_)
      · refine g_iload_n cx 1 rfl e_X2_join_64 ?_
        refine g_iload_n cx 2 rfl e_X2_join_65 ?_
        refine g_idiv cx zc11 e_X2_join_66 ?_
        refine g_topi (fun x12 ex12 => ?_)
        refine g_lsub [] [] rfl ?_
        exact J67 x12 (jv_t x12)
      · have p13 := gn_eq 0 0 (gc_eq zc11) (jv_t a2) (jv_k (x := 0) 0 (by decide)) (by decide)
        refine g_iconst cx 0 (by decide) e_X2_join_60 ?_
        refine g_goto cx 67 e_X2_join_61 (by decide) ?_
        refine g_lsub [] [] rfl ?_
        exact J67 0 (jv_w (jv_k (x := 0) 0 (by decide)) (by decide))
    · refine g_tableIn cx 68 e_X2_join_1 (by rw [zw2e]; decide) (by rw [zw2e]; decide) (by rw [zw2e]; rfl) (by decide) ?_
      have p14 : jv 10 10 a0 := by rw [← ezy1]; exact jv_k 10 (by rw [zw2e]; rfl)
      refine g_iload_n cx 2 rfl e_X2_join_68 ?_
      have J79 : ∀ (y15 : Int32), (jv (-2147483648) 2147483647 y15) → G X E 3 0 0 (wX X ad F R) [] 79 [.int y15] := by
        intro y15 py15
        exact hret e_X2_join_79 (Nat.le_of_ble_eq_true rfl) (Nat.le_of_ble_eq_true rfl) rfl ⟨rfl, py15⟩
      refine g_if_ne cx 76 e_X2_join_69 (by decide) (fun zc16 => ?_) (fun zc16 => ?_)
      · refine g_iload_n cx 1 rfl e_X2_join_76 ?_
        refine g_iload_n cx 2 rfl e_X2_join_77 ?_
        refine g_irem cx zc16 e_X2_join_78 ?_
        refine g_topi (fun x17 ex17 => ?_)
        refine g_lsub [] [] rfl ?_
        exact J79 x17 (jv_t x17)
      · have p18 := gn_eq 0 0 (gc_eq zc16) (jv_t a2) (jv_k (x := 0) 0 (by decide)) (by decide)
        refine g_iconst cx 0 (by decide) e_X2_join_72 ?_
        refine g_goto cx 79 e_X2_join_73 (by decide) ?_
        refine g_lsub [] [] rfl ?_
        exact J79 0 (jv_w (jv_k (x := 0) 0 (by decide)) (by decide))
    · refine g_tableIn cx 80 e_X2_join_1 (by rw [zw2e]; decide) (by rw [zw2e]; decide) (by rw [zw2e]; rfl) (by decide) ?_
      have p19 : jv 11 11 a0 := by rw [← ezy1]; exact jv_k 11 (by rw [zw2e]; rfl)
      refine g_iload_n cx 1 rfl e_X2_join_80 ?_
      refine g_iload_n cx 2 rfl e_X2_join_81 ?_
      have J90 : ∀ (y20 : Int32), (jv 0 1 y20) → G X E 3 0 0 (wX X ad F R) [] 90 [.int y20] := by
        intro y20 py20
        exact hret e_X2_join_90 (Nat.le_of_ble_eq_true rfl) (Nat.le_of_ble_eq_true rfl) rfl ⟨rfl, (jv_w py20 (by decide))⟩
      refine g_icmp_ge cx 89 e_X2_join_82 (by decide) (fun zc21 => ?_) (fun zc21 => ?_)
      · refine g_iconst cx 0 (by decide) e_X2_join_89 ?_
        refine g_lsub [] [] rfl ?_
        exact J90 0 (jv_w (jv_k (x := 0) 0 (by decide)) (by decide))
      · have p22 := gn_lt (-2147483648) 2147483646 (gc_nle zc21) (jv_t a1) (jv_t a2) (by decide)
        have p23 := gn_gt (-2147483647) 2147483647 (gc_nle zc21) (jv_t a2) (jv_t a1) (by decide)
        refine g_iconst cx 1 (by decide) e_X2_join_85 ?_
        refine g_goto cx 90 e_X2_join_86 (by decide) ?_
        refine g_lsub [] [] rfl ?_
        exact J90 1 (jv_w (jv_k (x := 1) 1 (by decide)) (by decide))
    · refine g_tableIn cx 91 e_X2_join_1 (by rw [zw2e]; decide) (by rw [zw2e]; decide) (by rw [zw2e]; rfl) (by decide) ?_
      have p24 : jv 12 12 a0 := by rw [← ezy1]; exact jv_k 12 (by rw [zw2e]; rfl)
      refine g_iload_n cx 1 rfl e_X2_join_91 ?_
      refine g_iload_n cx 2 rfl e_X2_join_92 ?_
      have J101 : ∀ (y25 : Int32), (jv 0 1 y25) → G X E 3 0 0 (wX X ad F R) [] 101 [.int y25] := by
        intro y25 py25
        exact hret e_X2_join_101 (Nat.le_of_ble_eq_true rfl) (Nat.le_of_ble_eq_true rfl) rfl ⟨rfl, (jv_w py25 (by decide))⟩
      refine g_icmp_le cx 100 e_X2_join_93 (by decide) (fun zc26 => ?_) (fun zc26 => ?_)
      · refine g_iconst cx 0 (by decide) e_X2_join_100 ?_
        refine g_lsub [] [] rfl ?_
        exact J101 0 (jv_w (jv_k (x := 0) 0 (by decide)) (by decide))
      · have p27 := gn_lt (-2147483648) 2147483646 (gc_nle zc26) (jv_t a2) (jv_t a1) (by decide)
        have p28 := gn_gt (-2147483647) 2147483647 (gc_nle zc26) (jv_t a1) (jv_t a2) (by decide)
        refine g_iconst cx 1 (by decide) e_X2_join_96 ?_
        refine g_goto cx 101 e_X2_join_97 (by decide) ?_
        refine g_lsub [] [] rfl ?_
        exact J101 1 (jv_w (jv_k (x := 1) 1 (by decide)) (by decide))
  · refine g_tableOut cx 102 e_X2_join_1 zw2 (by decide) ?_
    refine g_iload_n cx 1 rfl e_X2_join_102 ?_
    refine g_iload_n cx 2 rfl e_X2_join_103 ?_
    have J112 : ∀ (y29 : Int32), (jv 0 1 y29) → G X E 3 0 0 (wX X ad F R) [] 112 [.int y29] := by
      intro y29 py29
      exact hret e_X2_join_112 (Nat.le_of_ble_eq_true rfl) (Nat.le_of_ble_eq_true rfl) rfl ⟨rfl, (jv_w py29 (by decide))⟩
    refine g_icmp_ne cx 111 e_X2_join_104 (by decide) (fun zc30 => ?_) (fun zc30 => ?_)
    · refine g_iconst cx 0 (by decide) e_X2_join_111 ?_
      refine g_lsub [] [] rfl ?_
      exact J112 0 (jv_w (jv_k (x := 0) 0 (by decide)) (by decide))
    · refine g_iconst cx 1 (by decide) e_X2_join_107 ?_
      refine g_goto cx 112 e_X2_join_108 (by decide) ?_
      refine g_lsub [] [] rfl ?_
      exact J112 1 (jv_w (jv_k (x := 1) 1 (by decide)) (by decide))
theorem e_X2_reckon_0 : g_dc cX2_reckon 0 (.iconst 0) 1 1 := ⟨by decide +kernel, rfl⟩
theorem e_X2_reckon_1 : g_dc cX2_reckon 1 (.istore_n 2) 1 2 := ⟨by decide +kernel, rfl⟩
theorem e_X2_reckon_2 : g_dc cX2_reckon 2 (.iload_n 1) 1 3 := ⟨by decide +kernel, rfl⟩
theorem e_X2_reckon_3 : g_dc cX2_reckon 3 (.istore_n 3) 1 4 := ⟨by decide +kernel, rfl⟩
theorem e_X2_reckon_4 : g_dc cX2_reckon 4 (.iload_n 3) 1 5 := ⟨by decide +kernel, rfl⟩
theorem e_X2_reckon_5 : g_dc cX2_reckon 5 (.ifCond .lt 277) 3 8 := ⟨by decide +kernel, rfl⟩
theorem e_X2_reckon_8 : g_dc cX2_reckon 8 (.iload_n 3) 1 9 := ⟨by decide +kernel, rfl⟩
theorem e_X2_reckon_9 : g_dc cX2_reckon 9 (.aload_n 0) 1 10 := ⟨by decide +kernel, rfl⟩
theorem e_X2_reckon_10 : g_dc cX2_reckon 10 (.getfield 18) 3 13 := ⟨by decide +kernel, rfl⟩
theorem e_X2_reckon_13 : g_dc cX2_reckon 13 (.if_icmp .ge 269) 3 16 := ⟨by decide +kernel, rfl⟩
theorem e_X2_reckon_16 : g_dc cX2_reckon 16 (.iload_n 3) 1 17 := ⟨by decide +kernel, rfl⟩
theorem e_X2_reckon_17 : g_dc cX2_reckon 17 (.sipush 256) 3 20 := ⟨by decide +kernel, rfl⟩
theorem e_X2_reckon_20 : g_dc cX2_reckon 20 (.if_icmp .ge 262) 3 23 := ⟨by decide +kernel, rfl⟩
theorem e_X2_reckon_23 : g_dc cX2_reckon 23 (.aload_n 0) 1 24 := ⟨by decide +kernel, rfl⟩
theorem e_X2_reckon_24 : g_dc cX2_reckon 24 (.getfield 11) 3 27 := ⟨by decide +kernel, rfl⟩
theorem e_X2_reckon_27 : g_dc cX2_reckon 27 (.iload_n 3) 1 28 := ⟨by decide +kernel, rfl⟩
theorem e_X2_reckon_28 : g_dc cX2_reckon 28 (.iaload) 1 29 := ⟨by decide +kernel, rfl⟩
theorem e_X2_reckon_29 : g_dc cX2_reckon 29 (.ifCond .eq 253) 3 32 := ⟨by decide +kernel, rfl⟩
theorem e_X2_reckon_32 : g_dc cX2_reckon 32 (.aload_n 0) 1 33 := ⟨by decide +kernel, rfl⟩
theorem e_X2_reckon_33 : g_dc cX2_reckon 33 (.getfield 11) 3 36 := ⟨by decide +kernel, rfl⟩
theorem e_X2_reckon_36 : g_dc cX2_reckon 36 (.iload_n 3) 1 37 := ⟨by decide +kernel, rfl⟩
theorem e_X2_reckon_37 : g_dc cX2_reckon 37 (.iaload) 1 38 := ⟨by decide +kernel, rfl⟩
theorem e_X2_reckon_38 : g_dc cX2_reckon 38 (.istore 4) 2 40 := ⟨by decide +kernel, rfl⟩
theorem e_X2_reckon_40 : g_dc cX2_reckon 40 (.aload_n 0) 1 41 := ⟨by decide +kernel, rfl⟩
theorem e_X2_reckon_41 : g_dc cX2_reckon 41 (.getfield 15) 3 44 := ⟨by decide +kernel, rfl⟩
theorem e_X2_reckon_44 : g_dc cX2_reckon 44 (.iload_n 3) 1 45 := ⟨by decide +kernel, rfl⟩
theorem e_X2_reckon_45 : g_dc cX2_reckon 45 (.iaload) 1 46 := ⟨by decide +kernel, rfl⟩
theorem e_X2_reckon_46 : g_dc cX2_reckon 46 (.istore 5) 2 48 := ⟨by decide +kernel, rfl⟩
theorem e_X2_reckon_48 : g_dc cX2_reckon 48 (.iload 4) 2 50 := ⟨by decide +kernel, rfl⟩
theorem e_X2_reckon_50 : g_dc cX2_reckon 50 (.iconst 1) 1 51 := ⟨by decide +kernel, rfl⟩
theorem e_X2_reckon_51 : g_dc cX2_reckon 51 (.if_icmp .eq 9) 3 54 := ⟨by decide +kernel, rfl⟩
theorem e_X2_reckon_54 : g_dc cX2_reckon 54 (.iload 4) 2 56 := ⟨by decide +kernel, rfl⟩
theorem e_X2_reckon_56 : g_dc cX2_reckon 56 (.iconst 2) 1 57 := ⟨by decide +kernel, rfl⟩
theorem e_X2_reckon_57 : g_dc cX2_reckon 57 (.if_icmp .ne 40) 3 60 := ⟨by decide +kernel, rfl⟩
theorem e_X2_reckon_60 : g_dc cX2_reckon 60 (.iload_n 2) 1 61 := ⟨by decide +kernel, rfl⟩
theorem e_X2_reckon_61 : g_dc cX2_reckon 61 (.bipush 32) 2 63 := ⟨by decide +kernel, rfl⟩
theorem e_X2_reckon_63 : g_dc cX2_reckon 63 (.if_icmp .lt 5) 3 66 := ⟨by decide +kernel, rfl⟩
theorem e_X2_reckon_66 : g_dc cX2_reckon 66 (.iconst 0) 1 67 := ⟨by decide +kernel, rfl⟩
theorem e_X2_reckon_67 : g_dc cX2_reckon 67 (.ireturn) 1 68 := ⟨by decide +kernel, rfl⟩
theorem e_X2_reckon_68 : g_dc cX2_reckon 68 (.aload_n 0) 1 69 := ⟨by decide +kernel, rfl⟩
theorem e_X2_reckon_69 : g_dc cX2_reckon 69 (.getfield 37) 3 72 := ⟨by decide +kernel, rfl⟩
theorem e_X2_reckon_72 : g_dc cX2_reckon 72 (.iload_n 2) 1 73 := ⟨by decide +kernel, rfl⟩
theorem e_X2_reckon_73 : g_dc cX2_reckon 73 (.iload 4) 2 75 := ⟨by decide +kernel, rfl⟩
theorem e_X2_reckon_75 : g_dc cX2_reckon 75 (.iconst 1) 1 76 := ⟨by decide +kernel, rfl⟩
theorem e_X2_reckon_76 : g_dc cX2_reckon 76 (.if_icmp .ne 8) 3 79 := ⟨by decide +kernel, rfl⟩
theorem e_X2_reckon_79 : g_dc cX2_reckon 79 (.iload 5) 2 81 := ⟨by decide +kernel, rfl⟩
theorem e_X2_reckon_81 : g_dc cX2_reckon 81 (.goto 9) 3 84 := ⟨by decide +kernel, rfl⟩
theorem e_X2_reckon_84 : g_dc cX2_reckon 84 (.aload_n 0) 1 85 := ⟨by decide +kernel, rfl⟩
theorem e_X2_reckon_85 : g_dc cX2_reckon 85 (.iload 5) 2 87 := ⟨by decide +kernel, rfl⟩
theorem e_X2_reckon_87 : g_dc cX2_reckon 87 (.invokevirtual 69) 3 90 := ⟨by decide +kernel, rfl⟩
theorem e_X2_reckon_90 : g_dc cX2_reckon 90 (.iastore) 1 91 := ⟨by decide +kernel, rfl⟩
theorem e_X2_reckon_91 : g_dc cX2_reckon 91 (.iinc 2 1) 3 94 := ⟨by decide +kernel, rfl⟩
theorem e_X2_reckon_94 : g_dc cX2_reckon 94 (.goto 182) 3 97 := ⟨by decide +kernel, rfl⟩
theorem e_X2_reckon_97 : g_dc cX2_reckon 97 (.iload_n 2) 1 98 := ⟨by decide +kernel, rfl⟩
theorem e_X2_reckon_98 : g_dc cX2_reckon 98 (.iconst 1) 1 99 := ⟨by decide +kernel, rfl⟩
theorem e_X2_reckon_99 : g_dc cX2_reckon 99 (.if_icmp .ge 5) 3 102 := ⟨by decide +kernel, rfl⟩
theorem e_X2_reckon_102 : g_dc cX2_reckon 102 (.iconst 0) 1 103 := ⟨by decide +kernel, rfl⟩
theorem e_X2_reckon_103 : g_dc cX2_reckon 103 (.ireturn) 1 104 := ⟨by decide +kernel, rfl⟩
theorem e_X2_reckon_104 : g_dc cX2_reckon 104 (.iload 4) 2 106 := ⟨by decide +kernel, rfl⟩
theorem e_X2_reckon_106 : g_dc cX2_reckon 106 (.iconst 3) 1 107 := ⟨by decide +kernel, rfl⟩
theorem e_X2_reckon_107 : g_dc cX2_reckon 107 (.if_icmp .ne 24) 3 110 := ⟨by decide +kernel, rfl⟩
theorem e_X2_reckon_110 : g_dc cX2_reckon 110 (.aload_n 0) 1 111 := ⟨by decide +kernel, rfl⟩
theorem e_X2_reckon_111 : g_dc cX2_reckon 111 (.getfield 37) 3 114 := ⟨by decide +kernel, rfl⟩
theorem e_X2_reckon_114 : g_dc cX2_reckon 114 (.iload_n 2) 1 115 := ⟨by decide +kernel, rfl⟩
theorem e_X2_reckon_115 : g_dc cX2_reckon 115 (.iconst 1) 1 116 := ⟨by decide +kernel, rfl⟩
theorem e_X2_reckon_116 : g_dc cX2_reckon 116 (.isub) 1 117 := ⟨by decide +kernel, rfl⟩
theorem e_X2_reckon_117 : g_dc cX2_reckon 117 (.iconst 1) 1 118 := ⟨by decide +kernel, rfl⟩
theorem e_X2_reckon_118 : g_dc cX2_reckon 118 (.aload_n 0) 1 119 := ⟨by decide +kernel, rfl⟩
theorem e_X2_reckon_119 : g_dc cX2_reckon 119 (.getfield 37) 3 122 := ⟨by decide +kernel, rfl⟩
theorem e_X2_reckon_122 : g_dc cX2_reckon 122 (.iload_n 2) 1 123 := ⟨by decide +kernel, rfl⟩
theorem e_X2_reckon_123 : g_dc cX2_reckon 123 (.iconst 1) 1 124 := ⟨by decide +kernel, rfl⟩
theorem e_X2_reckon_124 : g_dc cX2_reckon 124 (.isub) 1 125 := ⟨by decide +kernel, rfl⟩
theorem e_X2_reckon_125 : g_dc cX2_reckon 125 (.iaload) 1 126 := ⟨by decide +kernel, rfl⟩
theorem e_X2_reckon_126 : g_dc cX2_reckon 126 (.isub) 1 127 := ⟨by decide +kernel, rfl⟩
theorem e_X2_reckon_127 : g_dc cX2_reckon 127 (.iastore) 1 128 := ⟨by decide +kernel, rfl⟩
theorem e_X2_reckon_128 : g_dc cX2_reckon 128 (.goto 148) 3 131 := ⟨by decide +kernel, rfl⟩
theorem e_X2_reckon_131 : g_dc cX2_reckon 131 (.iload 4) 2 133 := ⟨by decide +kernel, rfl⟩
theorem e_X2_reckon_133 : g_dc cX2_reckon 133 (.iconst 4) 1 134 := ⟨by decide +kernel, rfl⟩
theorem e_X2_reckon_134 : g_dc cX2_reckon 134 (.if_icmp .eq 9) 3 137 := ⟨by decide +kernel, rfl⟩
theorem e_X2_reckon_137 : g_dc cX2_reckon 137 (.iload 4) 2 139 := ⟨by decide +kernel, rfl⟩
theorem e_X2_reckon_139 : g_dc cX2_reckon 139 (.iconst 5) 1 140 := ⟨by decide +kernel, rfl⟩
theorem e_X2_reckon_140 : g_dc cX2_reckon 140 (.if_icmp .ne 74) 3 143 := ⟨by decide +kernel, rfl⟩
theorem e_X2_reckon_143 : g_dc cX2_reckon 143 (.aload_n 0) 1 144 := ⟨by decide +kernel, rfl⟩
theorem e_X2_reckon_144 : g_dc cX2_reckon 144 (.getfield 37) 3 147 := ⟨by decide +kernel, rfl⟩
theorem e_X2_reckon_147 : g_dc cX2_reckon 147 (.iload_n 2) 1 148 := ⟨by decide +kernel, rfl⟩
theorem e_X2_reckon_148 : g_dc cX2_reckon 148 (.iconst 1) 1 149 := ⟨by decide +kernel, rfl⟩
theorem e_X2_reckon_149 : g_dc cX2_reckon 149 (.isub) 1 150 := ⟨by decide +kernel, rfl⟩
theorem e_X2_reckon_150 : g_dc cX2_reckon 150 (.iaload) 1 151 := ⟨by decide +kernel, rfl⟩
theorem e_X2_reckon_151 : g_dc cX2_reckon 151 (.ifCond .eq 7) 3 154 := ⟨by decide +kernel, rfl⟩
theorem e_X2_reckon_154 : g_dc cX2_reckon 154 (.iconst 1) 1 155 := ⟨by decide +kernel, rfl⟩
theorem e_X2_reckon_155 : g_dc cX2_reckon 155 (.goto 4) 3 158 := ⟨by decide +kernel, rfl⟩
theorem e_X2_reckon_158 : g_dc cX2_reckon 158 (.iconst 0) 1 159 := ⟨by decide +kernel, rfl⟩
theorem e_X2_reckon_159 : g_dc cX2_reckon 159 (.iload 4) 2 161 := ⟨by decide +kernel, rfl⟩
theorem e_X2_reckon_161 : g_dc cX2_reckon 161 (.iconst 5) 1 162 := ⟨by decide +kernel, rfl⟩
theorem e_X2_reckon_162 : g_dc cX2_reckon 162 (.if_icmp .ne 7) 3 165 := ⟨by decide +kernel, rfl⟩
theorem e_X2_reckon_165 : g_dc cX2_reckon 165 (.iconst 1) 1 166 := ⟨by decide +kernel, rfl⟩
theorem e_X2_reckon_166 : g_dc cX2_reckon 166 (.goto 4) 3 169 := ⟨by decide +kernel, rfl⟩
theorem e_X2_reckon_169 : g_dc cX2_reckon 169 (.iconst 0) 1 170 := ⟨by decide +kernel, rfl⟩
theorem e_X2_reckon_170 : g_dc cX2_reckon 170 (.if_icmp .ne 7) 3 173 := ⟨by decide +kernel, rfl⟩
theorem e_X2_reckon_173 : g_dc cX2_reckon 173 (.iconst 1) 1 174 := ⟨by decide +kernel, rfl⟩
theorem e_X2_reckon_174 : g_dc cX2_reckon 174 (.goto 4) 3 177 := ⟨by decide +kernel, rfl⟩
theorem e_X2_reckon_177 : g_dc cX2_reckon 177 (.iconst 0) 1 178 := ⟨by decide +kernel, rfl⟩
theorem e_X2_reckon_178 : g_dc cX2_reckon 178 (.istore 6) 2 180 := ⟨by decide +kernel, rfl⟩
theorem e_X2_reckon_180 : g_dc cX2_reckon 180 (.iload 6) 2 182 := ⟨by decide +kernel, rfl⟩
theorem e_X2_reckon_182 : g_dc cX2_reckon 182 (.ifCond .eq 14) 3 185 := ⟨by decide +kernel, rfl⟩
theorem e_X2_reckon_185 : g_dc cX2_reckon 185 (.iload_n 3) 1 186 := ⟨by decide +kernel, rfl⟩
theorem e_X2_reckon_186 : g_dc cX2_reckon 186 (.iload 5) 2 188 := ⟨by decide +kernel, rfl⟩
theorem e_X2_reckon_188 : g_dc cX2_reckon 188 (.iconst 1) 1 189 := ⟨by decide +kernel, rfl⟩
theorem e_X2_reckon_189 : g_dc cX2_reckon 189 (.isub) 1 190 := ⟨by decide +kernel, rfl⟩
theorem e_X2_reckon_190 : g_dc cX2_reckon 190 (.invokestatic 66) 3 193 := ⟨by decide +kernel, rfl⟩
theorem e_X2_reckon_193 : g_dc cX2_reckon 193 (.goto 4) 3 196 := ⟨by decide +kernel, rfl⟩
theorem e_X2_reckon_196 : g_dc cX2_reckon 196 (.iload_n 3) 1 197 := ⟨by decide +kernel, rfl⟩
theorem e_X2_reckon_197 : g_dc cX2_reckon 197 (.istore_n 3) 1 198 := ⟨by decide +kernel, rfl⟩
theorem e_X2_reckon_198 : g_dc cX2_reckon 198 (.iload 6) 2 200 := ⟨by decide +kernel, rfl⟩
theorem e_X2_reckon_200 : g_dc cX2_reckon 200 (.ifCond .eq 7) 3 203 := ⟨by decide +kernel, rfl⟩
theorem e_X2_reckon_203 : g_dc cX2_reckon 203 (.iload_n 2) 1 204 := ⟨by decide +kernel, rfl⟩
theorem e_X2_reckon_204 : g_dc cX2_reckon 204 (.goto 6) 3 207 := ⟨by decide +kernel, rfl⟩
theorem e_X2_reckon_207 : g_dc cX2_reckon 207 (.iload_n 2) 1 208 := ⟨by decide +kernel, rfl⟩
theorem e_X2_reckon_208 : g_dc cX2_reckon 208 (.iconst 1) 1 209 := ⟨by decide +kernel, rfl⟩
theorem e_X2_reckon_209 : g_dc cX2_reckon 209 (.isub) 1 210 := ⟨by decide +kernel, rfl⟩
theorem e_X2_reckon_210 : g_dc cX2_reckon 210 (.istore_n 2) 1 211 := ⟨by decide +kernel, rfl⟩
theorem e_X2_reckon_211 : g_dc cX2_reckon 211 (.goto 65) 3 214 := ⟨by decide +kernel, rfl⟩
theorem e_X2_reckon_214 : g_dc cX2_reckon 214 (.iload_n 2) 1 215 := ⟨by decide +kernel, rfl⟩
theorem e_X2_reckon_215 : g_dc cX2_reckon 215 (.iconst 2) 1 216 := ⟨by decide +kernel, rfl⟩
theorem e_X2_reckon_216 : g_dc cX2_reckon 216 (.if_icmp .lt 28) 3 219 := ⟨by decide +kernel, rfl⟩
theorem e_X2_reckon_219 : g_dc cX2_reckon 219 (.aload_n 0) 1 220 := ⟨by decide +kernel, rfl⟩
theorem e_X2_reckon_220 : g_dc cX2_reckon 220 (.getfield 37) 3 223 := ⟨by decide +kernel, rfl⟩
theorem e_X2_reckon_223 : g_dc cX2_reckon 223 (.iload_n 2) 1 224 := ⟨by decide +kernel, rfl⟩
theorem e_X2_reckon_224 : g_dc cX2_reckon 224 (.iconst 1) 1 225 := ⟨by decide +kernel, rfl⟩
theorem e_X2_reckon_225 : g_dc cX2_reckon 225 (.isub) 1 226 := ⟨by decide +kernel, rfl⟩
theorem e_X2_reckon_226 : g_dc cX2_reckon 226 (.iaload) 1 227 := ⟨by decide +kernel, rfl⟩
theorem e_X2_reckon_227 : g_dc cX2_reckon 227 (.ifCond .ne 19) 3 230 := ⟨by decide +kernel, rfl⟩
theorem e_X2_reckon_230 : g_dc cX2_reckon 230 (.iload 4) 2 232 := ⟨by decide +kernel, rfl⟩
theorem e_X2_reckon_232 : g_dc cX2_reckon 232 (.bipush 9) 2 234 := ⟨by decide +kernel, rfl⟩
theorem e_X2_reckon_234 : g_dc cX2_reckon 234 (.if_icmp .eq 10) 3 237 := ⟨by decide +kernel, rfl⟩
theorem e_X2_reckon_237 : g_dc cX2_reckon 237 (.iload 4) 2 239 := ⟨by decide +kernel, rfl⟩
theorem e_X2_reckon_239 : g_dc cX2_reckon 239 (.bipush 10) 2 241 := ⟨by decide +kernel, rfl⟩
theorem e_X2_reckon_241 : g_dc cX2_reckon 241 (.if_icmp .ne 5) 3 244 := ⟨by decide +kernel, rfl⟩
theorem e_X2_reckon_244 : g_dc cX2_reckon 244 (.iconst 0) 1 245 := ⟨by decide +kernel, rfl⟩
theorem e_X2_reckon_245 : g_dc cX2_reckon 245 (.ireturn) 1 246 := ⟨by decide +kernel, rfl⟩
theorem e_X2_reckon_246 : g_dc cX2_reckon 246 (.iinc 2 (-1)) 3 249 := ⟨by decide +kernel, rfl⟩
theorem e_X2_reckon_249 : g_dc cX2_reckon 249 (.aload_n 0) 1 250 := ⟨by decide +kernel, rfl⟩
theorem e_X2_reckon_250 : g_dc cX2_reckon 250 (.getfield 37) 3 253 := ⟨by decide +kernel, rfl⟩
theorem e_X2_reckon_253 : g_dc cX2_reckon 253 (.iload_n 2) 1 254 := ⟨by decide +kernel, rfl⟩
theorem e_X2_reckon_254 : g_dc cX2_reckon 254 (.iconst 1) 1 255 := ⟨by decide +kernel, rfl⟩
theorem e_X2_reckon_255 : g_dc cX2_reckon 255 (.isub) 1 256 := ⟨by decide +kernel, rfl⟩
theorem e_X2_reckon_256 : g_dc cX2_reckon 256 (.iload 4) 2 258 := ⟨by decide +kernel, rfl⟩
theorem e_X2_reckon_258 : g_dc cX2_reckon 258 (.aload_n 0) 1 259 := ⟨by decide +kernel, rfl⟩
theorem e_X2_reckon_259 : g_dc cX2_reckon 259 (.getfield 37) 3 262 := ⟨by decide +kernel, rfl⟩
theorem e_X2_reckon_262 : g_dc cX2_reckon 262 (.iload_n 2) 1 263 := ⟨by decide +kernel, rfl⟩
theorem e_X2_reckon_263 : g_dc cX2_reckon 263 (.iconst 1) 1 264 := ⟨by decide +kernel, rfl⟩
theorem e_X2_reckon_264 : g_dc cX2_reckon 264 (.isub) 1 265 := ⟨by decide +kernel, rfl⟩
theorem e_X2_reckon_265 : g_dc cX2_reckon 265 (.iaload) 1 266 := ⟨by decide +kernel, rfl⟩
theorem e_X2_reckon_266 : g_dc cX2_reckon 266 (.aload_n 0) 1 267 := ⟨by decide +kernel, rfl⟩
theorem e_X2_reckon_267 : g_dc cX2_reckon 267 (.getfield 37) 3 270 := ⟨by decide +kernel, rfl⟩
theorem e_X2_reckon_270 : g_dc cX2_reckon 270 (.iload_n 2) 1 271 := ⟨by decide +kernel, rfl⟩
theorem e_X2_reckon_271 : g_dc cX2_reckon 271 (.iaload) 1 272 := ⟨by decide +kernel, rfl⟩
theorem e_X2_reckon_272 : g_dc cX2_reckon 272 (.invokestatic 72) 3 275 := ⟨by decide +kernel, rfl⟩
theorem e_X2_reckon_275 : g_dc cX2_reckon 275 (.iastore) 1 276 := ⟨by decide +kernel, rfl⟩
theorem e_X2_reckon_276 : g_dc cX2_reckon 276 (.iinc 3 1) 3 279 := ⟨by decide +kernel, rfl⟩
theorem e_X2_reckon_279 : g_dc cX2_reckon 279 (.goto (-275)) 3 282 := ⟨by decide +kernel, rfl⟩
theorem e_X2_reckon_282 : g_dc cX2_reckon 282 (.iload_n 2) 1 283 := ⟨by decide +kernel, rfl⟩
theorem e_X2_reckon_283 : g_dc cX2_reckon 283 (.ifCond .le 14) 3 286 := ⟨by decide +kernel, rfl⟩
theorem e_X2_reckon_286 : g_dc cX2_reckon 286 (.aload_n 0) 1 287 := ⟨by decide +kernel, rfl⟩
theorem e_X2_reckon_287 : g_dc cX2_reckon 287 (.getfield 37) 3 290 := ⟨by decide +kernel, rfl⟩
theorem e_X2_reckon_290 : g_dc cX2_reckon 290 (.iload_n 2) 1 291 := ⟨by decide +kernel, rfl⟩
theorem e_X2_reckon_291 : g_dc cX2_reckon 291 (.iconst 1) 1 292 := ⟨by decide +kernel, rfl⟩
theorem e_X2_reckon_292 : g_dc cX2_reckon 292 (.isub) 1 293 := ⟨by decide +kernel, rfl⟩
theorem e_X2_reckon_293 : g_dc cX2_reckon 293 (.iaload) 1 294 := ⟨by decide +kernel, rfl⟩
theorem e_X2_reckon_294 : g_dc cX2_reckon 294 (.goto 4) 3 297 := ⟨by decide +kernel, rfl⟩
theorem e_X2_reckon_297 : g_dc cX2_reckon 297 (.iconst 0) 1 298 := ⟨by decide +kernel, rfl⟩
theorem e_X2_reckon_298 : g_dc cX2_reckon 298 (.ireturn) 1 299 := ⟨by decide +kernel, rfl⟩
def md_X2_reckon_17 : List Nat := []
def mr_X2_reckon_17 : List Nat := [24]
set_option maxHeartbeats 4000000 in
set_option maxRecDepth 100000 in
theorem w_X2_reckon_17 (l : Launch) (X : gX) (ad : Nat → Nat) (F : Nat → Int32) (R : Nat → Nat → Int32) (hI : g_ok LK_wX F) (hA : g_okR LA_wX R) (a0 : Int32) : g_Ci l X yX2_reckon cX2_reckon 7 (some .int) 2 0 0 [.ref (ad 17), .int a0] (wX X ad F R) (fun r w => ∃ (F' : Nat → Int32) (R' : Nat → Nat → Int32), w = wX X ad F' R' ∧ g_ok LK_wX F' ∧ g_okR LA_wX R' ∧ g_fr md_X2_reckon_17 F F' ∧ g_fr mr_X2_reckon_17 R R' ∧ jv (-2147483648) 2147483647 r) := by
  refine g_mi (by decide +kernel) (Nat.le_of_ble_eq_true rfl) (fun E cx hret => ?_)
  refine g_iconst cx 0 (by decide) e_X2_reckon_0 ?_
  refine g_istore_n cx [(2, .int 0), (0, .ref (ad 17)), (1, .int a0)] e_X2_reckon_1 (by decide) rfl ?_
  refine g_iload_n cx 2 rfl e_X2_reckon_2 ?_
  refine g_istore_n cx [(3, .int a0), (2, .int 0), (0, .ref (ad 17)), (1, .int a0)] e_X2_reckon_3 (by decide) rfl ?_
  have J4 : ∀ (N : Nat) (R3 : Nat → Nat → Int32) (y1 : Int32) (y2 : Int32), (g_okR LA_wX R3) → (g_fr mr_X2_reckon_17 R R3) → (jv 0 32 y1) → (jv (-2147483648) 2147483647 y2) → g_mz y2 < N → G X E 7 0 0 (wX X ad F R3) [(0, .ref (ad 17)), (2, .int y1), (3, .int y2)] 4 [] := by
    intro N
    induction N with
    | zero => intro R3 y1 y2 oR3 fR3 py1 py2 hm; exact absurd hm (Nat.not_lt_zero _)
    | succ N ih4 =>
      intro R3 y1 y2 oR3 fR3 py1 py2 hm4
      refine g_iload_n cx 2 rfl e_X2_reckon_4 ?_
      have J282 : G X E 7 0 0 (wX X ad F R3) [(0, .ref (ad 17)), (2, .int y1)] 282 [] := by
        refine g_iload_n cx 1 rfl e_X2_reckon_282 ?_
        have J298 : ∀ (y4 : Int32), (jv (-2147483648) 2147483647 y4) → G X E 7 0 0 (wX X ad F R3) [] 298 [.int y4] := by
          intro y4 py4
          exact hret e_X2_reckon_298 (Nat.le_of_ble_eq_true rfl) (Nat.le_of_ble_eq_true rfl) rfl ⟨F, R3, rfl, hI, oR3, (g_fr_rf F), fR3, py4⟩
        refine g_if_le cx 297 e_X2_reckon_283 (by decide) (fun zc5 => ?_) (fun zc5 => ?_)
        · have p6 := gn_le 0 0 (gc_le zc5) py1 (jv_k (x := 0) 0 (by decide)) (by decide)
          refine g_iconst cx 0 (by decide) e_X2_reckon_297 ?_
          refine g_lsub [] [] rfl ?_
          exact J298 0 (jv_w (jv_k (x := 0) 0 (by decide)) (by decide))
        · have p7 := gn_gt 1 32 (gc_nle zc5) py1 (jv_k (x := 0) 0 (by decide)) (by decide)
          refine g_aload_n cx 0 rfl e_X2_reckon_286 ?_
          refine g_get cx cl_X2 fl_X2_37 17 (.ref (ad 24)) e_X2_reckon_287 rfl rfl ?_
          refine g_iload_n cx 1 rfl e_X2_reckon_290 ?_
          refine g_iconst cx 1 (by decide) e_X2_reckon_291 ?_
          refine g_isub cx e_X2_reckon_292 ?_
          refine g_topi (fun x8 ex8 => ?_)
          have zx8 := jv_sub 0 31 ex8 p7 (jv_k (x := 1) 1 (by decide)) (by decide)
          refine g_iald cx 24 e_X2_reckon_293 rfl (jv_ix 32 zx8.2 (by decide)) ?_
          refine g_topi (fun x9 ex9 => ?_)
          refine g_goto cx 298 e_X2_reckon_294 (by decide) ?_
          refine g_lsub [] [] rfl ?_
          exact J298 x9 (jv_t x9)
      refine g_if_lt cx 282 e_X2_reckon_5 (by decide) (fun zc10 => ?_) (fun zc10 => ?_)
      · have p11 := gn_lt (-2147483648) (-1) (gc_lt zc10) py2 (jv_k (x := 0) 0 (by decide)) (by decide)
        refine g_lsub [0, 1] [(0, .ref (ad 17)), (2, .int y1)] rfl ?_
        exact J282  
      · have p12 := gn_ge 0 2147483647 (gc_nlt zc10) py2 (jv_k (x := 0) 0 (by decide)) (by decide)
        refine g_iload_n cx 2 rfl e_X2_reckon_8 ?_
        refine g_aload_n cx 0 rfl e_X2_reckon_9 ?_
        refine g_get cx cl_X2 fl_X2_18 17 (.int (F 274)) e_X2_reckon_10 rfl rfl ?_
        refine g_icmp_ge cx 282 e_X2_reckon_13 (by decide) (fun zc13 => ?_) (fun zc13 => ?_)
        · refine g_lsub [0, 1] [(0, .ref (ad 17)), (2, .int y1)] rfl ?_
          exact J282  
        · have p14 := gn_lt 0 255 (gc_nle zc13) p12 (g_ok_g hI 5 rfl) (by decide)
          have p15 := gn_gt 1 256 (gc_nle zc13) (g_ok_g hI 5 rfl) p12 (by decide)
          refine g_iload_n cx 2 rfl e_X2_reckon_16 ?_
          refine g_sipush cx 256 (by decide) e_X2_reckon_17 ?_
          refine g_icmp_ge cx 282 e_X2_reckon_20 (by decide) (fun zc16 => ?_) (fun zc16 => ?_)
          · exact (gf_le (gc_le zc16) (jv_k (x := 256) 256 (by decide)) p14 (by decide)).elim
          · refine g_aload_n cx 0 rfl e_X2_reckon_23 ?_
            refine g_get cx cl_X2 fl_X2_11 17 (.ref (ad 18)) e_X2_reckon_24 rfl rfl ?_
            refine g_iload_n cx 2 rfl e_X2_reckon_27 ?_
            refine g_iald cx 18 e_X2_reckon_28 rfl (jv_ix 256 p14 (by decide)) ?_
            refine g_topi (fun x17 ex17 => ?_)
            refine g_if_eq cx 282 e_X2_reckon_29 (by decide) (fun zc18 => ?_) (fun zc18 => ?_)
            · have p19 := gn_eq 0 0 (gc_eq zc18) (jv_t x17) (jv_k (x := 0) 0 (by decide)) (by decide)
              refine g_lsub [0, 1] [(0, .ref (ad 17)), (2, .int y1)] rfl ?_
              exact J282  
            · refine g_aload_n cx 0 rfl e_X2_reckon_32 ?_
              refine g_get cx cl_X2 fl_X2_11 17 (.ref (ad 18)) e_X2_reckon_33 rfl rfl ?_
              refine g_iload_n cx 2 rfl e_X2_reckon_36 ?_
              refine g_iald cx 18 e_X2_reckon_37 rfl (jv_ix 256 p14 (by decide)) ?_
              refine g_topi (fun x20 ex20 => ?_)
              refine g_istore cx [(4, .int x20), (0, .ref (ad 17)), (2, .int y1), (3, .int y2)] e_X2_reckon_38 (by decide) rfl ?_
              refine g_aload_n cx 1 rfl e_X2_reckon_40 ?_
              refine g_get cx cl_X2 fl_X2_15 17 (.ref (ad 19)) e_X2_reckon_41 rfl rfl ?_
              refine g_iload_n cx 3 rfl e_X2_reckon_44 ?_
              refine g_iald cx 19 e_X2_reckon_45 rfl (jv_ix 256 p14 (by decide)) ?_
              refine g_topi (fun x21 ex21 => ?_)
              refine g_istore cx [(5, .int x21), (4, .int x20), (0, .ref (ad 17)), (2, .int y1), (3, .int y2)] e_X2_reckon_46 (by decide) rfl ?_
              refine g_iload cx 1 rfl e_X2_reckon_48 ?_
              refine g_iconst cx 1 (by decide) e_X2_reckon_50 ?_
              have J276 : ∀ (R24 : Nat → Nat → Int32) (y22 : Int32) (y23 : Int32), (g_okR LA_wX R24) → (g_fr mr_X2_reckon_17 R R24) → (jv 0 32 y22) → (jv 0 2147483647 y23) → (y2.toInt ≤ y23.toInt) → G X E 7 0 0 (wX X ad F R24) [(0, .ref (ad 17)), (2, .int y22), (3, .int y23)] 276 [] := by
                intro R24 y22 y23 oR24 fR24 py22 py23 zi276_0
                obtain ⟨x25, ex25⟩ : ∃ z : Int32, z = y23 + Int32.ofInt 1 := ⟨_, rfl⟩
                refine g_iinc cx x25 [(3, .int x25), (0, .ref (ad 17)), (2, .int y22)] 2 e_X2_reckon_276 rfl ex25.symm (by decide) rfl ?_
                refine g_goto cx 4 e_X2_reckon_279 (by decide) ?_
                refine g_lsub [1, 2, 0] [(0, .ref (ad 17)), (2, .int y22), (3, .int x25)] rfl ?_
                exact ih4 R24 y22 x25 oR24 fR24 py22 (jv_t x25) (Nat.lt_of_lt_of_le (show g_mz x25 < g_mz y2 from g_mz_lt p14 (show x25 = y23 + 1 from ex25) (by have q0 := (jv_k (x := 0) 0 (by decide)).1; have q1 := (jv_k (x := 0) 0 (by decide)).2; have q2 := (jv_k (x := 256) 256 (by decide)).1; have q3 := (jv_k (x := 256) 256 (by decide)).2; have q4 := p15.1; have q5 := p15.2; have q6 := (jv_t x17).1; have q7 := (jv_t x17).2; have q8 := p14.1; have q9 := p14.2; have q10 := py23.1; have q11 := py23.2; have q12 := (gc_nlt zc10); have q13 := (gc_nle zc13); have q14 := (gc_nle zc16); have q15 := (gc_ne zc18); have q16 := zi276_0; omega)) (Nat.le_of_lt_succ hm4))
              have J60 : G X E 7 0 0 (wX X ad F R3) [(0, .ref (ad 17)), (2, .int y1), (3, .int y2), (4, .int x20), (5, .int x21)] 60 [] := by
                refine g_iload_n cx 1 rfl e_X2_reckon_60 ?_
                refine g_bipush cx 32 (by decide) e_X2_reckon_61 ?_
                refine g_icmp_lt cx 68 e_X2_reckon_63 (by decide) (fun zc26 => ?_) (fun zc26 => ?_)
                · have p27 := gn_lt 0 31 (gc_lt zc26) py1 (jv_k (x := 32) 32 (by decide)) (by decide)
                  refine g_aload_n cx 0 rfl e_X2_reckon_68 ?_
                  refine g_get cx cl_X2 fl_X2_37 17 (.ref (ad 24)) e_X2_reckon_69 rfl rfl ?_
                  refine g_iload_n cx 1 rfl e_X2_reckon_72 ?_
                  refine g_iload cx 3 rfl e_X2_reckon_73 ?_
                  refine g_iconst cx 1 (by decide) e_X2_reckon_75 ?_
                  have J90 : ∀ (y28 : Int32), (jv (-2147483648) 2147483647 y28) → G X E 7 0 0 (wX X ad F R3) [(0, .ref (ad 17)), (2, .int y1), (3, .int y2)] 90 [.int y28, .int y1, .ref (ad 24)] := by
                    intro y28 py28
                    refine g_iast cx 24 (wX X ad F (g_u R3 24 (upd (R3 24) (Int32.toNatClampNeg y1) y28))) e_X2_reckon_90 rfl (jv_ix 32 p27 (by decide)) rfl ?_
                    obtain ⟨R29, hR29⟩ : ∃ z, z = g_u R3 24 (upd (R3 24) (Int32.toNatClampNeg y1) y28) := ⟨_, rfl⟩
                    rw [← hR29]
                    have oR29 : g_okR LA_wX R29 := by rw [hR29]; exact g_okR_u oR3 rfl
                    have fR29 : g_fr mr_X2_reckon_17 R R29 := by rw [hR29]; exact g_fr_r fR3 rfl
                    obtain ⟨x30, ex30⟩ : ∃ z : Int32, z = y1 + Int32.ofInt 1 := ⟨_, rfl⟩
                    refine g_iinc cx x30 [(2, .int x30), (0, .ref (ad 17)), (3, .int y2)] 1 e_X2_reckon_91 rfl ex30.symm (by decide) rfl ?_
                    have zx30 := jv_add 1 32 (show x30 = y1 + 1 from ex30) p27 (jv_k (x := 1) 1 (by decide)) (by decide)
                    refine g_goto cx 276 e_X2_reckon_94 (by decide) ?_
                    refine g_lsub [1, 0, 2] [(0, .ref (ad 17)), (2, .int x30), (3, .int y2)] rfl ?_
                    exact J276 R29 x30 y2 oR29 fR29 (jv_w zx30.2 (by decide)) (jv_w p14 (by decide)) (by have q0 := (jv_k (x := 0) 0 (by decide)).1; have q1 := (jv_k (x := 0) 0 (by decide)).2; have q2 := (jv_k (x := 256) 256 (by decide)).1; have q3 := (jv_k (x := 256) 256 (by decide)).2; have q4 := p15.1; have q5 := p15.2; have q6 := (jv_t x17).1; have q7 := (jv_t x17).2; have q8 := p14.1; have q9 := p14.2; have q10 := (gc_nlt zc10); have q11 := (gc_nle zc13); have q12 := (gc_nle zc16); have q13 := (gc_ne zc18); omega)
                  refine g_icmp_ne cx 84 e_X2_reckon_76 (by decide) (fun zc31 => ?_) (fun zc31 => ?_)
                  · refine g_aload_n cx 0 rfl e_X2_reckon_84 ?_
                    refine g_iload cx 4 rfl e_X2_reckon_85 ?_
                    refine g_cViW cx [.int x21] [.int y1, .ref (ad 24)] (w_X2_toldOf_17 l X ad F R3 hI oR3 x21) ml_X2_69 yV_X2_toldOf e_X2_reckon_87 (by unfold g_rr; decide) (by decide) 17 rfl rfl rfl (Nat.le_of_ble_eq_true rfl) (fun r32 w33 h34 => ?_)
                    obtain ⟨rfl, pr32⟩ := h34
                    refine g_lsub [0, 1, 2] [(0, .ref (ad 17)), (2, .int y1), (3, .int y2)] rfl ?_
                    exact J90 r32 pr32
                  · have p35 := gn_eq 1 1 (gc_eq zc31) (jv_t x20) (jv_k (x := 1) 1 (by decide)) (by decide)
                    refine g_iload cx 4 rfl e_X2_reckon_79 ?_
                    refine g_goto cx 90 e_X2_reckon_81 (by decide) ?_
                    refine g_lsub [0, 1, 2] [(0, .ref (ad 17)), (2, .int y1), (3, .int y2)] rfl ?_
                    exact J90 x21 (jv_t x21)
                · have p36 := gn_ge 32 32 (gc_nlt zc26) py1 (jv_k (x := 32) 32 (by decide)) (by decide)
                  refine g_iconst cx 0 (by decide) e_X2_reckon_66 ?_
                  exact hret e_X2_reckon_67 (Nat.le_of_ble_eq_true rfl) (Nat.le_of_ble_eq_true rfl) rfl ⟨F, R3, rfl, hI, oR3, (g_fr_rf F), fR3, (jv_w (jv_k (x := 0) 0 (by decide)) (by decide))⟩
              refine g_icmp_eq cx 60 e_X2_reckon_51 (by decide) (fun zc37 => ?_) (fun zc37 => ?_)
              · have p38 := gn_eq 1 1 (gc_eq zc37) (jv_t x20) (jv_k (x := 1) 1 (by decide)) (by decide)
                refine g_lsub [2, 3, 4, 1, 0] [(0, .ref (ad 17)), (2, .int y1), (3, .int y2), (4, .int x20), (5, .int x21)] rfl ?_
                exact J60  
              · refine g_iload cx 1 rfl e_X2_reckon_54 ?_
                refine g_iconst cx 2 (by decide) e_X2_reckon_56 ?_
                refine g_icmp_ne cx 97 e_X2_reckon_57 (by decide) (fun zc39 => ?_) (fun zc39 => ?_)
                · refine g_iload_n cx 3 rfl e_X2_reckon_97 ?_
                  refine g_iconst cx 1 (by decide) e_X2_reckon_98 ?_
                  refine g_icmp_ge cx 104 e_X2_reckon_99 (by decide) (fun zc40 => ?_) (fun zc40 => ?_)
                  · have p41 := gn_ge 1 32 (gc_le zc40) py1 (jv_k (x := 1) 1 (by decide)) (by decide)
                    refine g_iload cx 1 rfl e_X2_reckon_104 ?_
                    refine g_iconst cx 3 (by decide) e_X2_reckon_106 ?_
                    refine g_icmp_ne cx 131 e_X2_reckon_107 (by decide) (fun zc42 => ?_) (fun zc42 => ?_)
                    · refine g_iload cx 1 rfl e_X2_reckon_131 ?_
                      refine g_iconst cx 4 (by decide) e_X2_reckon_133 ?_
                      have J143 : G X E 7 0 0 (wX X ad F R3) [(0, .ref (ad 17)), (2, .int y1), (3, .int y2), (4, .int x20), (5, .int x21)] 143 [] := by
                        refine g_aload_n cx 0 rfl e_X2_reckon_143 ?_
                        refine g_get cx cl_X2 fl_X2_37 17 (.ref (ad 24)) e_X2_reckon_144 rfl rfl ?_
                        refine g_iload_n cx 1 rfl e_X2_reckon_147 ?_
                        refine g_iconst cx 1 (by decide) e_X2_reckon_148 ?_
                        refine g_isub cx e_X2_reckon_149 ?_
                        refine g_topi (fun x43 ex43 => ?_)
                        have zx43 := jv_sub 0 31 ex43 p41 (jv_k (x := 1) 1 (by decide)) (by decide)
                        refine g_iald cx 24 e_X2_reckon_150 rfl (jv_ix 32 zx43.2 (by decide)) ?_
                        refine g_topi (fun x44 ex44 => ?_)
                        have J159 : ∀ (y45 : Int32), (jv 0 1 y45) → G X E 7 0 0 (wX X ad F R3) [(0, .ref (ad 17)), (2, .int y1), (3, .int y2), (4, .int x20), (5, .int x21)] 159 [.int y45] := by
                          intro y45 py45
                          refine g_iload cx 3 rfl e_X2_reckon_159 ?_
                          refine g_iconst cx 5 (by decide) e_X2_reckon_161 ?_
                          have J170 : ∀ (y46 : Int32), (jv 0 1 y46) → G X E 7 0 0 (wX X ad F R3) [(0, .ref (ad 17)), (2, .int y1), (3, .int y2), (5, .int x21)] 170 [.int y46, .int y45] := by
                            intro y46 py46
                            have J178 : ∀ (y47 : Int32), (jv 0 1 y47) → G X E 7 0 0 (wX X ad F R3) [(0, .ref (ad 17)), (2, .int y1), (3, .int y2), (5, .int x21)] 178 [.int y47] := by
                              intro y47 py47
                              refine g_istore cx [(6, .int y47), (0, .ref (ad 17)), (2, .int y1), (3, .int y2), (5, .int x21)] e_X2_reckon_178 (by decide) rfl ?_
                              refine g_iload cx 0 rfl e_X2_reckon_180 ?_
                              have J197 : ∀ (y48 : Int32), (jv 0 2147483647 y48) → (y2.toInt ≤ y48.toInt) → G X E 7 0 0 (wX X ad F R3) [(0, .ref (ad 17)), (2, .int y1), (6, .int y47)] 197 [.int y48] := by
                                intro y48 py48 zi197_0
                                refine g_istore_n cx [(3, .int y48), (0, .ref (ad 17)), (2, .int y1), (6, .int y47)] e_X2_reckon_197 (by decide) rfl ?_
                                refine g_iload cx 3 rfl e_X2_reckon_198 ?_
                                have J210 : ∀ (y49 : Int32), (jv 0 32 y49) → G X E 7 0 0 (wX X ad F R3) [(0, .ref (ad 17)), (3, .int y48)] 210 [.int y49] := by
                                  intro y49 py49
                                  refine g_istore_n cx [(2, .int y49), (0, .ref (ad 17)), (3, .int y48)] e_X2_reckon_210 (by decide) rfl ?_
                                  refine g_goto cx 276 e_X2_reckon_211 (by decide) ?_
                                  refine g_lsub [1, 0, 2] [(0, .ref (ad 17)), (2, .int y49), (3, .int y48)] rfl ?_
                                  exact J276 R3 y49 y48 oR3 fR3 py49 py48 (by have q0 := (jv_k (x := 0) 0 (by decide)).1; have q1 := (jv_k (x := 0) 0 (by decide)).2; have q2 := (jv_k (x := 256) 256 (by decide)).1; have q3 := (jv_k (x := 256) 256 (by decide)).2; have q4 := p15.1; have q5 := p15.2; have q6 := (jv_t x17).1; have q7 := (jv_t x17).2; have q8 := p14.1; have q9 := p14.2; have q10 := py48.1; have q11 := py48.2; have q12 := (gc_nlt zc10); have q13 := (gc_nle zc13); have q14 := (gc_nle zc16); have q15 := (gc_ne zc18); have q16 := zi197_0; omega)
                                refine g_if_eq cx 207 e_X2_reckon_200 (by decide) (fun zc50 => ?_) (fun zc50 => ?_)
                                · have p51 := gn_eq 0 0 (gc_eq zc50) py47 (jv_k (x := 0) 0 (by decide)) (by decide)
                                  refine g_iload_n cx 2 rfl e_X2_reckon_207 ?_
                                  refine g_iconst cx 1 (by decide) e_X2_reckon_208 ?_
                                  refine g_isub cx e_X2_reckon_209 ?_
                                  refine g_topi (fun x52 ex52 => ?_)
                                  have zx52 := jv_sub 0 31 ex52 p41 (jv_k (x := 1) 1 (by decide)) (by decide)
                                  refine g_lsub [1, 0] [(0, .ref (ad 17)), (3, .int y48)] rfl ?_
                                  exact J210 x52 (jv_w zx52.2 (by decide))
                                · have p53 := gn_neL 1 1 (gc_ne zc50) py47 (jv_k (x := 0) 0 (by decide)) (by decide)
                                  refine g_iload_n cx 2 rfl e_X2_reckon_203 ?_
                                  refine g_goto cx 210 e_X2_reckon_204 (by decide) ?_
                                  refine g_lsub [1, 0] [(0, .ref (ad 17)), (3, .int y48)] rfl ?_
                                  exact J210 y1 (jv_w p41 (by decide))
                              refine g_if_eq cx 196 e_X2_reckon_182 (by decide) (fun zc54 => ?_) (fun zc54 => ?_)
                              · have p55 := gn_eq 0 0 (gc_eq zc54) py47 (jv_k (x := 0) 0 (by decide)) (by decide)
                                refine g_iload_n cx 3 rfl e_X2_reckon_196 ?_
                                refine g_lsub [1, 2, 0] [(0, .ref (ad 17)), (2, .int y1), (6, .int y47)] rfl ?_
                                exact J197 y2 (jv_w p14 (by decide)) (by have q0 := (jv_k (x := 0) 0 (by decide)).1; have q1 := (jv_k (x := 0) 0 (by decide)).2; have q2 := (jv_k (x := 256) 256 (by decide)).1; have q3 := (jv_k (x := 256) 256 (by decide)).2; have q4 := p15.1; have q5 := p15.2; have q6 := (jv_t x17).1; have q7 := (jv_t x17).2; have q8 := p14.1; have q9 := p14.2; have q10 := p55.1; have q11 := p55.2; have q12 := (gc_nlt zc10); have q13 := (gc_nle zc13); have q14 := (gc_nle zc16); have q15 := (gc_ne zc18); have q16 := (gc_eq zc54); omega)
                              · have p56 := gn_neL 1 1 (gc_ne zc54) py47 (jv_k (x := 0) 0 (by decide)) (by decide)
                                refine g_iload_n cx 3 rfl e_X2_reckon_185 ?_
                                refine g_iload cx 4 rfl e_X2_reckon_186 ?_
                                refine g_iconst cx 1 (by decide) e_X2_reckon_188 ?_
                                refine g_isub cx e_X2_reckon_189 ?_
                                refine g_topi (fun x57 ex57 => ?_)
                                refine g_mmax cx ml_X2_66 e_X2_reckon_190 ⟨Nat.le_of_ble_eq_true rfl, Nat.le_of_ble_eq_true rfl⟩ (by decide) ?_
                                refine g_topi (fun x58 ex58 => ?_)
                                have px58 := jv_max 0 2147483647 ex58 p14 (jv_t x57) (by decide)
                                refine g_goto cx 197 e_X2_reckon_193 (by decide) ?_
                                refine g_lsub [1, 2, 0] [(0, .ref (ad 17)), (2, .int y1), (6, .int y47)] rfl ?_
                                exact J197 x58 px58 (by have q0 := (jv_k (x := 0) 0 (by decide)).1; have q1 := (jv_k (x := 0) 0 (by decide)).2; have q2 := (jv_k (x := 256) 256 (by decide)).1; have q3 := (jv_k (x := 256) 256 (by decide)).2; have q4 := p15.1; have q5 := p15.2; have q6 := (jv_t x17).1; have q7 := (jv_t x17).2; have q8 := (jv_t x57).1; have q9 := (jv_t x57).2; have q10 := px58.1; have q11 := px58.2; have q12 := p14.1; have q13 := p14.2; have q14 := p56.1; have q15 := p56.2; have q16 := (gc_nlt zc10); have q17 := (gc_nle zc13); have q18 := (gc_nle zc16); have q19 := (gc_ne zc18); have q20 := (gc_ne zc54); have q21 := (g_max1 ex58); have q22 := (g_max2 ex58); omega)
                            refine g_icmp_ne cx 177 e_X2_reckon_170 (by decide) (fun zc59 => ?_) (fun zc59 => ?_)
                            · refine g_iconst cx 0 (by decide) e_X2_reckon_177 ?_
                              exact J178 0 (jv_w (jv_k (x := 0) 0 (by decide)) (by decide))
                            · refine g_iconst cx 1 (by decide) e_X2_reckon_173 ?_
                              refine g_goto cx 178 e_X2_reckon_174 (by decide) ?_
                              exact J178 1 (jv_w (jv_k (x := 1) 1 (by decide)) (by decide))
                          refine g_icmp_ne cx 169 e_X2_reckon_162 (by decide) (fun zc60 => ?_) (fun zc60 => ?_)
                          · refine g_iconst cx 0 (by decide) e_X2_reckon_169 ?_
                            refine g_lsub [0, 1, 2, 4] [(0, .ref (ad 17)), (2, .int y1), (3, .int y2), (5, .int x21)] rfl ?_
                            exact J170 0 (jv_w (jv_k (x := 0) 0 (by decide)) (by decide))
                          · have p61 := gn_eq 5 5 (gc_eq zc60) (jv_t x20) (jv_k (x := 5) 5 (by decide)) (by decide)
                            refine g_iconst cx 1 (by decide) e_X2_reckon_165 ?_
                            refine g_goto cx 170 e_X2_reckon_166 (by decide) ?_
                            refine g_lsub [0, 1, 2, 4] [(0, .ref (ad 17)), (2, .int y1), (3, .int y2), (5, .int x21)] rfl ?_
                            exact J170 1 (jv_w (jv_k (x := 1) 1 (by decide)) (by decide))
                        refine g_if_eq cx 158 e_X2_reckon_151 (by decide) (fun zc62 => ?_) (fun zc62 => ?_)
                        · have p63 := gn_eq 0 0 (gc_eq zc62) (jv_t x44) (jv_k (x := 0) 0 (by decide)) (by decide)
                          refine g_iconst cx 0 (by decide) e_X2_reckon_158 ?_
                          exact J159 0 (jv_w (jv_k (x := 0) 0 (by decide)) (by decide))
                        · refine g_iconst cx 1 (by decide) e_X2_reckon_154 ?_
                          refine g_goto cx 159 e_X2_reckon_155 (by decide) ?_
                          exact J159 1 (jv_w (jv_k (x := 1) 1 (by decide)) (by decide))
                      refine g_icmp_eq cx 143 e_X2_reckon_134 (by decide) (fun zc64 => ?_) (fun zc64 => ?_)
                      · have p65 := gn_eq 4 4 (gc_eq zc64) (jv_t x20) (jv_k (x := 4) 4 (by decide)) (by decide)
                        refine g_lsub [2, 3, 4, 1, 0] [(0, .ref (ad 17)), (2, .int y1), (3, .int y2), (4, .int x20), (5, .int x21)] rfl ?_
                        exact J143  
                      · refine g_iload cx 1 rfl e_X2_reckon_137 ?_
                        refine g_iconst cx 5 (by decide) e_X2_reckon_139 ?_
                        refine g_icmp_ne cx 214 e_X2_reckon_140 (by decide) (fun zc66 => ?_) (fun zc66 => ?_)
                        · refine g_iload_n cx 3 rfl e_X2_reckon_214 ?_
                          refine g_iconst cx 2 (by decide) e_X2_reckon_215 ?_
                          have J244 : G X E 7 0 0 (wX X ad F R3) [] 244 [] := by
                            refine g_iconst cx 0 (by decide) e_X2_reckon_244 ?_
                            exact hret e_X2_reckon_245 (Nat.le_of_ble_eq_true rfl) (Nat.le_of_ble_eq_true rfl) rfl ⟨F, R3, rfl, hI, oR3, (g_fr_rf F), fR3, (jv_w (jv_k (x := 0) 0 (by decide)) (by decide))⟩
                          refine g_icmp_lt cx 244 e_X2_reckon_216 (by decide) (fun zc67 => ?_) (fun zc67 => ?_)
                          · have p68 := gn_lt 1 1 (gc_lt zc67) p41 (jv_k (x := 2) 2 (by decide)) (by decide)
                            refine g_lsub [] [] rfl ?_
                            exact J244  
                          · have p69 := gn_ge 2 32 (gc_nlt zc67) p41 (jv_k (x := 2) 2 (by decide)) (by decide)
                            refine g_aload_n cx 2 rfl e_X2_reckon_219 ?_
                            refine g_get cx cl_X2 fl_X2_37 17 (.ref (ad 24)) e_X2_reckon_220 rfl rfl ?_
                            refine g_iload_n cx 3 rfl e_X2_reckon_223 ?_
                            refine g_iconst cx 1 (by decide) e_X2_reckon_224 ?_
                            refine g_isub cx e_X2_reckon_225 ?_
                            refine g_topi (fun x70 ex70 => ?_)
                            have zx70 := jv_sub 1 31 ex70 p69 (jv_k (x := 1) 1 (by decide)) (by decide)
                            refine g_iald cx 24 e_X2_reckon_226 rfl (jv_ix 32 zx70.2 (by decide)) ?_
                            refine g_topi (fun x71 ex71 => ?_)
                            have J246 : G X E 7 0 0 (wX X ad F R3) [(0, .ref (ad 17)), (2, .int y1), (3, .int y2), (4, .int x20)] 246 [] := by
                              obtain ⟨x72, ex72⟩ : ∃ z : Int32, z = y1 + Int32.ofInt (-1) := ⟨_, rfl⟩
                              refine g_iinc cx x72 [(2, .int x72), (0, .ref (ad 17)), (3, .int y2), (4, .int x20)] 1 e_X2_reckon_246 rfl ex72.symm (by decide) rfl ?_
                              have zx72 := jv_add 1 31 (show x72 = y1 + (-1) from ex72) p69 (jv_k (x := (-1)) (-1) (by decide)) (by decide)
                              refine g_aload_n cx 1 rfl e_X2_reckon_249 ?_
                              refine g_get cx cl_X2 fl_X2_37 17 (.ref (ad 24)) e_X2_reckon_250 rfl rfl ?_
                              refine g_iload_n cx 0 rfl e_X2_reckon_253 ?_
                              refine g_iconst cx 1 (by decide) e_X2_reckon_254 ?_
                              refine g_isub cx e_X2_reckon_255 ?_
                              refine g_topi (fun x73 ex73 => ?_)
                              have zx73 := jv_sub 0 30 ex73 zx72.2 (jv_k (x := 1) 1 (by decide)) (by decide)
                              refine g_iload cx 3 rfl e_X2_reckon_256 ?_
                              refine g_aload_n cx 1 rfl e_X2_reckon_258 ?_
                              refine g_get cx cl_X2 fl_X2_37 17 (.ref (ad 24)) e_X2_reckon_259 rfl rfl ?_
                              refine g_iload_n cx 0 rfl e_X2_reckon_262 ?_
                              refine g_iconst cx 1 (by decide) e_X2_reckon_263 ?_
                              refine g_isub cx e_X2_reckon_264 ?_
                              refine g_topi (fun x74 ex74 => ?_)
                              have zx74 := jv_sub 0 30 ex74 zx72.2 (jv_k (x := 1) 1 (by decide)) (by decide)
                              refine g_iald cx 24 e_X2_reckon_265 rfl (jv_ix 32 zx74.2 (by decide)) ?_
                              refine g_topi (fun x75 ex75 => ?_)
                              refine g_aload_n cx 1 rfl e_X2_reckon_266 ?_
                              refine g_get cx cl_X2 fl_X2_37 17 (.ref (ad 24)) e_X2_reckon_267 rfl rfl ?_
                              refine g_iload_n cx 0 rfl e_X2_reckon_270 ?_
                              refine g_iald cx 24 e_X2_reckon_271 rfl (jv_ix 32 zx72.2 (by decide)) ?_
                              refine g_topi (fun x76 ex76 => ?_)
                              refine g_cSiW cx [.int x20, .int x75, .int x76] [.int x73, .ref (ad 24)] (w_X2_join l X ad F R3 hI oR3 x20 x75 x76) ml_X2_72 yS_X2_join rfl e_X2_reckon_272 (by unfold g_rr; decide) (by decide) rfl (Nat.le_of_ble_eq_true rfl) (fun r77 w78 h79 => ?_)
                              obtain ⟨rfl, pr77⟩ := h79
                              refine g_iast cx 24 (wX X ad F (g_u R3 24 (upd (R3 24) (Int32.toNatClampNeg x73) r77))) e_X2_reckon_275 rfl (jv_ix 32 zx73.2 (by decide)) rfl ?_
                              obtain ⟨R80, hR80⟩ : ∃ z, z = g_u R3 24 (upd (R3 24) (Int32.toNatClampNeg x73) r77) := ⟨_, rfl⟩
                              rw [← hR80]
                              have oR80 : g_okR LA_wX R80 := by rw [hR80]; exact g_okR_u oR3 rfl
                              have fR80 : g_fr mr_X2_reckon_17 R R80 := by rw [hR80]; exact g_fr_r fR3 rfl
                              refine g_lsub [1, 0, 2] [(0, .ref (ad 17)), (2, .int x72), (3, .int y2)] rfl ?_
                              exact J276 R80 x72 y2 oR80 fR80 (jv_w zx72.2 (by decide)) (jv_w p14 (by decide)) (by have q0 := (jv_k (x := 0) 0 (by decide)).1; have q1 := (jv_k (x := 0) 0 (by decide)).2; have q2 := (jv_k (x := 256) 256 (by decide)).1; have q3 := (jv_k (x := 256) 256 (by decide)).2; have q4 := p15.1; have q5 := p15.2; have q6 := (jv_t x17).1; have q7 := (jv_t x17).2; have q8 := p14.1; have q9 := p14.2; have q10 := (gc_nlt zc10); have q11 := (gc_nle zc13); have q12 := (gc_nle zc16); have q13 := (gc_ne zc18); omega)
                            refine g_if_ne cx 246 e_X2_reckon_227 (by decide) (fun zc81 => ?_) (fun zc81 => ?_)
                            · refine g_lsub [2, 3, 4, 1] [(0, .ref (ad 17)), (2, .int y1), (3, .int y2), (4, .int x20)] rfl ?_
                              exact J246  
                            · have p82 := gn_eq 0 0 (gc_eq zc81) (jv_t x71) (jv_k (x := 0) 0 (by decide)) (by decide)
                              refine g_iload cx 1 rfl e_X2_reckon_230 ?_
                              refine g_bipush cx 9 (by decide) e_X2_reckon_232 ?_
                              refine g_icmp_eq cx 244 e_X2_reckon_234 (by decide) (fun zc83 => ?_) (fun zc83 => ?_)
                              · have p84 := gn_eq 9 9 (gc_eq zc83) (jv_t x20) (jv_k (x := 9) 9 (by decide)) (by decide)
                                refine g_lsub [] [] rfl ?_
                                exact J244  
                              · refine g_iload cx 1 rfl e_X2_reckon_237 ?_
                                refine g_bipush cx 10 (by decide) e_X2_reckon_239 ?_
                                refine g_icmp_ne cx 246 e_X2_reckon_241 (by decide) (fun zc85 => ?_) (fun zc85 => ?_)
                                · refine g_lsub [2, 3, 4, 1] [(0, .ref (ad 17)), (2, .int y1), (3, .int y2), (4, .int x20)] rfl ?_
                                  exact J246  
                                · have p86 := gn_eq 10 10 (gc_eq zc85) (jv_t x20) (jv_k (x := 10) 10 (by decide)) (by decide)
                                  refine g_lsub [] [] rfl ?_
                                  exact J244  
                        · have p87 := gn_eq 5 5 (gc_eq zc66) (jv_t x20) (jv_k (x := 5) 5 (by decide)) (by decide)
                          refine g_lsub [2, 3, 4, 1, 0] [(0, .ref (ad 17)), (2, .int y1), (3, .int y2), (4, .int x20), (5, .int x21)] rfl ?_
                          exact J143  
                    · have p88 := gn_eq 3 3 (gc_eq zc42) (jv_t x20) (jv_k (x := 3) 3 (by decide)) (by decide)
                      refine g_aload_n cx 2 rfl e_X2_reckon_110 ?_
                      refine g_get cx cl_X2 fl_X2_37 17 (.ref (ad 24)) e_X2_reckon_111 rfl rfl ?_
                      refine g_iload_n cx 3 rfl e_X2_reckon_114 ?_
                      refine g_iconst cx 1 (by decide) e_X2_reckon_115 ?_
                      refine g_isub cx e_X2_reckon_116 ?_
                      refine g_topi (fun x89 ex89 => ?_)
                      have zx89 := jv_sub 0 31 ex89 p41 (jv_k (x := 1) 1 (by decide)) (by decide)
                      refine g_iconst cx 1 (by decide) e_X2_reckon_117 ?_
                      refine g_aload_n cx 2 rfl e_X2_reckon_118 ?_
                      refine g_get cx cl_X2 fl_X2_37 17 (.ref (ad 24)) e_X2_reckon_119 rfl rfl ?_
                      refine g_iload_n cx 3 rfl e_X2_reckon_122 ?_
                      refine g_iconst cx 1 (by decide) e_X2_reckon_123 ?_
                      refine g_isub cx e_X2_reckon_124 ?_
                      refine g_topi (fun x90 ex90 => ?_)
                      have zx90 := jv_sub 0 31 ex90 p41 (jv_k (x := 1) 1 (by decide)) (by decide)
                      refine g_iald cx 24 e_X2_reckon_125 rfl (jv_ix 32 zx90.2 (by decide)) ?_
                      refine g_topi (fun x91 ex91 => ?_)
                      refine g_isub cx e_X2_reckon_126 ?_
                      refine g_topi (fun x92 ex92 => ?_)
                      refine g_iast cx 24 (wX X ad F (g_u R3 24 (upd (R3 24) (Int32.toNatClampNeg x89) x92))) e_X2_reckon_127 rfl (jv_ix 32 zx89.2 (by decide)) rfl ?_
                      obtain ⟨R93, hR93⟩ : ∃ z, z = g_u R3 24 (upd (R3 24) (Int32.toNatClampNeg x89) x92) := ⟨_, rfl⟩
                      rw [← hR93]
                      have oR93 : g_okR LA_wX R93 := by rw [hR93]; exact g_okR_u oR3 rfl
                      have fR93 : g_fr mr_X2_reckon_17 R R93 := by rw [hR93]; exact g_fr_r fR3 rfl
                      refine g_goto cx 276 e_X2_reckon_128 (by decide) ?_
                      refine g_lsub [2, 3, 4] [(0, .ref (ad 17)), (2, .int y1), (3, .int y2)] rfl ?_
                      exact J276 R93 y1 y2 oR93 fR93 (jv_w p41 (by decide)) (jv_w p14 (by decide)) (by have q0 := (jv_k (x := 0) 0 (by decide)).1; have q1 := (jv_k (x := 0) 0 (by decide)).2; have q2 := (jv_k (x := 256) 256 (by decide)).1; have q3 := (jv_k (x := 256) 256 (by decide)).2; have q4 := p15.1; have q5 := p15.2; have q6 := (jv_t x17).1; have q7 := (jv_t x17).2; have q8 := p14.1; have q9 := p14.2; have q10 := (gc_nlt zc10); have q11 := (gc_nle zc13); have q12 := (gc_nle zc16); have q13 := (gc_ne zc18); omega)
                  · have p94 := gn_lt 0 0 (gc_nle zc40) py1 (jv_k (x := 1) 1 (by decide)) (by decide)
                    refine g_iconst cx 0 (by decide) e_X2_reckon_102 ?_
                    exact hret e_X2_reckon_103 (Nat.le_of_ble_eq_true rfl) (Nat.le_of_ble_eq_true rfl) rfl ⟨F, R3, rfl, hI, oR3, (g_fr_rf F), fR3, (jv_w (jv_k (x := 0) 0 (by decide)) (by decide))⟩
                · have p95 := gn_eq 2 2 (gc_eq zc39) (jv_t x20) (jv_k (x := 2) 2 (by decide)) (by decide)
                  refine g_lsub [2, 3, 4, 1, 0] [(0, .ref (ad 17)), (2, .int y1), (3, .int y2), (4, .int x20), (5, .int x21)] rfl ?_
                  exact J60  
  refine g_lsub [2, 1, 0] [(0, .ref (ad 17)), (2, .int 0), (3, .int a0)] rfl ?_
  exact J4 _ R 0 a0 hA (g_fr_rf R) (jv_w (jv_k (x := 0) 0 (by decide)) (by decide)) (jv_t a0) (Nat.lt_succ_self _)
theorem e_X2_forget_0 : g_dc cX2_forget 0 (.iconst 0) 1 1 := ⟨by decide +kernel, rfl⟩
theorem e_X2_forget_1 : g_dc cX2_forget 1 (.istore_n 1) 1 2 := ⟨by decide +kernel, rfl⟩
theorem e_X2_forget_2 : g_dc cX2_forget 2 (.iload_n 1) 1 3 := ⟨by decide +kernel, rfl⟩
theorem e_X2_forget_3 : g_dc cX2_forget 3 (.aload_n 0) 1 4 := ⟨by decide +kernel, rfl⟩
theorem e_X2_forget_4 : g_dc cX2_forget 4 (.getfield 34) 3 7 := ⟨by decide +kernel, rfl⟩
theorem e_X2_forget_7 : g_dc cX2_forget 7 (.arraylength) 1 8 := ⟨by decide +kernel, rfl⟩
theorem e_X2_forget_8 : g_dc cX2_forget 8 (.if_icmp .ge 16) 3 11 := ⟨by decide +kernel, rfl⟩
theorem e_X2_forget_11 : g_dc cX2_forget 11 (.aload_n 0) 1 12 := ⟨by decide +kernel, rfl⟩
theorem e_X2_forget_12 : g_dc cX2_forget 12 (.getfield 34) 3 15 := ⟨by decide +kernel, rfl⟩
theorem e_X2_forget_15 : g_dc cX2_forget 15 (.iload_n 1) 1 16 := ⟨by decide +kernel, rfl⟩
theorem e_X2_forget_16 : g_dc cX2_forget 16 (.iconst 0) 1 17 := ⟨by decide +kernel, rfl⟩
theorem e_X2_forget_17 : g_dc cX2_forget 17 (.iastore) 1 18 := ⟨by decide +kernel, rfl⟩
theorem e_X2_forget_18 : g_dc cX2_forget 18 (.iinc 1 1) 3 21 := ⟨by decide +kernel, rfl⟩
theorem e_X2_forget_21 : g_dc cX2_forget 21 (.goto (-19)) 3 24 := ⟨by decide +kernel, rfl⟩
theorem e_X2_forget_24 : g_dc cX2_forget 24 (.return_) 1 25 := ⟨by decide +kernel, rfl⟩
def md_X2_forget_17 : List Nat := []
def mr_X2_forget_17 : List Nat := [23]
set_option maxHeartbeats 4000000 in
set_option maxRecDepth 100000 in
theorem w_X2_forget_17 (l : Launch) (X : gX) (ad : Nat → Nat) (F : Nat → Int32) (R : Nat → Nat → Int32) (hI : g_ok LK_wX F) (hA : g_okR LA_wX R) : g_Cv l X yX2_forget cX2_forget 2 1 0 0 [.ref (ad 17)] (wX X ad F R) (fun w => ∃ (F' : Nat → Int32) (R' : Nat → Nat → Int32), w = wX X ad F' R' ∧ g_ok LK_wX F' ∧ g_okR LA_wX R' ∧ g_fr md_X2_forget_17 F F' ∧ g_fr mr_X2_forget_17 R R') := by
  refine g_mv (by decide +kernel) (Nat.le_of_ble_eq_true rfl) (fun E cx hret => ?_)
  refine g_iconst cx 0 (by decide) e_X2_forget_0 ?_
  refine g_istore_n cx [(1, .int 0), (0, .ref (ad 17))] e_X2_forget_1 (by decide) rfl ?_
  have J2 : ∀ (N : Nat) (R2 : Nat → Nat → Int32) (y1 : Int32), (g_okR LA_wX R2) → (g_fr mr_X2_forget_17 R R2) → (jv 0 14 y1) → (2147483647 - y1.toInt).toNat < N → G X E 2 0 0 (wX X ad F R2) [(0, .ref (ad 17)), (1, .int y1)] 2 [] := by
    intro N
    induction N with
    | zero => intro R2 y1 oR2 fR2 py1 hm; exact absurd hm (Nat.not_lt_zero _)
    | succ N ih2 =>
      intro R2 y1 oR2 fR2 py1 hm2
      refine g_iload_n cx 1 rfl e_X2_forget_2 ?_
      refine g_aload_n cx 0 rfl e_X2_forget_3 ?_
      refine g_get cx cl_X2 fl_X2_34 17 (.ref (ad 23)) e_X2_forget_4 rfl rfl ?_
      refine g_alen cx 23 12 e_X2_forget_7 rfl (by decide) ?_
      refine g_icmp_ge cx 24 e_X2_forget_8 (by decide) (fun zc3 => ?_) (fun zc3 => ?_)
      · have p4 := gn_ge 12 14 (gc_le zc3) py1 (jv_k (x := 12) 12 (by decide)) (by decide)
        exact hret e_X2_forget_24 (Nat.le_of_ble_eq_true rfl) (Nat.le_of_ble_eq_true rfl) ⟨F, R2, rfl, hI, oR2, (g_fr_rf F), fR2⟩
      · have p5 := gn_lt 0 11 (gc_nle zc3) py1 (jv_k (x := 12) 12 (by decide)) (by decide)
        refine g_aload_n cx 0 rfl e_X2_forget_11 ?_
        refine g_get cx cl_X2 fl_X2_34 17 (.ref (ad 23)) e_X2_forget_12 rfl rfl ?_
        refine g_iload_n cx 1 rfl e_X2_forget_15 ?_
        refine g_iconst cx 0 (by decide) e_X2_forget_16 ?_
        refine g_iast cx 23 (wX X ad F (g_u R2 23 (upd (R2 23) (Int32.toNatClampNeg y1) 0))) e_X2_forget_17 rfl (jv_ix 12 p5 (by decide)) rfl ?_
        obtain ⟨R6, hR6⟩ : ∃ z, z = g_u R2 23 (upd (R2 23) (Int32.toNatClampNeg y1) 0) := ⟨_, rfl⟩
        rw [← hR6]
        have oR6 : g_okR LA_wX R6 := by rw [hR6]; exact g_okR_u oR2 rfl
        have fR6 : g_fr mr_X2_forget_17 R R6 := by rw [hR6]; exact g_fr_r fR2 rfl
        obtain ⟨x7, ex7⟩ : ∃ z : Int32, z = y1 + Int32.ofInt 1 := ⟨_, rfl⟩
        refine g_iinc cx x7 [(1, .int x7), (0, .ref (ad 17))] 1 e_X2_forget_18 rfl ex7.symm (by decide) rfl ?_
        have zx7 := jv_add 1 12 (show x7 = y1 + 1 from ex7) p5 (jv_k (x := 1) 1 (by decide)) (by decide)
        refine g_goto cx 2 e_X2_forget_21 (by decide) ?_
        refine g_lsub [1, 0] [(0, .ref (ad 17)), (1, .int x7)] rfl ?_
        exact ih2 R6 x7 oR6 fR6 (jv_w zx7.2 (by decide)) (Nat.lt_of_lt_of_le (show (2147483647 - x7.toInt).toNat < (2147483647 - y1.toInt).toNat from by have q0 := (jv_k (x := 1) 1 (by decide)).1; have q1 := (jv_k (x := 1) 1 (by decide)).2; have q2 := (jv_k (x := 12) 12 (by decide)).1; have q3 := (jv_k (x := 12) 12 (by decide)).2; have q4 := zx7.2.1; have q5 := zx7.2.2; have q6 := p5.1; have q7 := p5.2; have q8 := (gc_nle zc3); have q9 := (g_eq0 zx7.1); omega) (Nat.le_of_lt_succ hm2))
  refine g_lsub [1, 0] [(0, .ref (ad 17)), (1, .int 0)] rfl ?_
  exact J2 _ R 0 hA (g_fr_rf R) (jv_w (jv_k (x := 0) 0 (by decide)) (by decide)) (Nat.lt_succ_self _)
