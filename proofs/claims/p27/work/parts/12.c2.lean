def K_X9_at_21  (y5 : Int32) : Int32 :=
  y5
def sp_X9_at (F : Nat → Int32) (R : Nat → Nat → Int32) (a0 : Int32) : Int32 :=
  k_lt (g_in a0 0 219) (fun r1 => if r1 = 0 then K_X9_at_21 (-1) else k_lt (R 10 (Int32.toNatClampNeg a0)) (fun x12 => K_X9_at_21 x12))
theorem e_X9_at_0 : g_dc cX9_at 0 (.iload_n 1) 1 1 := ⟨by decide +kernel, rfl⟩
theorem e_X9_at_1 : g_dc cX9_at 1 (.iconst 0) 1 2 := ⟨by decide +kernel, rfl⟩
theorem e_X9_at_2 : g_dc cX9_at 2 (.sipush 219) 3 5 := ⟨by decide +kernel, rfl⟩
theorem e_X9_at_5 : g_dc cX9_at 5 (.invokestatic 19) 3 8 := ⟨by decide +kernel, rfl⟩
theorem e_X9_at_8 : g_dc cX9_at 8 (.ifCond .eq 12) 3 11 := ⟨by decide +kernel, rfl⟩
theorem e_X9_at_11 : g_dc cX9_at 11 (.aload_n 0) 1 12 := ⟨by decide +kernel, rfl⟩
theorem e_X9_at_12 : g_dc cX9_at 12 (.getfield 9) 3 15 := ⟨by decide +kernel, rfl⟩
theorem e_X9_at_15 : g_dc cX9_at 15 (.iload_n 1) 1 16 := ⟨by decide +kernel, rfl⟩
theorem e_X9_at_16 : g_dc cX9_at 16 (.iaload) 1 17 := ⟨by decide +kernel, rfl⟩
theorem e_X9_at_17 : g_dc cX9_at 17 (.goto 4) 3 20 := ⟨by decide +kernel, rfl⟩
theorem e_X9_at_20 : g_dc cX9_at 20 (.iconst (-1)) 1 21 := ⟨by decide +kernel, rfl⟩
theorem e_X9_at_21 : g_dc cX9_at 21 (.ireturn) 1 22 := ⟨by decide +kernel, rfl⟩
set_option maxHeartbeats 4000000 in
set_option maxRecDepth 100000 in
theorem w_X9_at (l : Launch) (X : gX) (ad : Nat → Nat) (F : Nat → Int32) (R : Nat → Nat → Int32) (hI : g_ok LK_wX F) (hA : g_okR LA_wX R) (a0 : Int32) : g_Ci l X yX9_at cX9_at 2 (some .int) 2 0 0 [.ref (ad 9), .int a0] (wX X ad F R) (fun r w => w = wX X ad F R ∧ jv (-2147483648) 2147483647 r ∧ r = sp_X9_at F R a0) := by
  refine g_mi (by decide +kernel) (Nat.le_of_ble_eq_true rfl) (fun E cx hret => ?_)
  obtain ⟨SP, hSP⟩ : ∃ z, z = sp_X9_at F R a0 := ⟨_, rfl⟩
  have hk0 := hSP
  unfold sp_X9_at at hk0
  refine g_iload_n cx 1 rfl e_X9_at_0 ?_
  refine g_iconst cx 0 (by decide) e_X9_at_1 ?_
  refine g_sipush cx 219 (by decide) e_X9_at_2 ?_
  refine g_cNiW cx [.int a0, .int 0, .int 219] [] (c_X10_within l X (wX X ad F R) a0 0 219) mn_X9_19 yS_X10_within e_X9_at_5 (by unfold g_rr; decide) (by decide) rfl (Nat.le_of_ble_eq_true rfl) (fun r1 w2 h3 => ?_)
  obtain ⟨rfl, hr1⟩ := h3
  have pr1 : jv 0 1 r1 := by rw [hr1]; exact gi_01 _ _ _
  have hk4 := k_ls hk0 hr1
  have J21 : ∀ (y5 : Int32), (jv (-2147483648) 2147483647 y5) → (SP = K_X9_at_21 y5) → G X E 2 0 0 (wX X ad F R) [] 21 [.int y5] := by
    intro y5 py5 hkJ21
    unfold K_X9_at_21 at hkJ21
    exact hret e_X9_at_21 (Nat.le_of_ble_eq_true rfl) (Nat.le_of_ble_eq_true rfl) rfl ⟨rfl, py5, (hkJ21.symm.trans hSP)⟩
  refine g_if_eq cx 20 e_X9_at_8 (by decide) (fun zc6 => ?_) (fun zc6 => ?_)
  · have p7 := gn_eq 0 0 (gc_eq zc6) pr1 (jv_k (x := 0) 0 (by decide)) (by decide)
    have hk8 := hk4.trans (if_pos zc6)
    refine g_iconst cx (-1) (by decide) e_X9_at_20 ?_
    refine g_lsub [] [] rfl ?_
    exact J21 (-1) (jv_w (jv_k (x := (-1)) (-1) (by decide)) (by decide)) hk8
  · have p9 := gn_neL 1 1 (gc_ne zc6) pr1 (jv_k (x := 0) 0 (by decide)) (by decide)
    have p10 := jv_i 0 219 (jv_t a0) (gi_in (A := 0) (B := 219) hr1 zc6 (by decide) (by decide)) (by decide)
    have hk11 := hk4.trans (if_neg zc6)
    refine g_aload_n cx 0 rfl e_X9_at_11 ?_
    refine g_get cx cl_X9 fl_X9_9 9 (.ref (ad 10)) e_X9_at_12 rfl rfl ?_
    refine g_iload_n cx 1 rfl e_X9_at_15 ?_
    refine g_iald cx 10 e_X9_at_16 rfl (jv_ix 220 p10 (by decide)) ?_
    refine g_topi (fun x12 ex12 => ?_)
    have hk13 := k_ls hk11 ex12
    refine g_goto cx 21 e_X9_at_17 (by decide) ?_
    refine g_lsub [] [] rfl ?_
    exact J21 x12 (jv_t x12) hk13
def K_X5_digit_r9_38  (y6 : Int32) : Int32 :=
  y6
def K_X5_digit_r9_18  (y1 : Int32) : Int32 :=
  k_lt (g_in y1 48 57) (fun r2 => if r2 = 0 then K_X5_digit_r9_38 (-1) else k_lt (y1 - 48) (fun x13 => K_X5_digit_r9_38 x13))
def sp_X5_digit_r9 (F : Nat → Int32) (R : Nat → Nat → Int32) (a1 : Int32) (a2 : Int32) : Int32 :=
  if a2 ≤ a1 then K_X5_digit_r9_18 (-1) else k_lt (sp_X9_at F R a1) (fun r20 => K_X5_digit_r9_18 r20)
theorem e_X5_digit_0 : g_dc cX5_digit 0 (.aload_n 0) 1 1 := ⟨by decide +kernel, rfl⟩
theorem e_X5_digit_1 : g_dc cX5_digit 1 (.ifnull 16) 3 4 := ⟨by decide +kernel, rfl⟩
theorem e_X5_digit_4 : g_dc cX5_digit 4 (.iload_n 1) 1 5 := ⟨by decide +kernel, rfl⟩
theorem e_X5_digit_5 : g_dc cX5_digit 5 (.iload_n 2) 1 6 := ⟨by decide +kernel, rfl⟩
theorem e_X5_digit_6 : g_dc cX5_digit 6 (.if_icmp .ge 11) 3 9 := ⟨by decide +kernel, rfl⟩
theorem e_X5_digit_9 : g_dc cX5_digit 9 (.aload_n 0) 1 10 := ⟨by decide +kernel, rfl⟩
theorem e_X5_digit_10 : g_dc cX5_digit 10 (.iload_n 1) 1 11 := ⟨by decide +kernel, rfl⟩
theorem e_X5_digit_11 : g_dc cX5_digit 11 (.invokevirtual 40) 3 14 := ⟨by decide +kernel, rfl⟩
theorem e_X5_digit_14 : g_dc cX5_digit 14 (.goto 4) 3 17 := ⟨by decide +kernel, rfl⟩
theorem e_X5_digit_17 : g_dc cX5_digit 17 (.iconst (-1)) 1 18 := ⟨by decide +kernel, rfl⟩
theorem e_X5_digit_18 : g_dc cX5_digit 18 (.istore_n 3) 1 19 := ⟨by decide +kernel, rfl⟩
theorem e_X5_digit_19 : g_dc cX5_digit 19 (.iload_n 3) 1 20 := ⟨by decide +kernel, rfl⟩
theorem e_X5_digit_20 : g_dc cX5_digit 20 (.bipush 48) 2 22 := ⟨by decide +kernel, rfl⟩
theorem e_X5_digit_22 : g_dc cX5_digit 22 (.bipush 57) 2 24 := ⟨by decide +kernel, rfl⟩
theorem e_X5_digit_24 : g_dc cX5_digit 24 (.invokestatic 46) 3 27 := ⟨by decide +kernel, rfl⟩
theorem e_X5_digit_27 : g_dc cX5_digit 27 (.ifCond .eq 10) 3 30 := ⟨by decide +kernel, rfl⟩
theorem e_X5_digit_30 : g_dc cX5_digit 30 (.iload_n 3) 1 31 := ⟨by decide +kernel, rfl⟩
theorem e_X5_digit_31 : g_dc cX5_digit 31 (.bipush 48) 2 33 := ⟨by decide +kernel, rfl⟩
theorem e_X5_digit_33 : g_dc cX5_digit 33 (.isub) 1 34 := ⟨by decide +kernel, rfl⟩
theorem e_X5_digit_34 : g_dc cX5_digit 34 (.goto 4) 3 37 := ⟨by decide +kernel, rfl⟩
theorem e_X5_digit_37 : g_dc cX5_digit 37 (.iconst (-1)) 1 38 := ⟨by decide +kernel, rfl⟩
theorem e_X5_digit_38 : g_dc cX5_digit 38 (.ireturn) 1 39 := ⟨by decide +kernel, rfl⟩
set_option maxHeartbeats 4000000 in
set_option maxRecDepth 100000 in
theorem w_X5_digit_r9 (l : Launch) (X : gX) (ad : Nat → Nat) (F : Nat → Int32) (R : Nat → Nat → Int32) (hI : g_ok LK_wX F) (hA : g_okR LA_wX R) (a1 : Int32) (a2 : Int32) : g_Ci l X yX5_digit cX5_digit 4 (some .int) 3 0 0 [.ref (ad 9), .int a1, .int a2] (wX X ad F R) (fun r w => w = wX X ad F R ∧ jv (-1) 14 r ∧ r = sp_X5_digit_r9 F R a1 a2) := by
  refine g_mi (by decide +kernel) (Nat.le_of_ble_eq_true rfl) (fun E cx hret => ?_)
  obtain ⟨SP, hSP⟩ : ∃ z, z = sp_X5_digit_r9 F R a1 a2 := ⟨_, rfl⟩
  have hk0 := hSP
  unfold sp_X5_digit_r9 at hk0
  refine g_aload_n cx 0 rfl e_X5_digit_0 ?_
  refine g_ifnull cx e_X5_digit_1 ?_
  refine g_iload_n cx 1 rfl e_X5_digit_4 ?_
  refine g_iload_n cx 2 rfl e_X5_digit_5 ?_
  have J18 : ∀ (y1 : Int32), (jv (-2147483648) 2147483647 y1) → (SP = K_X5_digit_r9_18 y1) → G X E 4 0 0 (wX X ad F R) [] 18 [.int y1] := by
    intro y1 py1 hkJ18
    unfold K_X5_digit_r9_18 at hkJ18
    refine g_istore_n cx [(3, .int y1)] e_X5_digit_18 (by decide) rfl ?_
    refine g_iload_n cx 0 rfl e_X5_digit_19 ?_
    refine g_bipush cx 48 (by decide) e_X5_digit_20 ?_
    refine g_bipush cx 57 (by decide) e_X5_digit_22 ?_
    refine g_cNiW cx [.int y1, .int 48, .int 57] [] (c_X10_within l X (wX X ad F R) y1 48 57) mn_X5_46 yS_X10_within e_X5_digit_24 (by unfold g_rr; decide) (by decide) rfl (Nat.le_of_ble_eq_true rfl) (fun r2 w3 h4 => ?_)
    obtain ⟨rfl, hr2⟩ := h4
    have pr2 : jv 0 1 r2 := by rw [hr2]; exact gi_01 _ _ _
    have hk5 := k_ls hkJ18 hr2
    have J38 : ∀ (y6 : Int32), (jv (-1) 14 y6) → (SP = K_X5_digit_r9_38 y6) → G X E 4 0 0 (wX X ad F R) [] 38 [.int y6] := by
      intro y6 py6 hkJ38
      unfold K_X5_digit_r9_38 at hkJ38
      exact hret e_X5_digit_38 (Nat.le_of_ble_eq_true rfl) (Nat.le_of_ble_eq_true rfl) rfl ⟨rfl, py6, (hkJ38.symm.trans hSP)⟩
    refine g_if_eq cx 37 e_X5_digit_27 (by decide) (fun zc7 => ?_) (fun zc7 => ?_)
    · have p8 := gn_eq 0 0 (gc_eq zc7) pr2 (jv_k (x := 0) 0 (by decide)) (by decide)
      have hk9 := hk5.trans (if_pos zc7)
      refine g_iconst cx (-1) (by decide) e_X5_digit_37 ?_
      refine g_lsub [] [] rfl ?_
      exact J38 (-1) (jv_w (jv_k (x := (-1)) (-1) (by decide)) (by decide)) hk9
    · have p10 := gn_neL 1 1 (gc_ne zc7) pr2 (jv_k (x := 0) 0 (by decide)) (by decide)
      have p11 := jv_i 48 57 py1 (gi_in (A := 48) (B := 57) hr2 zc7 (by decide) (by decide)) (by decide)
      have hk12 := hk5.trans (if_neg zc7)
      refine g_iload_n cx 0 rfl e_X5_digit_30 ?_
      refine g_bipush cx 48 (by decide) e_X5_digit_31 ?_
      refine g_isub cx e_X5_digit_33 ?_
      refine g_topi (fun x13 ex13 => ?_)
      have hk14 := k_ls hk12 ex13
      have zx13 := jv_sub 0 9 ex13 p11 (jv_k (x := 48) 48 (by decide)) (by decide)
      refine g_goto cx 38 e_X5_digit_34 (by decide) ?_
      refine g_lsub [] [] rfl ?_
      exact J38 x13 (jv_w zx13.2 (by decide)) hk14
  refine g_icmp_ge cx 17 e_X5_digit_6 (by decide) (fun zc15 => ?_) (fun zc15 => ?_)
  · have hk16 := hk0.trans (if_pos zc15)
    refine g_iconst cx (-1) (by decide) e_X5_digit_17 ?_
    refine g_lsub [] [] rfl ?_
    exact J18 (-1) (jv_w (jv_k (x := (-1)) (-1) (by decide)) (by decide)) hk16
  · have p17 := gn_lt (-2147483648) 2147483646 (gc_nle zc15) (jv_t a1) (jv_t a2) (by decide)
    have p18 := gn_gt (-2147483647) 2147483647 (gc_nle zc15) (jv_t a2) (jv_t a1) (by decide)
    have hk19 := hk0.trans (if_neg zc15)
    refine g_aload_n cx 0 rfl e_X5_digit_9 ?_
    refine g_iload_n cx 1 rfl e_X5_digit_10 ?_
    refine g_cViW cx [.int a1] [] (w_X9_at l X ad F R hI hA a1) ml_X5_40 yV_X9_at e_X5_digit_11 (by unfold g_rr; decide) (by decide) 9 rfl rfl rfl (Nat.le_of_ble_eq_true rfl) (fun r20 w21 h22 => ?_)
    obtain ⟨rfl, pr20, hx23⟩ := h22
    have hk24 := k_ls hk19 hx23
    refine g_goto cx 18 e_X5_digit_14 (by decide) ?_
    refine g_lsub [] [] rfl ?_
    exact J18 r20 pr20 hk24
def K_X5_add_13_42 (F2 : Nat → Int32) (R3 : Nat → Nat → Int32)  : (Nat → Int32) × (Nat → Nat → Int32) :=
  (F2, R3)
def KB_X5_add_13_2 (b2 : (Nat → Int32) → (Nat → Nat → Int32) → (Int32) → (Nat → Int32) × (Nat → Nat → Int32)) (a0 : Int32) (a1 : Int32) (F2 : Nat → Int32) (R3 : Nat → Nat → Int32) (y1 : Int32) : (Nat → Int32) × (Nat → Nat → Int32) :=
  if a1 ≤ y1 then K_X5_add_13_42 F2 R3 else if 60 ≤ (F2 209) then K_X5_add_13_42 F2 R3 else k_lt (g_u R3 14 (upd (R3 14) (Int32.toNatClampNeg (F2 209)) a0)) (fun R14 => k_lt ((F2 209) + 1) (fun x16 => k_lt (upd F2 209 x16) (fun F18 => k_lt (y1 + 1) (fun x20 => b2 F18 R14 x20))))
def K_X5_add_13_2 (a0 : Int32) (a1 : Int32) : Nat → (Nat → Int32) → (Nat → Nat → Int32) → (Int32) → (Nat → Int32) × (Nat → Nat → Int32)
  | 0 => fun F2 R3 _ => (F2, R3)
  | n + 1 => KB_X5_add_13_2 (K_X5_add_13_2 a0 a1 n) a0 a1
def sp_X5_add_13 (F : Nat → Int32) (R : Nat → Nat → Int32) (a0 : Int32) (a1 : Int32) : (Nat → Int32) × (Nat → Nat → Int32) :=
  K_X5_add_13_2 a0 a1 8589934592 F R 0
theorem e_X5_add_0 : g_dc cX5_add 0 (.iconst 0) 1 1 := ⟨by decide +kernel, rfl⟩
theorem e_X5_add_1 : g_dc cX5_add 1 (.istore_n 3) 1 2 := ⟨by decide +kernel, rfl⟩
theorem e_X5_add_2 : g_dc cX5_add 2 (.iload_n 3) 1 3 := ⟨by decide +kernel, rfl⟩
theorem e_X5_add_3 : g_dc cX5_add 3 (.iload_n 2) 1 4 := ⟨by decide +kernel, rfl⟩
theorem e_X5_add_4 : g_dc cX5_add 4 (.if_icmp .ge 38) 3 7 := ⟨by decide +kernel, rfl⟩
theorem e_X5_add_7 : g_dc cX5_add 7 (.aload_n 0) 1 8 := ⟨by decide +kernel, rfl⟩
theorem e_X5_add_8 : g_dc cX5_add 8 (.getfield 15) 3 11 := ⟨by decide +kernel, rfl⟩
theorem e_X5_add_11 : g_dc cX5_add 11 (.bipush 60) 2 13 := ⟨by decide +kernel, rfl⟩
theorem e_X5_add_13 : g_dc cX5_add 13 (.if_icmp .ge 29) 3 16 := ⟨by decide +kernel, rfl⟩
theorem e_X5_add_16 : g_dc cX5_add 16 (.aload_n 0) 1 17 := ⟨by decide +kernel, rfl⟩
theorem e_X5_add_17 : g_dc cX5_add 17 (.getfield 9) 3 20 := ⟨by decide +kernel, rfl⟩
theorem e_X5_add_20 : g_dc cX5_add 20 (.aload_n 0) 1 21 := ⟨by decide +kernel, rfl⟩
theorem e_X5_add_21 : g_dc cX5_add 21 (.getfield 15) 3 24 := ⟨by decide +kernel, rfl⟩
theorem e_X5_add_24 : g_dc cX5_add 24 (.iload_n 1) 1 25 := ⟨by decide +kernel, rfl⟩
theorem e_X5_add_25 : g_dc cX5_add 25 (.iastore) 1 26 := ⟨by decide +kernel, rfl⟩
theorem e_X5_add_26 : g_dc cX5_add 26 (.aload_n 0) 1 27 := ⟨by decide +kernel, rfl⟩
theorem e_X5_add_27 : g_dc cX5_add 27 (.dup) 1 28 := ⟨by decide +kernel, rfl⟩
theorem e_X5_add_28 : g_dc cX5_add 28 (.getfield 15) 3 31 := ⟨by decide +kernel, rfl⟩
theorem e_X5_add_31 : g_dc cX5_add 31 (.iconst 1) 1 32 := ⟨by decide +kernel, rfl⟩
theorem e_X5_add_32 : g_dc cX5_add 32 (.iadd) 1 33 := ⟨by decide +kernel, rfl⟩
theorem e_X5_add_33 : g_dc cX5_add 33 (.putfield 15) 3 36 := ⟨by decide +kernel, rfl⟩
theorem e_X5_add_36 : g_dc cX5_add 36 (.iinc 3 1) 3 39 := ⟨by decide +kernel, rfl⟩
theorem e_X5_add_39 : g_dc cX5_add 39 (.goto (-37)) 3 42 := ⟨by decide +kernel, rfl⟩
theorem e_X5_add_42 : g_dc cX5_add 42 (.return_) 1 43 := ⟨by decide +kernel, rfl⟩
def md_X5_add_13 : List Nat := [209]
def mr_X5_add_13 : List Nat := [14]
set_option maxHeartbeats 4000000 in
set_option maxRecDepth 100000 in
theorem w_X5_add_13 (l : Launch) (X : gX) (ad : Nat → Nat) (F : Nat → Int32) (R : Nat → Nat → Int32) (hI : g_ok LK_wX F) (hA : g_okR LA_wX R) (a0 : Int32) (a1 : Int32) : g_Cv l X yX5_add cX5_add 4 1 0 0 [.ref (ad 13), .int a0, .int a1] (wX X ad F R) (fun w => ∃ (F' : Nat → Int32) (R' : Nat → Nat → Int32), w = wX X ad F' R' ∧ g_ok LK_wX F' ∧ g_okR LA_wX R' ∧ g_fr md_X5_add_13 F F' ∧ g_fr mr_X5_add_13 R R' ∧ (F', R') = sp_X5_add_13 F R a0 a1) := by
  refine g_mv (by decide +kernel) (Nat.le_of_ble_eq_true rfl) (fun E cx hret => ?_)
  obtain ⟨SP, hSP⟩ : ∃ z, z = sp_X5_add_13 F R a0 a1 := ⟨_, rfl⟩
  have hk0 := hSP
  unfold sp_X5_add_13 at hk0
  refine g_iconst cx 0 (by decide) e_X5_add_0 ?_
  refine g_istore_n cx [(3, .int 0), (0, .ref (ad 13)), (1, .int a0), (2, .int a1)] e_X5_add_1 (by decide) rfl ?_
  have J2 : ∀ (N : Nat) (F2 : Nat → Int32) (R3 : Nat → Nat → Int32) (y1 : Int32), (g_ok LK_wX F2) → (g_fr md_X5_add_13 F F2) → (g_okR LA_wX R3) → (g_fr mr_X5_add_13 R R3) → (jv 0 2147483647 y1) → (SP = K_X5_add_13_2 a0 a1 N F2 R3 y1) → (2147483647 - y1.toInt).toNat < N → G X E 4 0 0 (wX X ad F2 R3) [(0, .ref (ad 13)), (1, .int a0), (2, .int a1), (3, .int y1)] 2 [] := by
    intro N
    induction N with
    | zero => intro F2 R3 y1 oF2 fF2 oR3 fR3 py1 hkJ2 hm; exact absurd hm (Nat.not_lt_zero _)
    | succ N ih2 =>
      intro F2 R3 y1 oF2 fF2 oR3 fR3 py1 hkJ2 hm2
      have hkK2 : SP = KB_X5_add_13_2 (K_X5_add_13_2 a0 a1 N) a0 a1 F2 R3 y1 := hkJ2
      obtain ⟨b2, hb2⟩ : ∃ z, z = K_X5_add_13_2 a0 a1 N := ⟨_, rfl⟩
      rw [← hb2] at hkK2
      unfold KB_X5_add_13_2 at hkK2
      refine g_iload_n cx 3 rfl e_X5_add_2 ?_
      refine g_iload_n cx 2 rfl e_X5_add_3 ?_
      have J42 : (SP = K_X5_add_13_42 F2 R3) → G X E 4 0 0 (wX X ad F2 R3) [] 42 [] := by
        intro   hkJ42
        unfold K_X5_add_13_42 at hkJ42
        exact hret e_X5_add_42 (Nat.le_of_ble_eq_true rfl) (Nat.le_of_ble_eq_true rfl) ⟨F2, R3, rfl, oF2, oR3, fF2, fR3, (hkJ42.symm.trans hSP)⟩
      refine g_icmp_ge cx 42 e_X5_add_4 (by decide) (fun zc4 => ?_) (fun zc4 => ?_)
      · have hk5 := hkK2.trans (if_pos zc4)
        refine g_lsub [] [] rfl ?_
        exact J42  hk5
      · have p6 := gn_lt 0 2147483646 (gc_nle zc4) py1 (jv_t a1) (by decide)
        have p7 := gn_gt 1 2147483647 (gc_nle zc4) (jv_t a1) py1 (by decide)
        have hk8 := hkK2.trans (if_neg zc4)
        refine g_aload_n cx 0 rfl e_X5_add_7 ?_
        refine g_get cx cl_X5 fl_X5_15 13 (.int (F2 209)) e_X5_add_8 rfl rfl ?_
        refine g_bipush cx 60 (by decide) e_X5_add_11 ?_
        refine g_icmp_ge cx 42 e_X5_add_13 (by decide) (fun zc9 => ?_) (fun zc9 => ?_)
        · have p10 := gn_ge 60 60 (gc_le zc9) (g_ok_g oF2 3 rfl) (jv_k (x := 60) 60 (by decide)) (by decide)
          have hk11 := hk8.trans (if_pos zc9)
          refine g_lsub [] [] rfl ?_
          exact J42  hk11
        · have p12 := gn_lt 0 59 (gc_nle zc9) (g_ok_g oF2 3 rfl) (jv_k (x := 60) 60 (by decide)) (by decide)
          have hk13 := hk8.trans (if_neg zc9)
          refine g_aload_n cx 0 rfl e_X5_add_16 ?_
          refine g_get cx cl_X5 fl_X5_9 13 (.ref (ad 14)) e_X5_add_17 rfl rfl ?_
          refine g_aload_n cx 0 rfl e_X5_add_20 ?_
          refine g_get cx cl_X5 fl_X5_15 13 (.int (F2 209)) e_X5_add_21 rfl rfl ?_
          refine g_iload_n cx 1 rfl e_X5_add_24 ?_
          refine g_iast cx 14 (wX X ad F2 (g_u R3 14 (upd (R3 14) (Int32.toNatClampNeg (F2 209)) a0))) e_X5_add_25 rfl (jv_ix 60 p12 (by decide)) rfl ?_
          obtain ⟨R14, hR14⟩ : ∃ z, z = g_u R3 14 (upd (R3 14) (Int32.toNatClampNeg (F2 209)) a0) := ⟨_, rfl⟩
          rw [← hR14]
          have hk15 := k_ls hk13 hR14
          have oR14 : g_okR LA_wX R14 := by rw [hR14]; exact g_okR_u oR3 rfl
          have fR14 : g_fr mr_X5_add_13 R R14 := by rw [hR14]; exact g_fr_r fR3 rfl
          refine g_aload_n cx 0 rfl e_X5_add_26 ?_
          refine g_dup cx rfl e_X5_add_27 ?_
          refine g_get cx cl_X5 fl_X5_15 13 (.int (F2 209)) e_X5_add_28 rfl rfl ?_
          refine g_iconst cx 1 (by decide) e_X5_add_31 ?_
          refine g_iadd cx e_X5_add_32 ?_
          refine g_topi (fun x16 ex16 => ?_)
          have hk17 := k_ls hk15 ex16
          have zx16 := jv_add 1 60 ex16 p12 (jv_k (x := 1) 1 (by decide)) (by decide)
          refine g_put cx cl_X5 fl_X5_15 13 (wX X ad (upd F2 209 x16) R14) e_X5_add_33 rfl rfl rfl rfl (Nat.le_of_ble_eq_true rfl) rfl ?_
          obtain ⟨F18, hF18⟩ : ∃ z, z = upd F2 209 x16 := ⟨_, rfl⟩
          rw [← hF18]
          have hk19 := k_ls hk17 hF18
          have oF18 : g_ok LK_wX F18 := by rw [hF18]; exact g_ok_p oF2 zx16.2 rfl
          have fF18 : g_fr md_X5_add_13 F F18 := by rw [hF18]; exact g_fr_u fF2 rfl
          obtain ⟨x20, ex20⟩ : ∃ z : Int32, z = y1 + Int32.ofInt 1 := ⟨_, rfl⟩
          have hk21 := k_ls hk19 (show x20 = y1 + 1 from ex20)
          refine g_iinc cx x20 [(3, .int x20), (0, .ref (ad 13)), (1, .int a0), (2, .int a1)] 3 e_X5_add_36 rfl ex20.symm (by decide) rfl ?_
          have zx20 := jv_add 1 2147483647 (show x20 = y1 + 1 from ex20) p6 (jv_k (x := 1) 1 (by decide)) (by decide)
          refine g_goto cx 2 e_X5_add_39 (by decide) ?_
          refine g_lsub [1, 2, 3, 0] [(0, .ref (ad 13)), (1, .int a0), (2, .int a1), (3, .int x20)] rfl ?_
          exact ih2 F18 R14 x20 oF18 fF18 oR14 fR14 (jv_w zx20.2 (by decide)) (hk21.trans (by rw [hb2])) (Nat.lt_of_lt_of_le (show (2147483647 - x20.toInt).toNat < (2147483647 - y1.toInt).toNat from by have q0 := (jv_k (x := 1) 1 (by decide)).1; have q1 := (jv_k (x := 1) 1 (by decide)).2; have q2 := (jv_k (x := 60) 60 (by decide)).1; have q3 := (jv_k (x := 60) 60 (by decide)).2; have q4 := p12.1; have q5 := p12.2; have q6 := p7.1; have q7 := p7.2; have q8 := zx16.2.1; have q9 := zx16.2.2; have q10 := zx20.2.1; have q11 := zx20.2.2; have q12 := p6.1; have q13 := p6.2; have q14 := (gc_nle zc4); have q15 := (gc_nle zc9); have q16 := (g_eq0 zx16.1); have q17 := (g_eq0 zx20.1); omega) (Nat.le_of_lt_succ hm2))
  refine g_lsub [1, 2, 3, 0] [(0, .ref (ad 13)), (1, .int a0), (2, .int a1), (3, .int 0)] rfl ?_
  exact J2 8589934592 F R 0 hI (g_fr_rf F) hA (g_fr_rf R) (jv_w (jv_k (x := 0) 0 (by decide)) (by decide)) hk0 (show (2147483647 - (0 : Int32).toInt).toNat < 8589934592 from by have q0 := (jv_k (x := 0) 0 (by decide)).1; have q1 := (jv_k (x := 0) 0 (by decide)).2; omega)
def sp_X5_fault (F : Nat → Int32) (R : Nat → Nat → Int32) (a0 : Int32) (a1 : Int32) : Int32 :=
  k_lt ((-1000) * a0) (fun x1 => k_lt (x1 - a1) (fun x3 => x3))
theorem e_X5_fault_0 : g_dc cX5_fault 0 (.sipush (-1000)) 3 3 := ⟨by decide +kernel, rfl⟩
theorem e_X5_fault_3 : g_dc cX5_fault 3 (.iload_n 0) 1 4 := ⟨by decide +kernel, rfl⟩
theorem e_X5_fault_4 : g_dc cX5_fault 4 (.imul) 1 5 := ⟨by decide +kernel, rfl⟩
theorem e_X5_fault_5 : g_dc cX5_fault 5 (.iload_n 1) 1 6 := ⟨by decide +kernel, rfl⟩
theorem e_X5_fault_6 : g_dc cX5_fault 6 (.isub) 1 7 := ⟨by decide +kernel, rfl⟩
theorem e_X5_fault_7 : g_dc cX5_fault 7 (.ireturn) 1 8 := ⟨by decide +kernel, rfl⟩
set_option maxHeartbeats 4000000 in
set_option maxRecDepth 100000 in
theorem w_X5_fault (l : Launch) (X : gX) (ad : Nat → Nat) (F : Nat → Int32) (R : Nat → Nat → Int32) (hI : g_ok LK_wX F) (hA : g_okR LA_wX R) (a0 : Int32) (a1 : Int32) : g_Ci l X yX5_fault cX5_fault 2 (some .int) 1 0 0 [.int a0, .int a1] (wX X ad F R) (fun r w => w = wX X ad F R ∧ jv (-2147483648) 2147483647 r ∧ r = sp_X5_fault F R a0 a1) := by
  refine g_mi (by decide +kernel) (Nat.le_of_ble_eq_true rfl) (fun E cx hret => ?_)
  obtain ⟨SP, hSP⟩ : ∃ z, z = sp_X5_fault F R a0 a1 := ⟨_, rfl⟩
  have hk0 := hSP
  unfold sp_X5_fault at hk0
  refine g_sipush cx (-1000) (by decide) e_X5_fault_0 ?_
  refine g_iload_n cx 0 rfl e_X5_fault_3 ?_
  refine g_imul cx e_X5_fault_4 ?_
  refine g_topi (fun x1 ex1 => ?_)
  have hk2 := k_ls hk0 ex1
  refine g_iload_n cx 1 rfl e_X5_fault_5 ?_
  refine g_isub cx e_X5_fault_6 ?_
  refine g_topi (fun x3 ex3 => ?_)
  have hk4 := k_ls hk2 ex3
  exact hret e_X5_fault_7 (Nat.le_of_ble_eq_true rfl) (Nat.le_of_ble_eq_true rfl) rfl ⟨rfl, (jv_t x3), (hk4.symm.trans hSP)⟩
def K_X5_read_13_r9_154 (b20 : (Nat → Int32) → (Nat → Nat → Int32) → (Int32) → (Int32) → Int32 × (Nat → Int32) × (Nat → Nat → Int32)) (F5 : Nat → Int32) (R6 : Nat → Nat → Int32) (a1 : Int32) (y3 : Int32) (y4 : Int32) (y32 : Int32) (y36 : Int32) (y37 : Int32) : Int32 × (Nat → Int32) × (Nat → Nat → Int32) :=
  k_lt ((F5 209) + y37) (fun x38 => if x38 ≤ 60 then k_lt2 (sp_X5_add_13 F5 R6 y32 y37) (fun F47 R48 => if y36 < a1 then k_lt (sp_X9_at F47 R48 y36) (fun r54 => if r54 = 44 then k_lt (y36 + 1) (fun x62 => k_lt (y4 + 1) (fun x64 => b20 F47 R48 x62 x64)) else k_lt (sp_X5_fault F47 R48 1 y36) (fun r67 => (r67, F47, R48))) else (0, F47, R48)) else k_lt (sp_X5_fault F5 R6 6 y3) (fun r75 => (r75, F5, R6)))
def K_X5_read_13_r9_95 (b20 : (Nat → Int32) → (Nat → Nat → Int32) → (Int32) → (Int32) → Int32 × (Nat → Int32) × (Nat → Nat → Int32)) (F5 : Nat → Int32) (R6 : Nat → Nat → Int32) (a1 : Int32) (y3 : Int32) (y4 : Int32) (y31 : Int32) (y32 : Int32) : Int32 × (Nat → Int32) × (Nat → Nat → Int32) :=
  if y32 ≤ 40 then if a1 ≤ y31 then K_X5_read_13_r9_154 b20 F5 R6 a1 y3 y4 y32 y31 1 else k_lt (sp_X9_at F5 R6 y31) (fun r85 => if r85 = 42 then k_lt (y31 + 1) (fun x94 => k_lt (sp_X5_digit_r9 F5 R6 x94 a1) (fun r96 => if 2 ≤ r96 then k_lt (y31 + 2) (fun x104 => K_X5_read_13_r9_154 b20 F5 R6 a1 y3 y4 y32 x104 r96) else k_lt (y31 + 1) (fun x108 => k_lt (sp_X5_fault F5 R6 1 x108) (fun r110 => (r110, F5, R6))))) else K_X5_read_13_r9_154 b20 F5 R6 a1 y3 y4 y32 y31 1) else k_lt (sp_X5_fault F5 R6 3 y3) (fun r117 => (r117, F5, R6))
def KB_X5_read_13_r9_20 (b20 : (Nat → Int32) → (Nat → Nat → Int32) → (Int32) → (Int32) → Int32 × (Nat → Int32) × (Nat → Nat → Int32)) (a1 : Int32) (F5 : Nat → Int32) (R6 : Nat → Nat → Int32) (y3 : Int32) (y4 : Int32) : Int32 × (Nat → Int32) × (Nat → Nat → Int32) :=
  k_lt (sp_X5_digit_r9 F5 R6 y3 a1) (fun r8 => if 0 ≤ r8 then if y4 = 20 then k_lt (sp_X5_fault F5 R6 4 y3) (fun r140 => (r140, F5, R6)) else k_lt (sp_X5_digit_r9 F5 R6 y3 a1) (fun r19 => k_lt (y3 + 1) (fun x24 => k_lt (sp_X5_digit_r9 F5 R6 x24 a1) (fun r26 => if r26 < 0 then K_X5_read_13_r9_95 b20 F5 R6 a1 y3 y4 x24 r19 else k_lt (r19 * 10) (fun x127 => k_lt (sp_X5_digit_r9 F5 R6 x24 a1) (fun r129 => k_lt (x127 + r129) (fun x134 => k_lt (x24 + 1) (fun x136 => K_X5_read_13_r9_95 b20 F5 R6 a1 y3 y4 x136 x134))))))) else k_lt (sp_X5_fault F5 R6 1 y3) (fun r147 => (r147, F5, R6)))
def K_X5_read_13_r9_20 (a1 : Int32) : Nat → (Nat → Int32) → (Nat → Nat → Int32) → (Int32) → (Int32) → Int32 × (Nat → Int32) × (Nat → Nat → Int32)
  | 0 => fun F5 R6 _ _ => (0, F5, R6)
  | n + 1 => KB_X5_read_13_r9_20 (K_X5_read_13_r9_20 a1 n) a1
def sp_X5_read_13_r9 (F : Nat → Int32) (R : Nat → Nat → Int32) (a1 : Int32) : Int32 × (Nat → Int32) × (Nat → Nat → Int32) :=
  k_lt (upd F 209 0) (fun F1 => K_X5_read_13_r9_20 a1 8589934592 F1 R 0 0)
theorem e_X5_read_0 : g_dc cX5_read 0 (.aload_n 1) 1 1 := ⟨by decide +kernel, rfl⟩
theorem e_X5_read_1 : g_dc cX5_read 1 (.ifnonnull 9) 3 4 := ⟨by decide +kernel, rfl⟩
theorem e_X5_read_10 : g_dc cX5_read 10 (.aload_n 0) 1 11 := ⟨by decide +kernel, rfl⟩
theorem e_X5_read_11 : g_dc cX5_read 11 (.iconst 0) 1 12 := ⟨by decide +kernel, rfl⟩
theorem e_X5_read_12 : g_dc cX5_read 12 (.putfield 15) 3 15 := ⟨by decide +kernel, rfl⟩
theorem e_X5_read_15 : g_dc cX5_read 15 (.iconst 0) 1 16 := ⟨by decide +kernel, rfl⟩
theorem e_X5_read_16 : g_dc cX5_read 16 (.istore_n 3) 1 17 := ⟨by decide +kernel, rfl⟩
theorem e_X5_read_17 : g_dc cX5_read 17 (.iconst 0) 1 18 := ⟨by decide +kernel, rfl⟩
theorem e_X5_read_18 : g_dc cX5_read 18 (.istore 4) 2 20 := ⟨by decide +kernel, rfl⟩
theorem e_X5_read_20 : g_dc cX5_read 20 (.iload 4) 2 22 := ⟨by decide +kernel, rfl⟩
theorem e_X5_read_22 : g_dc cX5_read 22 (.bipush 20) 2 24 := ⟨by decide +kernel, rfl⟩
theorem e_X5_read_24 : g_dc cX5_read 24 (.if_icmp .gt 190) 3 27 := ⟨by decide +kernel, rfl⟩
theorem e_X5_read_27 : g_dc cX5_read 27 (.iload_n 3) 1 28 := ⟨by decide +kernel, rfl⟩
theorem e_X5_read_28 : g_dc cX5_read 28 (.istore 5) 2 30 := ⟨by decide +kernel, rfl⟩
theorem e_X5_read_30 : g_dc cX5_read 30 (.aload_n 1) 1 31 := ⟨by decide +kernel, rfl⟩
theorem e_X5_read_31 : g_dc cX5_read 31 (.iload_n 3) 1 32 := ⟨by decide +kernel, rfl⟩
theorem e_X5_read_32 : g_dc cX5_read 32 (.iload_n 2) 1 33 := ⟨by decide +kernel, rfl⟩
theorem e_X5_read_33 : g_dc cX5_read 33 (.invokestatic 36) 3 36 := ⟨by decide +kernel, rfl⟩
theorem e_X5_read_36 : g_dc cX5_read 36 (.ifCond .ge 9) 3 39 := ⟨by decide +kernel, rfl⟩
theorem e_X5_read_39 : g_dc cX5_read 39 (.iconst 1) 1 40 := ⟨by decide +kernel, rfl⟩
theorem e_X5_read_40 : g_dc cX5_read 40 (.iload_n 3) 1 41 := ⟨by decide +kernel, rfl⟩
theorem e_X5_read_41 : g_dc cX5_read 41 (.invokestatic 32) 3 44 := ⟨by decide +kernel, rfl⟩
theorem e_X5_read_44 : g_dc cX5_read 44 (.ireturn) 1 45 := ⟨by decide +kernel, rfl⟩
theorem e_X5_read_45 : g_dc cX5_read 45 (.iload 4) 2 47 := ⟨by decide +kernel, rfl⟩
theorem e_X5_read_47 : g_dc cX5_read 47 (.bipush 20) 2 49 := ⟨by decide +kernel, rfl⟩
theorem e_X5_read_49 : g_dc cX5_read 49 (.if_icmp .ne 9) 3 52 := ⟨by decide +kernel, rfl⟩
theorem e_X5_read_52 : g_dc cX5_read 52 (.iconst 4) 1 53 := ⟨by decide +kernel, rfl⟩
theorem e_X5_read_53 : g_dc cX5_read 53 (.iload_n 3) 1 54 := ⟨by decide +kernel, rfl⟩
theorem e_X5_read_54 : g_dc cX5_read 54 (.invokestatic 32) 3 57 := ⟨by decide +kernel, rfl⟩
theorem e_X5_read_57 : g_dc cX5_read 57 (.ireturn) 1 58 := ⟨by decide +kernel, rfl⟩
theorem e_X5_read_58 : g_dc cX5_read 58 (.aload_n 1) 1 59 := ⟨by decide +kernel, rfl⟩
theorem e_X5_read_59 : g_dc cX5_read 59 (.iload_n 3) 1 60 := ⟨by decide +kernel, rfl⟩
theorem e_X5_read_60 : g_dc cX5_read 60 (.iload_n 2) 1 61 := ⟨by decide +kernel, rfl⟩
theorem e_X5_read_61 : g_dc cX5_read 61 (.invokestatic 36) 3 64 := ⟨by decide +kernel, rfl⟩
theorem e_X5_read_64 : g_dc cX5_read 64 (.istore 6) 2 66 := ⟨by decide +kernel, rfl⟩
theorem e_X5_read_66 : g_dc cX5_read 66 (.iinc 3 1) 3 69 := ⟨by decide +kernel, rfl⟩
theorem e_X5_read_69 : g_dc cX5_read 69 (.aload_n 1) 1 70 := ⟨by decide +kernel, rfl⟩
theorem e_X5_read_70 : g_dc cX5_read 70 (.iload_n 3) 1 71 := ⟨by decide +kernel, rfl⟩
theorem e_X5_read_71 : g_dc cX5_read 71 (.iload_n 2) 1 72 := ⟨by decide +kernel, rfl⟩
theorem e_X5_read_72 : g_dc cX5_read 72 (.invokestatic 36) 3 75 := ⟨by decide +kernel, rfl⟩
theorem e_X5_read_75 : g_dc cX5_read 75 (.ifCond .lt 20) 3 78 := ⟨by decide +kernel, rfl⟩
theorem e_X5_read_78 : g_dc cX5_read 78 (.iload 6) 2 80 := ⟨by decide +kernel, rfl⟩
theorem e_X5_read_80 : g_dc cX5_read 80 (.bipush 10) 2 82 := ⟨by decide +kernel, rfl⟩
theorem e_X5_read_82 : g_dc cX5_read 82 (.imul) 1 83 := ⟨by decide +kernel, rfl⟩
theorem e_X5_read_83 : g_dc cX5_read 83 (.aload_n 1) 1 84 := ⟨by decide +kernel, rfl⟩
theorem e_X5_read_84 : g_dc cX5_read 84 (.iload_n 3) 1 85 := ⟨by decide +kernel, rfl⟩
theorem e_X5_read_85 : g_dc cX5_read 85 (.iload_n 2) 1 86 := ⟨by decide +kernel, rfl⟩
theorem e_X5_read_86 : g_dc cX5_read 86 (.invokestatic 36) 3 89 := ⟨by decide +kernel, rfl⟩
theorem e_X5_read_89 : g_dc cX5_read 89 (.iadd) 1 90 := ⟨by decide +kernel, rfl⟩
theorem e_X5_read_90 : g_dc cX5_read 90 (.istore 6) 2 92 := ⟨by decide +kernel, rfl⟩
theorem e_X5_read_92 : g_dc cX5_read 92 (.iinc 3 1) 3 95 := ⟨by decide +kernel, rfl⟩
theorem e_X5_read_95 : g_dc cX5_read 95 (.iload 6) 2 97 := ⟨by decide +kernel, rfl⟩
theorem e_X5_read_97 : g_dc cX5_read 97 (.bipush 40) 2 99 := ⟨by decide +kernel, rfl⟩
theorem e_X5_read_99 : g_dc cX5_read 99 (.if_icmp .le 10) 3 102 := ⟨by decide +kernel, rfl⟩
theorem e_X5_read_102 : g_dc cX5_read 102 (.iconst 3) 1 103 := ⟨by decide +kernel, rfl⟩
theorem e_X5_read_103 : g_dc cX5_read 103 (.iload 5) 2 105 := ⟨by decide +kernel, rfl⟩
theorem e_X5_read_105 : g_dc cX5_read 105 (.invokestatic 32) 3 108 := ⟨by decide +kernel, rfl⟩
theorem e_X5_read_108 : g_dc cX5_read 108 (.ireturn) 1 109 := ⟨by decide +kernel, rfl⟩
theorem e_X5_read_109 : g_dc cX5_read 109 (.iconst 1) 1 110 := ⟨by decide +kernel, rfl⟩
theorem e_X5_read_110 : g_dc cX5_read 110 (.istore 7) 2 112 := ⟨by decide +kernel, rfl⟩
theorem e_X5_read_112 : g_dc cX5_read 112 (.iload_n 3) 1 113 := ⟨by decide +kernel, rfl⟩
theorem e_X5_read_113 : g_dc cX5_read 113 (.iload_n 2) 1 114 := ⟨by decide +kernel, rfl⟩
theorem e_X5_read_114 : g_dc cX5_read 114 (.if_icmp .ge 40) 3 117 := ⟨by decide +kernel, rfl⟩
theorem e_X5_read_117 : g_dc cX5_read 117 (.aload_n 1) 1 118 := ⟨by decide +kernel, rfl⟩
theorem e_X5_read_118 : g_dc cX5_read 118 (.iload_n 3) 1 119 := ⟨by decide +kernel, rfl⟩
theorem e_X5_read_119 : g_dc cX5_read 119 (.invokevirtual 40) 3 122 := ⟨by decide +kernel, rfl⟩
theorem e_X5_read_122 : g_dc cX5_read 122 (.bipush 42) 2 124 := ⟨by decide +kernel, rfl⟩
theorem e_X5_read_124 : g_dc cX5_read 124 (.if_icmp .ne 30) 3 127 := ⟨by decide +kernel, rfl⟩
theorem e_X5_read_127 : g_dc cX5_read 127 (.aload_n 1) 1 128 := ⟨by decide +kernel, rfl⟩
theorem e_X5_read_128 : g_dc cX5_read 128 (.iload_n 3) 1 129 := ⟨by decide +kernel, rfl⟩
theorem e_X5_read_129 : g_dc cX5_read 129 (.iconst 1) 1 130 := ⟨by decide +kernel, rfl⟩
theorem e_X5_read_130 : g_dc cX5_read 130 (.iadd) 1 131 := ⟨by decide +kernel, rfl⟩
theorem e_X5_read_131 : g_dc cX5_read 131 (.iload_n 2) 1 132 := ⟨by decide +kernel, rfl⟩
theorem e_X5_read_132 : g_dc cX5_read 132 (.invokestatic 36) 3 135 := ⟨by decide +kernel, rfl⟩
theorem e_X5_read_135 : g_dc cX5_read 135 (.istore 7) 2 137 := ⟨by decide +kernel, rfl⟩
theorem e_X5_read_137 : g_dc cX5_read 137 (.iload 7) 2 139 := ⟨by decide +kernel, rfl⟩
theorem e_X5_read_139 : g_dc cX5_read 139 (.iconst 2) 1 140 := ⟨by decide +kernel, rfl⟩
theorem e_X5_read_140 : g_dc cX5_read 140 (.if_icmp .ge 11) 3 143 := ⟨by decide +kernel, rfl⟩
theorem e_X5_read_143 : g_dc cX5_read 143 (.iconst 1) 1 144 := ⟨by decide +kernel, rfl⟩
theorem e_X5_read_144 : g_dc cX5_read 144 (.iload_n 3) 1 145 := ⟨by decide +kernel, rfl⟩
theorem e_X5_read_145 : g_dc cX5_read 145 (.iconst 1) 1 146 := ⟨by decide +kernel, rfl⟩
theorem e_X5_read_146 : g_dc cX5_read 146 (.iadd) 1 147 := ⟨by decide +kernel, rfl⟩
theorem e_X5_read_147 : g_dc cX5_read 147 (.invokestatic 32) 3 150 := ⟨by decide +kernel, rfl⟩
theorem e_X5_read_150 : g_dc cX5_read 150 (.ireturn) 1 151 := ⟨by decide +kernel, rfl⟩
theorem e_X5_read_151 : g_dc cX5_read 151 (.iinc 3 2) 3 154 := ⟨by decide +kernel, rfl⟩
theorem e_X5_read_154 : g_dc cX5_read 154 (.aload_n 0) 1 155 := ⟨by decide +kernel, rfl⟩
theorem e_X5_read_155 : g_dc cX5_read 155 (.getfield 15) 3 158 := ⟨by decide +kernel, rfl⟩
theorem e_X5_read_158 : g_dc cX5_read 158 (.iload 7) 2 160 := ⟨by decide +kernel, rfl⟩
theorem e_X5_read_160 : g_dc cX5_read 160 (.iadd) 1 161 := ⟨by decide +kernel, rfl⟩
theorem e_X5_read_161 : g_dc cX5_read 161 (.bipush 60) 2 163 := ⟨by decide +kernel, rfl⟩
theorem e_X5_read_163 : g_dc cX5_read 163 (.if_icmp .le 11) 3 166 := ⟨by decide +kernel, rfl⟩
theorem e_X5_read_166 : g_dc cX5_read 166 (.bipush 6) 2 168 := ⟨by decide +kernel, rfl⟩
theorem e_X5_read_168 : g_dc cX5_read 168 (.iload 5) 2 170 := ⟨by decide +kernel, rfl⟩
theorem e_X5_read_170 : g_dc cX5_read 170 (.invokestatic 32) 3 173 := ⟨by decide +kernel, rfl⟩
theorem e_X5_read_173 : g_dc cX5_read 173 (.ireturn) 1 174 := ⟨by decide +kernel, rfl⟩
theorem e_X5_read_174 : g_dc cX5_read 174 (.aload_n 0) 1 175 := ⟨by decide +kernel, rfl⟩
theorem e_X5_read_175 : g_dc cX5_read 175 (.iload 6) 2 177 := ⟨by decide +kernel, rfl⟩
theorem e_X5_read_177 : g_dc cX5_read 177 (.iload 7) 2 179 := ⟨by decide +kernel, rfl⟩
theorem e_X5_read_179 : g_dc cX5_read 179 (.invokevirtual 25) 3 182 := ⟨by decide +kernel, rfl⟩
theorem e_X5_read_182 : g_dc cX5_read 182 (.iload_n 3) 1 183 := ⟨by decide +kernel, rfl⟩
theorem e_X5_read_183 : g_dc cX5_read 183 (.iload_n 2) 1 184 := ⟨by decide +kernel, rfl⟩
theorem e_X5_read_184 : g_dc cX5_read 184 (.if_icmp .lt 5) 3 187 := ⟨by decide +kernel, rfl⟩
theorem e_X5_read_187 : g_dc cX5_read 187 (.iconst 0) 1 188 := ⟨by decide +kernel, rfl⟩
theorem e_X5_read_188 : g_dc cX5_read 188 (.ireturn) 1 189 := ⟨by decide +kernel, rfl⟩
theorem e_X5_read_189 : g_dc cX5_read 189 (.aload_n 1) 1 190 := ⟨by decide +kernel, rfl⟩
theorem e_X5_read_190 : g_dc cX5_read 190 (.iload_n 3) 1 191 := ⟨by decide +kernel, rfl⟩
theorem e_X5_read_191 : g_dc cX5_read 191 (.invokevirtual 40) 3 194 := ⟨by decide +kernel, rfl⟩
theorem e_X5_read_194 : g_dc cX5_read 194 (.bipush 44) 2 196 := ⟨by decide +kernel, rfl⟩
theorem e_X5_read_196 : g_dc cX5_read 196 (.if_icmp .eq 9) 3 199 := ⟨by decide +kernel, rfl⟩
theorem e_X5_read_199 : g_dc cX5_read 199 (.iconst 1) 1 200 := ⟨by decide +kernel, rfl⟩
theorem e_X5_read_200 : g_dc cX5_read 200 (.iload_n 3) 1 201 := ⟨by decide +kernel, rfl⟩
theorem e_X5_read_201 : g_dc cX5_read 201 (.invokestatic 32) 3 204 := ⟨by decide +kernel, rfl⟩
theorem e_X5_read_204 : g_dc cX5_read 204 (.ireturn) 1 205 := ⟨by decide +kernel, rfl⟩
theorem e_X5_read_205 : g_dc cX5_read 205 (.iinc 3 1) 3 208 := ⟨by decide +kernel, rfl⟩
theorem e_X5_read_208 : g_dc cX5_read 208 (.iinc 4 1) 3 211 := ⟨by decide +kernel, rfl⟩
theorem e_X5_read_211 : g_dc cX5_read 211 (.goto (-191)) 3 214 := ⟨by decide +kernel, rfl⟩
def md_X5_read_13_r9 : List Nat := [209]
def mr_X5_read_13_r9 : List Nat := [14]
set_option maxHeartbeats 4000000 in
set_option maxRecDepth 100000 in
theorem w_X5_read_13_r9 (l : Launch) (X : gX) (ad : Nat → Nat) (F : Nat → Int32) (R : Nat → Nat → Int32) (hI : g_ok LK_wX F) (hA : g_okR LA_wX R) (a1 : Int32) : g_Ci l X yX5_read cX5_read 8 (some .int) 4 0 0 [.ref (ad 13), .ref (ad 9), .int a1] (wX X ad F R) (fun r w => ∃ (F' : Nat → Int32) (R' : Nat → Nat → Int32), w = wX X ad F' R' ∧ g_ok LK_wX F' ∧ g_okR LA_wX R' ∧ g_fr md_X5_read_13_r9 F F' ∧ g_fr mr_X5_read_13_r9 R R' ∧ jv (-2147483648) 2147483647 r ∧ (r, F', R') = sp_X5_read_13_r9 F R a1) := by
  refine g_mi (by decide +kernel) (Nat.le_of_ble_eq_true rfl) (fun E cx hret => ?_)
  obtain ⟨SP, hSP⟩ : ∃ z, z = sp_X5_read_13_r9 F R a1 := ⟨_, rfl⟩
  have hk0 := hSP
  unfold sp_X5_read_13_r9 at hk0
  refine g_aload_n cx 1 rfl e_X5_read_0 ?_
  refine g_ifnonnull cx 10 e_X5_read_1 (by decide) ?_
  refine g_aload_n cx 0 rfl e_X5_read_10 ?_
  refine g_iconst cx 0 (by decide) e_X5_read_11 ?_
  refine g_put cx cl_X5 fl_X5_15 13 (wX X ad (upd F 209 0) R) e_X5_read_12 rfl rfl rfl rfl (Nat.le_of_ble_eq_true rfl) rfl ?_
  obtain ⟨F1, hF1⟩ : ∃ z, z = upd F 209 0 := ⟨_, rfl⟩
  rw [← hF1]
  have hk2 := k_ls hk0 hF1
  have oF1 : g_ok LK_wX F1 := by rw [hF1]; exact g_ok_p hI (jv_k (x := 0) 0 (by decide)) rfl
  have fF1 : g_fr md_X5_read_13_r9 F F1 := by rw [hF1]; exact g_fr_u (g_fr_rf F) rfl
  refine g_iconst cx 0 (by decide) e_X5_read_15 ?_
  refine g_istore_n cx [(3, .int 0), (0, .ref (ad 13)), (1, .ref (ad 9)), (2, .int a1)] e_X5_read_16 (by decide) rfl ?_
  refine g_iconst cx 0 (by decide) e_X5_read_17 ?_
  refine g_istore cx [(4, .int 0), (3, .int 0), (0, .ref (ad 13)), (1, .ref (ad 9)), (2, .int a1)] e_X5_read_18 (by decide) rfl ?_
  have J20 : ∀ (N : Nat) (F5 : Nat → Int32) (R6 : Nat → Nat → Int32) (y3 : Int32) (y4 : Int32), (g_ok LK_wX F5) → (g_fr md_X5_read_13_r9 F F5) → (g_okR LA_wX R6) → (g_fr mr_X5_read_13_r9 R R6) → (jv (-2147483648) 2147483647 y3) → (jv 0 20 y4) → (SP = K_X5_read_13_r9_20 a1 N F5 R6 y3 y4) → (2147483647 - y4.toInt).toNat < N → G X E 8 0 0 (wX X ad F5 R6) [(0, .ref (ad 13)), (1, .ref (ad 9)), (2, .int a1), (3, .int y3), (4, .int y4)] 20 [] := by
    intro N
    induction N with
    | zero => intro F5 R6 y3 y4 oF5 fF5 oR6 fR6 py3 py4 hkJ20 hm; exact absurd hm (Nat.not_lt_zero _)
    | succ N ih20 =>
      intro F5 R6 y3 y4 oF5 fF5 oR6 fR6 py3 py4 hkJ20 hm20
      have hkK20 : SP = KB_X5_read_13_r9_20 (K_X5_read_13_r9_20 a1 N) a1 F5 R6 y3 y4 := hkJ20
      obtain ⟨b20, hb20⟩ : ∃ z, z = K_X5_read_13_r9_20 a1 N := ⟨_, rfl⟩
      rw [← hb20] at hkK20
      unfold KB_X5_read_13_r9_20 at hkK20
      refine g_iload cx 4 rfl e_X5_read_20 ?_
      refine g_bipush cx 20 (by decide) e_X5_read_22 ?_
      refine g_icmp_gt cx 214 e_X5_read_24 (by decide) (fun zc7 => ?_) (fun zc7 => ?_)
      · exact (gf_lt (gc_lt zc7) (jv_k (x := 20) 20 (by decide)) py4 (by decide)).elim
      · refine g_iload_n cx 3 rfl e_X5_read_27 ?_
        refine g_istore cx [(5, .int y3), (0, .ref (ad 13)), (1, .ref (ad 9)), (2, .int a1), (3, .int y3), (4, .int y4)] e_X5_read_28 (by decide) rfl ?_
        refine g_aload_n cx 2 rfl e_X5_read_30 ?_
        refine g_iload_n cx 4 rfl e_X5_read_31 ?_
        refine g_iload_n cx 3 rfl e_X5_read_32 ?_
        refine g_cSiW cx [.ref (ad 9), .int y3, .int a1] [] (w_X5_digit_r9 l X ad F5 R6 oF5 oR6 y3 a1) ml_X5_36 yS_X5_digit rfl e_X5_read_33 (by unfold g_rr; decide) (by decide) rfl (Nat.le_of_ble_eq_true rfl) (fun r8 w9 h10 => ?_)
        obtain ⟨rfl, pr8, hx11⟩ := h10
        have hk12 := k_ls hkK20 hx11
        refine g_if_ge cx 45 e_X5_read_36 (by decide) (fun zc13 => ?_) (fun zc13 => ?_)
        · have p14 := gn_ge 0 14 (gc_le zc13) pr8 (jv_k (x := 0) 0 (by decide)) (by decide)
          have hk15 := hk12.trans (if_pos zc13)
          refine g_iload cx 5 rfl e_X5_read_45 ?_
          refine g_bipush cx 20 (by decide) e_X5_read_47 ?_
          refine g_icmp_ne cx 58 e_X5_read_49 (by decide) (fun zc16 => ?_) (fun zc16 => ?_)
          · have p17 := gn_neH 0 19 (gc_ne zc16) py4 (jv_k (x := 20) 20 (by decide)) (by decide)
            have hk18 := hk15.trans (if_neg zc16)
            refine g_aload_n cx 2 rfl e_X5_read_58 ?_
            refine g_iload_n cx 4 rfl e_X5_read_59 ?_
            refine g_iload_n cx 3 rfl e_X5_read_60 ?_
            refine g_cSiW cx [.ref (ad 9), .int y3, .int a1] [] (w_X5_digit_r9 l X ad F5 R6 oF5 oR6 y3 a1) ml_X5_36 yS_X5_digit rfl e_X5_read_61 (by unfold g_rr; decide) (by decide) rfl (Nat.le_of_ble_eq_true rfl) (fun r19 w20 h21 => ?_)
            obtain ⟨rfl, pr19, hx22⟩ := h21
            have hk23 := k_ls hk18 hx22
            refine g_istore cx [(6, .int r19), (5, .int y3), (0, .ref (ad 13)), (1, .ref (ad 9)), (2, .int a1), (3, .int y3), (4, .int y4)] e_X5_read_64 (by decide) rfl ?_
            obtain ⟨x24, ex24⟩ : ∃ z : Int32, z = y3 + Int32.ofInt 1 := ⟨_, rfl⟩
            have hk25 := k_ls hk23 (show x24 = y3 + 1 from ex24)
            refine g_iinc cx x24 [(3, .int x24), (6, .int r19), (5, .int y3), (0, .ref (ad 13)), (1, .ref (ad 9)), (2, .int a1), (4, .int y4)] 5 e_X5_read_66 rfl ex24.symm (by decide) rfl ?_
            refine g_aload_n cx 4 rfl e_X5_read_69 ?_
            refine g_iload_n cx 0 rfl e_X5_read_70 ?_
            refine g_iload_n cx 5 rfl e_X5_read_71 ?_
            refine g_cSiW cx [.ref (ad 9), .int x24, .int a1] [] (w_X5_digit_r9 l X ad F5 R6 oF5 oR6 x24 a1) ml_X5_36 yS_X5_digit rfl e_X5_read_72 (by unfold g_rr; decide) (by decide) rfl (Nat.le_of_ble_eq_true rfl) (fun r26 w27 h28 => ?_)
            obtain ⟨rfl, pr26, hx29⟩ := h28
            have hk30 := k_ls hk25 hx29
            have J95 : ∀ (y31 : Int32) (y32 : Int32), (jv (-2147483648) 2147483647 y31) → (jv (-2147483648) 2147483647 y32) → (SP = K_X5_read_13_r9_95 b20 F5 R6 a1 y3 y4 y31 y32) → G X E 8 0 0 (wX X ad F5 R6) [(0, .ref (ad 13)), (1, .ref (ad 9)), (2, .int a1), (3, .int y31), (4, .int y4), (5, .int y3), (6, .int y32)] 95 [] := by
              intro y31 y32 py31 py32 hkJ95
              unfold K_X5_read_13_r9_95 at hkJ95
              refine g_iload cx 6 rfl e_X5_read_95 ?_
              refine g_bipush cx 40 (by decide) e_X5_read_97 ?_
              refine g_icmp_le cx 109 e_X5_read_99 (by decide) (fun zc33 => ?_) (fun zc33 => ?_)
              · have p34 := gn_le (-2147483648) 40 (gc_le zc33) py32 (jv_k (x := 40) 40 (by decide)) (by decide)
                have hk35 := hkJ95.trans (if_pos zc33)
                refine g_iconst cx 1 (by decide) e_X5_read_109 ?_
                refine g_istore cx [(7, .int 1), (0, .ref (ad 13)), (1, .ref (ad 9)), (2, .int a1), (3, .int y31), (4, .int y4), (5, .int y3), (6, .int y32)] e_X5_read_110 (by decide) rfl ?_
                refine g_iload_n cx 4 rfl e_X5_read_112 ?_
                refine g_iload_n cx 3 rfl e_X5_read_113 ?_
                have J154 : ∀ (y36 : Int32) (y37 : Int32), (jv (-2147483648) 2147483647 y36) → (jv 1 14 y37) → (SP = K_X5_read_13_r9_154 b20 F5 R6 a1 y3 y4 y32 y36 y37) → G X E 8 0 0 (wX X ad F5 R6) [(0, .ref (ad 13)), (1, .ref (ad 9)), (2, .int a1), (3, .int y36), (4, .int y4), (5, .int y3), (6, .int y32), (7, .int y37)] 154 [] := by
                  intro y36 y37 py36 py37 hkJ154
                  unfold K_X5_read_13_r9_154 at hkJ154
                  refine g_aload_n cx 0 rfl e_X5_read_154 ?_
                  refine g_get cx cl_X5 fl_X5_15 13 (.int (F5 209)) e_X5_read_155 rfl rfl ?_
                  refine g_iload cx 7 rfl e_X5_read_158 ?_
                  refine g_iadd cx e_X5_read_160 ?_
                  refine g_topi (fun x38 ex38 => ?_)
                  have hk39 := k_ls hkJ154 ex38
                  have zx38 := jv_add 1 74 ex38 (g_ok_g oF5 3 rfl) py37 (by decide)
                  refine g_bipush cx 60 (by decide) e_X5_read_161 ?_
                  refine g_icmp_le cx 174 e_X5_read_163 (by decide) (fun zc40 => ?_) (fun zc40 => ?_)
                  · have p41 := gn_le 1 60 (gc_le zc40) zx38.2 (jv_k (x := 60) 60 (by decide)) (by decide)
                    have hk42 := hk39.trans (if_pos zc40)
                    refine g_aload_n cx 0 rfl e_X5_read_174 ?_
                    refine g_iload cx 6 rfl e_X5_read_175 ?_
                    refine g_iload cx 7 rfl e_X5_read_177 ?_
                    refine g_cVvW cx [.int y32, .int y37] [] (w_X5_add_13 l X ad F5 R6 oF5 oR6 y32 y37) ml_X5_25 yV_X5_add e_X5_read_179 (by unfold g_rr; decide) (by decide) 13 rfl rfl rfl (Nat.le_of_ble_eq_true rfl) (fun w44 h45 => ?_)
                    obtain ⟨F47, R48, rfl, oF47, oR48, cF47, cR48, hx46⟩ := h45
                    have hk49 := k_ls2 hk42 hx46
                    have fF47 : g_fr md_X5_read_13_r9 F F47 := g_fr_c fF5 cF47 rfl
                    have fR48 : g_fr mr_X5_read_13_r9 R R48 := g_fr_c fR6 cR48 rfl
                    refine g_iload_n cx 3 rfl e_X5_read_182 ?_
                    refine g_iload_n cx 2 rfl e_X5_read_183 ?_
                    refine g_icmp_lt cx 189 e_X5_read_184 (by decide) (fun zc50 => ?_) (fun zc50 => ?_)
                    · have p51 := gn_lt (-2147483648) 2147483646 (gc_lt zc50) py36 (jv_t a1) (by decide)
                      have p52 := gn_gt (-2147483647) 2147483647 (gc_lt zc50) (jv_t a1) py36 (by decide)
                      have hk53 := hk49.trans (if_pos zc50)
                      refine g_aload_n cx 1 rfl e_X5_read_189 ?_
                      refine g_iload_n cx 3 rfl e_X5_read_190 ?_
                      refine g_cViW cx [.int y36] [] (w_X9_at l X ad F47 R48 oF47 oR48 y36) ml_X5_40 yV_X9_at e_X5_read_191 (by unfold g_rr; decide) (by decide) 9 rfl rfl rfl (Nat.le_of_ble_eq_true rfl) (fun r54 w55 h56 => ?_)
                      obtain ⟨rfl, pr54, hx57⟩ := h56
                      have hk58 := k_ls hk53 hx57
                      refine g_bipush cx 44 (by decide) e_X5_read_194 ?_
                      refine g_icmp_eq cx 205 e_X5_read_196 (by decide) (fun zc59 => ?_) (fun zc59 => ?_)
                      · have p60 := gn_eq 44 44 (gc_eq zc59) pr54 (jv_k (x := 44) 44 (by decide)) (by decide)
                        have hk61 := hk58.trans (if_pos zc59)
                        obtain ⟨x62, ex62⟩ : ∃ z : Int32, z = y36 + Int32.ofInt 1 := ⟨_, rfl⟩
                        have hk63 := k_ls hk61 (show x62 = y36 + 1 from ex62)
                        refine g_iinc cx x62 [(3, .int x62), (0, .ref (ad 13)), (1, .ref (ad 9)), (2, .int a1), (4, .int y4), (5, .int y3), (6, .int y32), (7, .int y37)] 3 e_X5_read_205 rfl ex62.symm (by decide) rfl ?_
                        have zx62 := jv_add (-2147483647) 2147483647 (show x62 = y36 + 1 from ex62) p51 (jv_k (x := 1) 1 (by decide)) (by decide)
                        obtain ⟨x64, ex64⟩ : ∃ z : Int32, z = y4 + Int32.ofInt 1 := ⟨_, rfl⟩
                        have hk65 := k_ls hk63 (show x64 = y4 + 1 from ex64)
                        refine g_iinc cx x64 [(4, .int x64), (3, .int x62), (0, .ref (ad 13)), (1, .ref (ad 9)), (2, .int a1), (5, .int y3), (6, .int y32), (7, .int y37)] 4 e_X5_read_208 rfl ex64.symm (by decide) rfl ?_
                        have zx64 := jv_add 1 20 (show x64 = y4 + 1 from ex64) p17 (jv_k (x := 1) 1 (by decide)) (by decide)
                        refine g_goto cx 20 e_X5_read_211 (by decide) ?_
                        refine g_lsub [2, 3, 4, 1, 0] [(0, .ref (ad 13)), (1, .ref (ad 9)), (2, .int a1), (3, .int x62), (4, .int x64)] rfl ?_
                        exact ih20 F47 R48 x62 x64 oF47 fF47 oR48 fR48 (jv_w zx62.2 (by decide)) (jv_w zx64.2 (by decide)) (hk65.trans (by rw [hb20])) (Nat.lt_of_lt_of_le (show (2147483647 - x64.toInt).toNat < (2147483647 - y4.toInt).toNat from by have q0 := (jv_k (x := 1) 1 (by decide)).1; have q1 := (jv_k (x := 1) 1 (by decide)).2; have q2 := (jv_k (x := 20) 20 (by decide)).1; have q3 := (jv_k (x := 20) 20 (by decide)).2; have q4 := p52.1; have q5 := p52.2; have q6 := zx62.2.1; have q7 := zx62.2.2; have q8 := zx64.2.1; have q9 := zx64.2.2; have q10 := p51.1; have q11 := p51.2; have q12 := p17.1; have q13 := p17.2; have q14 := (gc_nlt zc7); have q15 := (gc_ne zc16); have q16 := (gc_lt zc50); have q17 := (g_eq0 zx62.1); have q18 := (g_eq0 zx64.1); omega) (Nat.le_of_lt_succ hm20))
                      · have hk66 := hk58.trans (if_neg zc59)
                        refine g_iconst cx 1 (by decide) e_X5_read_199 ?_
                        refine g_iload_n cx 3 rfl e_X5_read_200 ?_
                        refine g_cSiW cx [.int 1, .int y36] [] (w_X5_fault l X ad F47 R48 oF47 oR48 1 y36) ml_X5_32 yS_X5_fault rfl e_X5_read_201 (by unfold g_rr; decide) (by decide) rfl (Nat.le_of_ble_eq_true rfl) (fun r67 w68 h69 => ?_)
                        obtain ⟨rfl, pr67, hx70⟩ := h69
                        have hk71 := k_ls hk66 hx70
                        exact hret e_X5_read_204 (Nat.le_of_ble_eq_true rfl) (Nat.le_of_ble_eq_true rfl) rfl ⟨F47, R48, rfl, oF47, oR48, fF47, fR48, pr67, (hk71.symm.trans hSP)⟩
                    · have hk72 := hk49.trans (if_neg zc50)
                      refine g_iconst cx 0 (by decide) e_X5_read_187 ?_
                      exact hret e_X5_read_188 (Nat.le_of_ble_eq_true rfl) (Nat.le_of_ble_eq_true rfl) rfl ⟨F47, R48, rfl, oF47, oR48, fF47, fR48, (jv_w (jv_k (x := 0) 0 (by decide)) (by decide)), (hk72.symm.trans hSP)⟩
                  · have p73 := gn_gt 61 74 (gc_nle zc40) zx38.2 (jv_k (x := 60) 60 (by decide)) (by decide)
                    have hk74 := hk39.trans (if_neg zc40)
                    refine g_bipush cx 6 (by decide) e_X5_read_166 ?_
                    refine g_iload cx 5 rfl e_X5_read_168 ?_
                    refine g_cSiW cx [.int 6, .int y3] [] (w_X5_fault l X ad F5 R6 oF5 oR6 6 y3) ml_X5_32 yS_X5_fault rfl e_X5_read_170 (by unfold g_rr; decide) (by decide) rfl (Nat.le_of_ble_eq_true rfl) (fun r75 w76 h77 => ?_)
                    obtain ⟨rfl, pr75, hx78⟩ := h77
                    have hk79 := k_ls hk74 hx78
                    exact hret e_X5_read_173 (Nat.le_of_ble_eq_true rfl) (Nat.le_of_ble_eq_true rfl) rfl ⟨F5, R6, rfl, oF5, oR6, fF5, fR6, pr75, (hk79.symm.trans hSP)⟩
                refine g_icmp_ge cx 154 e_X5_read_114 (by decide) (fun zc80 => ?_) (fun zc80 => ?_)
                · have hk81 := hk35.trans (if_pos zc80)
                  refine g_lsub [1, 2, 3, 4, 5, 6, 7, 0] [(0, .ref (ad 13)), (1, .ref (ad 9)), (2, .int a1), (3, .int y31), (4, .int y4), (5, .int y3), (6, .int y32), (7, .int 1)] rfl ?_
                  exact J154 y31 1 py31 (jv_w (jv_k (x := 1) 1 (by decide)) (by decide)) hk81
                · have p82 := gn_lt (-2147483648) 2147483646 (gc_nle zc80) py31 (jv_t a1) (by decide)
                  have p83 := gn_gt (-2147483647) 2147483647 (gc_nle zc80) (jv_t a1) py31 (by decide)
                  have hk84 := hk35.trans (if_neg zc80)
                  refine g_aload_n cx 2 rfl e_X5_read_117 ?_
                  refine g_iload_n cx 4 rfl e_X5_read_118 ?_
                  refine g_cViW cx [.int y31] [] (w_X9_at l X ad F5 R6 oF5 oR6 y31) ml_X5_40 yV_X9_at e_X5_read_119 (by unfold g_rr; decide) (by decide) 9 rfl rfl rfl (Nat.le_of_ble_eq_true rfl) (fun r85 w86 h87 => ?_)
                  obtain ⟨rfl, pr85, hx88⟩ := h87
                  have hk89 := k_ls hk84 hx88
                  refine g_bipush cx 42 (by decide) e_X5_read_122 ?_
                  refine g_icmp_ne cx 154 e_X5_read_124 (by decide) (fun zc90 => ?_) (fun zc90 => ?_)
                  · have hk91 := hk89.trans (if_neg zc90)
                    refine g_lsub [1, 2, 3, 4, 5, 6, 7, 0] [(0, .ref (ad 13)), (1, .ref (ad 9)), (2, .int a1), (3, .int y31), (4, .int y4), (5, .int y3), (6, .int y32), (7, .int 1)] rfl ?_
                    exact J154 y31 1 (jv_w p82 (by decide)) (jv_w (jv_k (x := 1) 1 (by decide)) (by decide)) hk91
                  · have p92 := gn_eq 42 42 (gc_eq zc90) pr85 (jv_k (x := 42) 42 (by decide)) (by decide)
                    have hk93 := hk89.trans (if_pos zc90)
                    refine g_aload_n cx 2 rfl e_X5_read_127 ?_
                    refine g_iload_n cx 4 rfl e_X5_read_128 ?_
                    refine g_iconst cx 1 (by decide) e_X5_read_129 ?_
                    refine g_iadd cx e_X5_read_130 ?_
                    refine g_topi (fun x94 ex94 => ?_)
                    have hk95 := k_ls hk93 ex94
                    have zx94 := jv_add (-2147483647) 2147483647 ex94 p82 (jv_k (x := 1) 1 (by decide)) (by decide)
                    refine g_iload_n cx 3 rfl e_X5_read_131 ?_
                    refine g_cSiW cx [.ref (ad 9), .int x94, .int a1] [] (w_X5_digit_r9 l X ad F5 R6 oF5 oR6 x94 a1) ml_X5_36 yS_X5_digit rfl e_X5_read_132 (by unfold g_rr; decide) (by decide) rfl (Nat.le_of_ble_eq_true rfl) (fun r96 w97 h98 => ?_)
                    obtain ⟨rfl, pr96, hx99⟩ := h98
                    have hk100 := k_ls hk95 hx99
                    refine g_istore cx [(7, .int r96), (0, .ref (ad 13)), (1, .ref (ad 9)), (2, .int a1), (3, .int y31), (4, .int y4), (5, .int y3), (6, .int y32)] e_X5_read_135 (by decide) rfl ?_
                    refine g_iload cx 0 rfl e_X5_read_137 ?_
                    refine g_iconst cx 2 (by decide) e_X5_read_139 ?_
                    refine g_icmp_ge cx 151 e_X5_read_140 (by decide) (fun zc101 => ?_) (fun zc101 => ?_)
                    · have p102 := gn_ge 2 14 (gc_le zc101) pr96 (jv_k (x := 2) 2 (by decide)) (by decide)
                      have hk103 := hk100.trans (if_pos zc101)
                      obtain ⟨x104, ex104⟩ : ∃ z : Int32, z = y31 + Int32.ofInt 2 := ⟨_, rfl⟩
                      have hk105 := k_ls hk103 (show x104 = y31 + 2 from ex104)
                      refine g_iinc cx x104 [(3, .int x104), (7, .int r96), (0, .ref (ad 13)), (1, .ref (ad 9)), (2, .int a1), (4, .int y4), (5, .int y3), (6, .int y32)] 4 e_X5_read_151 rfl ex104.symm (by decide) rfl ?_
                      refine g_lsub [2, 3, 4, 0, 5, 6, 7, 1] [(0, .ref (ad 13)), (1, .ref (ad 9)), (2, .int a1), (3, .int x104), (4, .int y4), (5, .int y3), (6, .int y32), (7, .int r96)] rfl ?_
                      exact J154 x104 r96 (jv_t x104) (jv_w p102 (by decide)) hk105
                    · have p106 := gn_lt (-1) 1 (gc_nle zc101) pr96 (jv_k (x := 2) 2 (by decide)) (by decide)
                      have hk107 := hk100.trans (if_neg zc101)
                      refine g_iconst cx 1 (by decide) e_X5_read_143 ?_
                      refine g_iload_n cx 4 rfl e_X5_read_144 ?_
                      refine g_iconst cx 1 (by decide) e_X5_read_145 ?_
                      refine g_iadd cx e_X5_read_146 ?_
                      refine g_topi (fun x108 ex108 => ?_)
                      have hk109 := k_ls hk107 ex108
                      have zx108 := jv_add (-2147483647) 2147483647 ex108 p82 (jv_k (x := 1) 1 (by decide)) (by decide)
                      refine g_cSiW cx [.int 1, .int x108] [] (w_X5_fault l X ad F5 R6 oF5 oR6 1 x108) ml_X5_32 yS_X5_fault rfl e_X5_read_147 (by unfold g_rr; decide) (by decide) rfl (Nat.le_of_ble_eq_true rfl) (fun r110 w111 h112 => ?_)
                      obtain ⟨rfl, pr110, hx113⟩ := h112
                      have hk114 := k_ls hk109 hx113
                      exact hret e_X5_read_150 (Nat.le_of_ble_eq_true rfl) (Nat.le_of_ble_eq_true rfl) rfl ⟨F5, R6, rfl, oF5, oR6, fF5, fR6, pr110, (hk114.symm.trans hSP)⟩
              · have p115 := gn_gt 41 2147483647 (gc_nle zc33) py32 (jv_k (x := 40) 40 (by decide)) (by decide)
                have hk116 := hkJ95.trans (if_neg zc33)
                refine g_iconst cx 3 (by decide) e_X5_read_102 ?_
                refine g_iload cx 5 rfl e_X5_read_103 ?_
                refine g_cSiW cx [.int 3, .int y3] [] (w_X5_fault l X ad F5 R6 oF5 oR6 3 y3) ml_X5_32 yS_X5_fault rfl e_X5_read_105 (by unfold g_rr; decide) (by decide) rfl (Nat.le_of_ble_eq_true rfl) (fun r117 w118 h119 => ?_)
                obtain ⟨rfl, pr117, hx120⟩ := h119
                have hk121 := k_ls hk116 hx120
                exact hret e_X5_read_108 (Nat.le_of_ble_eq_true rfl) (Nat.le_of_ble_eq_true rfl) rfl ⟨F5, R6, rfl, oF5, oR6, fF5, fR6, pr117, (hk121.symm.trans hSP)⟩
            refine g_if_lt cx 95 e_X5_read_75 (by decide) (fun zc122 => ?_) (fun zc122 => ?_)
            · have p123 := gn_lt (-1) (-1) (gc_lt zc122) pr26 (jv_k (x := 0) 0 (by decide)) (by decide)
              have hk124 := hk30.trans (if_pos zc122)
              refine g_lsub [3, 4, 5, 0, 6, 2, 1] [(0, .ref (ad 13)), (1, .ref (ad 9)), (2, .int a1), (3, .int x24), (4, .int y4), (5, .int y3), (6, .int r19)] rfl ?_
              exact J95 x24 r19 (jv_t x24) (jv_w pr19 (by decide)) hk124
            · have p125 := gn_ge 0 14 (gc_nlt zc122) pr26 (jv_k (x := 0) 0 (by decide)) (by decide)
              have hk126 := hk30.trans (if_neg zc122)
              refine g_iload cx 1 rfl e_X5_read_78 ?_
              refine g_bipush cx 10 (by decide) e_X5_read_80 ?_
              refine g_imul cx e_X5_read_82 ?_
              refine g_topi (fun x127 ex127 => ?_)
              have hk128 := k_ls hk126 ex127
              refine g_aload_n cx 4 rfl e_X5_read_83 ?_
              refine g_iload_n cx 0 rfl e_X5_read_84 ?_
              refine g_iload_n cx 5 rfl e_X5_read_85 ?_
              refine g_cSiW cx [.ref (ad 9), .int x24, .int a1] [.int x127] (w_X5_digit_r9 l X ad F5 R6 oF5 oR6 x24 a1) ml_X5_36 yS_X5_digit rfl e_X5_read_86 (by unfold g_rr; decide) (by decide) rfl (Nat.le_of_ble_eq_true rfl) (fun r129 w130 h131 => ?_)
              obtain ⟨rfl, pr129, hx132⟩ := h131
              have hk133 := k_ls hk128 hx132
              refine g_iadd cx e_X5_read_89 ?_
              refine g_topi (fun x134 ex134 => ?_)
              have hk135 := k_ls hk133 ex134
              refine g_istore cx [(6, .int x134), (3, .int x24), (5, .int y3), (0, .ref (ad 13)), (1, .ref (ad 9)), (2, .int a1), (4, .int y4)] e_X5_read_90 (by decide) rfl ?_
              obtain ⟨x136, ex136⟩ : ∃ z : Int32, z = x24 + Int32.ofInt 1 := ⟨_, rfl⟩
              have hk137 := k_ls hk135 (show x136 = x24 + 1 from ex136)
              refine g_iinc cx x136 [(3, .int x136), (6, .int x134), (5, .int y3), (0, .ref (ad 13)), (1, .ref (ad 9)), (2, .int a1), (4, .int y4)] 1 e_X5_read_92 rfl ex136.symm (by decide) rfl ?_
              refine g_lsub [3, 4, 5, 0, 6, 2, 1] [(0, .ref (ad 13)), (1, .ref (ad 9)), (2, .int a1), (3, .int x136), (4, .int y4), (5, .int y3), (6, .int x134)] rfl ?_
              exact J95 x136 x134 (jv_t x136) (jv_t x134) hk137
          · have p138 := gn_eq 20 20 (gc_eq zc16) py4 (jv_k (x := 20) 20 (by decide)) (by decide)
            have hk139 := hk15.trans (if_pos zc16)
            refine g_iconst cx 4 (by decide) e_X5_read_52 ?_
            refine g_iload_n cx 4 rfl e_X5_read_53 ?_
            refine g_cSiW cx [.int 4, .int y3] [] (w_X5_fault l X ad F5 R6 oF5 oR6 4 y3) ml_X5_32 yS_X5_fault rfl e_X5_read_54 (by unfold g_rr; decide) (by decide) rfl (Nat.le_of_ble_eq_true rfl) (fun r140 w141 h142 => ?_)
            obtain ⟨rfl, pr140, hx143⟩ := h142
            have hk144 := k_ls hk139 hx143
            exact hret e_X5_read_57 (Nat.le_of_ble_eq_true rfl) (Nat.le_of_ble_eq_true rfl) rfl ⟨F5, R6, rfl, oF5, oR6, fF5, fR6, pr140, (hk144.symm.trans hSP)⟩
        · have p145 := gn_lt (-1) (-1) (gc_nle zc13) pr8 (jv_k (x := 0) 0 (by decide)) (by decide)
          have hk146 := hk12.trans (if_neg zc13)
          refine g_iconst cx 1 (by decide) e_X5_read_39 ?_
          refine g_iload_n cx 4 rfl e_X5_read_40 ?_
          refine g_cSiW cx [.int 1, .int y3] [] (w_X5_fault l X ad F5 R6 oF5 oR6 1 y3) ml_X5_32 yS_X5_fault rfl e_X5_read_41 (by unfold g_rr; decide) (by decide) rfl (Nat.le_of_ble_eq_true rfl) (fun r147 w148 h149 => ?_)
          obtain ⟨rfl, pr147, hx150⟩ := h149
          have hk151 := k_ls hk146 hx150
          exact hret e_X5_read_44 (Nat.le_of_ble_eq_true rfl) (Nat.le_of_ble_eq_true rfl) rfl ⟨F5, R6, rfl, oF5, oR6, fF5, fR6, pr147, (hk151.symm.trans hSP)⟩
  refine g_lsub [2, 3, 4, 1, 0] [(0, .ref (ad 13)), (1, .ref (ad 9)), (2, .int a1), (3, .int 0), (4, .int 0)] rfl ?_
  exact J20 8589934592 F1 R 0 0 oF1 fF1 hA (g_fr_rf R) (jv_w (jv_k (x := 0) 0 (by decide)) (by decide)) (jv_w (jv_k (x := 0) 0 (by decide)) (by decide)) hk2 (show (2147483647 - (0 : Int32).toInt).toNat < 8589934592 from by have q0 := (jv_k (x := 0) 0 (by decide)).1; have q1 := (jv_k (x := 0) 0 (by decide)).2; omega)
def sp_X5_copy_11_r13 (F : Nat → Int32) (R : Nat → Nat → Int32) : (Nat → Int32) × (Nat → Nat → Int32) :=
  k_lt (upd F 177 (F 209)) (fun F1 => k_lt (g_u R 12 (va_cpy (R 14) (R 12) 0 0 60)) (fun R3 => (F1, R3)))
theorem e_X5_copy_0 : g_dc cX5_copy 0 (.aload_n 1) 1 1 := ⟨by decide +kernel, rfl⟩
theorem e_X5_copy_1 : g_dc cX5_copy 1 (.ifnonnull 4) 3 4 := ⟨by decide +kernel, rfl⟩
theorem e_X5_copy_5 : g_dc cX5_copy 5 (.aload_n 0) 1 6 := ⟨by decide +kernel, rfl⟩
theorem e_X5_copy_6 : g_dc cX5_copy 6 (.aload_n 1) 1 7 := ⟨by decide +kernel, rfl⟩
theorem e_X5_copy_7 : g_dc cX5_copy 7 (.getfield 15) 3 10 := ⟨by decide +kernel, rfl⟩
theorem e_X5_copy_10 : g_dc cX5_copy 10 (.putfield 15) 3 13 := ⟨by decide +kernel, rfl⟩
theorem e_X5_copy_13 : g_dc cX5_copy 13 (.aload_n 1) 1 14 := ⟨by decide +kernel, rfl⟩
theorem e_X5_copy_14 : g_dc cX5_copy 14 (.getfield 9) 3 17 := ⟨by decide +kernel, rfl⟩
theorem e_X5_copy_17 : g_dc cX5_copy 17 (.iconst 0) 1 18 := ⟨by decide +kernel, rfl⟩
theorem e_X5_copy_18 : g_dc cX5_copy 18 (.aload_n 0) 1 19 := ⟨by decide +kernel, rfl⟩
theorem e_X5_copy_19 : g_dc cX5_copy 19 (.getfield 9) 3 22 := ⟨by decide +kernel, rfl⟩
theorem e_X5_copy_22 : g_dc cX5_copy 22 (.iconst 0) 1 23 := ⟨by decide +kernel, rfl⟩
theorem e_X5_copy_23 : g_dc cX5_copy 23 (.bipush 60) 2 25 := ⟨by decide +kernel, rfl⟩
theorem e_X5_copy_25 : g_dc cX5_copy 25 (.invokestatic 19) 3 28 := ⟨by decide +kernel, rfl⟩
theorem e_X5_copy_28 : g_dc cX5_copy 28 (.return_) 1 29 := ⟨by decide +kernel, rfl⟩
def md_X5_copy_11_r13 : List Nat := [177]
def mr_X5_copy_11_r13 : List Nat := [12]
set_option maxHeartbeats 4000000 in
set_option maxRecDepth 100000 in
theorem w_X5_copy_11_r13 (l : Launch) (X : gX) (ad : Nat → Nat) (F : Nat → Int32) (R : Nat → Nat → Int32) (hI : g_ok LK_wX F) (hA : g_okR LA_wX R) : g_Cv l X yX5_copy cX5_copy 2 1 0 0 [.ref (ad 11), .ref (ad 13)] (wX X ad F R) (fun w => ∃ (F' : Nat → Int32) (R' : Nat → Nat → Int32), w = wX X ad F' R' ∧ g_ok LK_wX F' ∧ g_okR LA_wX R' ∧ g_fr md_X5_copy_11_r13 F F' ∧ g_fr mr_X5_copy_11_r13 R R' ∧ (F', R') = sp_X5_copy_11_r13 F R) := by
  refine g_mv (by decide +kernel) (Nat.le_of_ble_eq_true rfl) (fun E cx hret => ?_)
  obtain ⟨SP, hSP⟩ : ∃ z, z = sp_X5_copy_11_r13 F R := ⟨_, rfl⟩
  have hk0 := hSP
  unfold sp_X5_copy_11_r13 at hk0
  refine g_aload_n cx 1 rfl e_X5_copy_0 ?_
  refine g_ifnonnull cx 5 e_X5_copy_1 (by decide) ?_
  refine g_aload_n cx 0 rfl e_X5_copy_5 ?_
  refine g_aload_n cx 1 rfl e_X5_copy_6 ?_
  refine g_get cx cl_X5 fl_X5_15 13 (.int (F 209)) e_X5_copy_7 rfl rfl ?_
  refine g_put cx cl_X5 fl_X5_15 11 (wX X ad (upd F 177 (F 209)) R) e_X5_copy_10 rfl rfl rfl rfl (Nat.le_of_ble_eq_true rfl) rfl ?_
  obtain ⟨F1, hF1⟩ : ∃ z, z = upd F 177 (F 209) := ⟨_, rfl⟩
  rw [← hF1]
  have hk2 := k_ls hk0 hF1
  have oF1 : g_ok LK_wX F1 := by rw [hF1]; exact g_ok_p hI (g_ok_g hI 3 rfl) rfl
  have fF1 : g_fr md_X5_copy_11_r13 F F1 := by rw [hF1]; exact g_fr_u (g_fr_rf F) rfl
  refine g_aload_n cx 1 rfl e_X5_copy_13 ?_
  refine g_get cx cl_X5 fl_X5_9 13 (.ref (ad 14)) e_X5_copy_14 rfl rfl ?_
  refine g_iconst cx 0 (by decide) e_X5_copy_17 ?_
  refine g_aload_n cx 0 rfl e_X5_copy_18 ?_
  refine g_get cx cl_X5 fl_X5_9 11 (.ref (ad 12)) e_X5_copy_19 rfl rfl ?_
  refine g_iconst cx 0 (by decide) e_X5_copy_22 ?_
  refine g_bipush cx 60 (by decide) e_X5_copy_23 ?_
  refine g_copy cx 14 12 (wX X ad F1 (g_u R 12 (va_cpy (R 14) (R 12) 0 0 60))) ml_X5_19 e_X5_copy_25 rfl rfl (by decide) (by decide) (by decide) (by decide) rfl ?_
  obtain ⟨R3, hR3⟩ : ∃ z, z = g_u R 12 (va_cpy (R 14) (R 12) 0 0 60) := ⟨_, rfl⟩
  rw [← hR3]
  have hk4 := k_ls hk2 hR3
  have oR3 : g_okR LA_wX R3 := by rw [hR3]; exact g_okR_u hA rfl
  have fR3 : g_fr mr_X5_copy_11_r13 R R3 := by rw [hR3]; exact g_fr_r (g_fr_rf R) rfl
  exact hret e_X5_copy_28 (Nat.le_of_ble_eq_true rfl) (Nat.le_of_ble_eq_true rfl) ⟨F1, R3, rfl, oF1, oR3, fF1, fR3, (hk4.symm.trans hSP)⟩
def K_X10_pull_21 (F : Nat → Int32) (R : Nat → Nat → Int32)  : Int32 × (Nat → Int32) × (Nat → Nat → Int32) :=
  ((-1), F, R)
def sp_X10_pull (F : Nat → Int32) (R : Nat → Nat → Int32) (a0 : Int32) : Int32 × (Nat → Int32) × (Nat → Nat → Int32) :=
  k_lt (g_in a0 1 120) (fun r1 => if r1 = 0 then K_X10_pull_21 F R else if a0 ≤ (F 145) then k_lt3 (sp_X5_read_13_r9 F R a0) (fun r14 F18 R19 => k_lt (upd F18 145 0) (fun F21 => if r14 = 0 then k_lt2 (sp_X5_copy_11_r13 F21 R19) (fun F30 R31 => (F30 177, F30, R31)) else (r14, F21, R19))) else K_X10_pull_21 F R)
theorem e_X10_pull_0 : g_dc cX10_pull 0 (.iload_n 1) 1 1 := ⟨by decide +kernel, rfl⟩
theorem e_X10_pull_1 : g_dc cX10_pull 1 (.iconst 1) 1 2 := ⟨by decide +kernel, rfl⟩
theorem e_X10_pull_2 : g_dc cX10_pull 2 (.bipush 120) 2 4 := ⟨by decide +kernel, rfl⟩
theorem e_X10_pull_4 : g_dc cX10_pull 4 (.invokestatic 82) 3 7 := ⟨by decide +kernel, rfl⟩
theorem e_X10_pull_7 : g_dc cX10_pull 7 (.ifCond .eq 14) 3 10 := ⟨by decide +kernel, rfl⟩
theorem e_X10_pull_10 : g_dc cX10_pull 10 (.iload_n 1) 1 11 := ⟨by decide +kernel, rfl⟩
theorem e_X10_pull_11 : g_dc cX10_pull 11 (.aload_n 0) 1 12 := ⟨by decide +kernel, rfl⟩
theorem e_X10_pull_12 : g_dc cX10_pull 12 (.getfield 22) 3 15 := ⟨by decide +kernel, rfl⟩
theorem e_X10_pull_15 : g_dc cX10_pull 15 (.getfield 110) 3 18 := ⟨by decide +kernel, rfl⟩
theorem e_X10_pull_18 : g_dc cX10_pull 18 (.if_icmp .le 5) 3 21 := ⟨by decide +kernel, rfl⟩
theorem e_X10_pull_21 : g_dc cX10_pull 21 (.iconst (-1)) 1 22 := ⟨by decide +kernel, rfl⟩
theorem e_X10_pull_22 : g_dc cX10_pull 22 (.ireturn) 1 23 := ⟨by decide +kernel, rfl⟩
theorem e_X10_pull_23 : g_dc cX10_pull 23 (.aload_n 0) 1 24 := ⟨by decide +kernel, rfl⟩
theorem e_X10_pull_24 : g_dc cX10_pull 24 (.getfield 33) 3 27 := ⟨by decide +kernel, rfl⟩
theorem e_X10_pull_27 : g_dc cX10_pull 27 (.aload_n 0) 1 28 := ⟨by decide +kernel, rfl⟩
theorem e_X10_pull_28 : g_dc cX10_pull 28 (.getfield 22) 3 31 := ⟨by decide +kernel, rfl⟩
theorem e_X10_pull_31 : g_dc cX10_pull 31 (.iload_n 1) 1 32 := ⟨by decide +kernel, rfl⟩
theorem e_X10_pull_32 : g_dc cX10_pull 32 (.invokevirtual 116) 3 35 := ⟨by decide +kernel, rfl⟩
theorem e_X10_pull_35 : g_dc cX10_pull 35 (.istore_n 2) 1 36 := ⟨by decide +kernel, rfl⟩
theorem e_X10_pull_36 : g_dc cX10_pull 36 (.aload_n 0) 1 37 := ⟨by decide +kernel, rfl⟩
theorem e_X10_pull_37 : g_dc cX10_pull 37 (.getfield 22) 3 40 := ⟨by decide +kernel, rfl⟩
theorem e_X10_pull_40 : g_dc cX10_pull 40 (.iconst 0) 1 41 := ⟨by decide +kernel, rfl⟩
theorem e_X10_pull_41 : g_dc cX10_pull 41 (.putfield 110) 3 44 := ⟨by decide +kernel, rfl⟩
theorem e_X10_pull_44 : g_dc cX10_pull 44 (.iload_n 2) 1 45 := ⟨by decide +kernel, rfl⟩
theorem e_X10_pull_45 : g_dc cX10_pull 45 (.ifCond .eq 5) 3 48 := ⟨by decide +kernel, rfl⟩
theorem e_X10_pull_48 : g_dc cX10_pull 48 (.iload_n 2) 1 49 := ⟨by decide +kernel, rfl⟩
theorem e_X10_pull_49 : g_dc cX10_pull 49 (.ireturn) 1 50 := ⟨by decide +kernel, rfl⟩
theorem e_X10_pull_50 : g_dc cX10_pull 50 (.aload_n 0) 1 51 := ⟨by decide +kernel, rfl⟩
theorem e_X10_pull_51 : g_dc cX10_pull 51 (.getfield 29) 3 54 := ⟨by decide +kernel, rfl⟩
theorem e_X10_pull_54 : g_dc cX10_pull 54 (.aload_n 0) 1 55 := ⟨by decide +kernel, rfl⟩
theorem e_X10_pull_55 : g_dc cX10_pull 55 (.getfield 33) 3 58 := ⟨by decide +kernel, rfl⟩
theorem e_X10_pull_58 : g_dc cX10_pull 58 (.invokevirtual 120) 3 61 := ⟨by decide +kernel, rfl⟩
theorem e_X10_pull_61 : g_dc cX10_pull 61 (.aload_n 0) 1 62 := ⟨by decide +kernel, rfl⟩
theorem e_X10_pull_62 : g_dc cX10_pull 62 (.getfield 29) 3 65 := ⟨by decide +kernel, rfl⟩
theorem e_X10_pull_65 : g_dc cX10_pull 65 (.getfield 124) 3 68 := ⟨by decide +kernel, rfl⟩
theorem e_X10_pull_68 : g_dc cX10_pull 68 (.ireturn) 1 69 := ⟨by decide +kernel, rfl⟩
def md_X10_pull : List Nat := [145, 177, 209]
def mr_X10_pull : List Nat := [12, 14]
set_option maxHeartbeats 4000000 in
set_option maxRecDepth 100000 in
theorem w_X10_pull (l : Launch) (X : gX) (ad : Nat → Nat) (F : Nat → Int32) (R : Nat → Nat → Int32) (hI : g_ok LK_wX F) (hA : g_okR LA_wX R) (a0 : Int32) : g_Ci l X yX10_pull cX10_pull 3 (some .int) 5 0 0 [.ref (ad 0), .int a0] (wX X ad F R) (fun r w => ∃ (F' : Nat → Int32) (R' : Nat → Nat → Int32), w = wX X ad F' R' ∧ g_ok LK_wX F' ∧ g_okR LA_wX R' ∧ g_fr md_X10_pull F F' ∧ g_fr mr_X10_pull R R' ∧ jv (-2147483648) 2147483647 r ∧ (r, F', R') = sp_X10_pull F R a0) := by
  refine g_mi (by decide +kernel) (Nat.le_of_ble_eq_true rfl) (fun E cx hret => ?_)
  obtain ⟨SP, hSP⟩ : ∃ z, z = sp_X10_pull F R a0 := ⟨_, rfl⟩
  have hk0 := hSP
  unfold sp_X10_pull at hk0
  refine g_iload_n cx 1 rfl e_X10_pull_0 ?_
  refine g_iconst cx 1 (by decide) e_X10_pull_1 ?_
  refine g_bipush cx 120 (by decide) e_X10_pull_2 ?_
  refine g_cSiW cx [.int a0, .int 1, .int 120] [] (c_X10_within l X (wX X ad F R) a0 1 120) ml_X10_82 yS_X10_within rfl e_X10_pull_4 (by unfold g_rr; decide) (by decide) rfl (Nat.le_of_ble_eq_true rfl) (fun r1 w2 h3 => ?_)
  obtain ⟨rfl, hr1⟩ := h3
  have pr1 : jv 0 1 r1 := by rw [hr1]; exact gi_01 _ _ _
  have hk4 := k_ls hk0 hr1
  have J21 : (SP = K_X10_pull_21 F R) → G X E 3 0 0 (wX X ad F R) [] 21 [] := by
    intro   hkJ21
    unfold K_X10_pull_21 at hkJ21
    refine g_iconst cx (-1) (by decide) e_X10_pull_21 ?_
    exact hret e_X10_pull_22 (Nat.le_of_ble_eq_true rfl) (Nat.le_of_ble_eq_true rfl) rfl ⟨F, R, rfl, hI, hA, (g_fr_rf F), (g_fr_rf R), (jv_w (jv_k (x := (-1)) (-1) (by decide)) (by decide)), (hkJ21.symm.trans hSP)⟩
  refine g_if_eq cx 21 e_X10_pull_7 (by decide) (fun zc5 => ?_) (fun zc5 => ?_)
  · have p6 := gn_eq 0 0 (gc_eq zc5) pr1 (jv_k (x := 0) 0 (by decide)) (by decide)
    have hk7 := hk4.trans (if_pos zc5)
    refine g_lsub [] [] rfl ?_
    exact J21  hk7
  · have p8 := gn_neL 1 1 (gc_ne zc5) pr1 (jv_k (x := 0) 0 (by decide)) (by decide)
    have p9 := jv_i 1 120 (jv_t a0) (gi_in (A := 1) (B := 120) hr1 zc5 (by decide) (by decide)) (by decide)
    have hk10 := hk4.trans (if_neg zc5)
    refine g_iload_n cx 1 rfl e_X10_pull_10 ?_
    refine g_aload_n cx 0 rfl e_X10_pull_11 ?_
    refine g_get cx cl_X10 fl_X10_22 0 (.ref (ad 9)) e_X10_pull_12 rfl rfl ?_
    refine g_getN cx cl_X9 fn_X10_110 9 (.int (F 145)) e_X10_pull_15 rfl rfl ?_
    refine g_icmp_le cx 23 e_X10_pull_18 (by decide) (fun zc11 => ?_) (fun zc11 => ?_)
    · have p12 := gn_ge 1 220 (gc_le zc11) (g_ok_g hI 1 rfl) p9 (by decide)
      have hk13 := hk10.trans (if_pos zc11)
      refine g_aload_n cx 0 rfl e_X10_pull_23 ?_
      refine g_get cx cl_X10 fl_X10_33 0 (.ref (ad 13)) e_X10_pull_24 rfl rfl ?_
      refine g_aload_n cx 0 rfl e_X10_pull_27 ?_
      refine g_get cx cl_X10 fl_X10_22 0 (.ref (ad 9)) e_X10_pull_28 rfl rfl ?_
      refine g_iload_n cx 1 rfl e_X10_pull_31 ?_
      refine g_cViW cx [.ref (ad 9), .int a0] [] (w_X5_read_13_r9 l X ad F R hI hA a0) ml_X10_116 yV_X5_read e_X10_pull_32 (by unfold g_rr; decide) (by decide) 13 rfl rfl rfl (Nat.le_of_ble_eq_true rfl) (fun r14 w15 h16 => ?_)
      obtain ⟨F18, R19, rfl, oF18, oR19, cF18, cR19, pr14, hx17⟩ := h16
      have hk20 := k_ls3 hk13 hx17
      have fF18 : g_fr md_X10_pull F F18 := g_fr_c (g_fr_rf F) cF18 rfl
      have fR19 : g_fr mr_X10_pull R R19 := g_fr_c (g_fr_rf R) cR19 rfl
      refine g_istore_n cx [(2, .int r14), (0, .ref (ad 0)), (1, .int a0)] e_X10_pull_35 (by decide) rfl ?_
      refine g_aload_n cx 1 rfl e_X10_pull_36 ?_
      refine g_get cx cl_X10 fl_X10_22 0 (.ref (ad 9)) e_X10_pull_37 rfl rfl ?_
      refine g_iconst cx 0 (by decide) e_X10_pull_40 ?_
      refine g_putN cx cl_X9 fn_X10_110 9 (wX X ad (upd F18 145 0) R19) e_X10_pull_41 rfl rfl rfl rfl (Nat.le_of_ble_eq_true rfl) rfl ?_
      obtain ⟨F21, hF21⟩ : ∃ z, z = upd F18 145 0 := ⟨_, rfl⟩
      rw [← hF21]
      have hk22 := k_ls hk20 hF21
      have oF21 : g_ok LK_wX F21 := by rw [hF21]; exact g_ok_p oF18 (jv_k (x := 0) 0 (by decide)) rfl
      have fF21 : g_fr md_X10_pull F F21 := by rw [hF21]; exact g_fr_u fF18 rfl
      refine g_iload_n cx 0 rfl e_X10_pull_44 ?_
      refine g_if_eq cx 50 e_X10_pull_45 (by decide) (fun zc23 => ?_) (fun zc23 => ?_)
      · have p24 := gn_eq 0 0 (gc_eq zc23) pr14 (jv_k (x := 0) 0 (by decide)) (by decide)
        have hk25 := hk22.trans (if_pos zc23)
        refine g_aload_n cx 1 rfl e_X10_pull_50 ?_
        refine g_get cx cl_X10 fl_X10_29 0 (.ref (ad 11)) e_X10_pull_51 rfl rfl ?_
        refine g_aload_n cx 1 rfl e_X10_pull_54 ?_
        refine g_get cx cl_X10 fl_X10_33 0 (.ref (ad 13)) e_X10_pull_55 rfl rfl ?_
        refine g_cVvW cx [.ref (ad 13)] [] (w_X5_copy_11_r13 l X ad F21 R19 oF21 oR19) ml_X10_120 yV_X5_copy e_X10_pull_58 (by unfold g_rr; decide) (by decide) 11 rfl rfl rfl (Nat.le_of_ble_eq_true rfl) (fun w27 h28 => ?_)
        obtain ⟨F30, R31, rfl, oF30, oR31, cF30, cR31, hx29⟩ := h28
        have hk32 := k_ls2 hk25 hx29
        have fF30 : g_fr md_X10_pull F F30 := g_fr_c fF21 cF30 rfl
        have fR31 : g_fr mr_X10_pull R R31 := g_fr_c fR19 cR31 rfl
        refine g_aload_n cx 1 rfl e_X10_pull_61 ?_
        refine g_get cx cl_X10 fl_X10_29 0 (.ref (ad 11)) e_X10_pull_62 rfl rfl ?_
        refine g_getN cx cl_X5 fn_X10_124 11 (.int (F30 177)) e_X10_pull_65 rfl rfl ?_
        exact hret e_X10_pull_68 (Nat.le_of_ble_eq_true rfl) (Nat.le_of_ble_eq_true rfl) rfl ⟨F30, R31, rfl, oF30, oR31, fF30, fR31, (jv_w (g_ok_g oF30 2 rfl) (by decide)), (hk32.symm.trans hSP)⟩
      · have hk33 := hk22.trans (if_neg zc23)
        refine g_iload_n cx 0 rfl e_X10_pull_48 ?_
        exact hret e_X10_pull_49 (Nat.le_of_ble_eq_true rfl) (Nat.le_of_ble_eq_true rfl) rfl ⟨F21, R19, rfl, oF21, oR19, fF21, fR19, pr14, (hk33.symm.trans hSP)⟩
    · have p34 := gn_lt 0 119 (gc_nle zc11) (g_ok_g hI 1 rfl) p9 (by decide)
      have hk35 := hk10.trans (if_neg zc11)
      refine g_lsub [] [] rfl ?_
      exact J21  hk35
def sp_X9_number (F : Nat → Int32) (R : Nat → Nat → Int32) (a0 : Int32) : Int32 :=
  k_lt (a0 * 4) (fun x1 => k_lt (sp_X9_at F R x1) (fun r3 => k_lt (r3 <<< (24 &&& 31)) (fun x8 => k_lt (x1 + 1) (fun x10 => k_lt (sp_X9_at F R x10) (fun r12 => k_lt (r12 <<< (16 &&& 31)) (fun x17 => k_lt (x8 ||| x17) (fun x19 => k_lt (x1 + 2) (fun x21 => k_lt (sp_X9_at F R x21) (fun r23 => k_lt (r23 <<< (8 &&& 31)) (fun x28 => k_lt (x19 ||| x28) (fun x30 => k_lt (x1 + 3) (fun x32 => k_lt (sp_X9_at F R x32) (fun r34 => k_lt (x30 ||| r34) (fun x39 => x39))))))))))))))
theorem e_X9_number_0 : g_dc cX9_number 0 (.iload_n 1) 1 1 := ⟨by decide +kernel, rfl⟩
theorem e_X9_number_1 : g_dc cX9_number 1 (.iconst 4) 1 2 := ⟨by decide +kernel, rfl⟩
theorem e_X9_number_2 : g_dc cX9_number 2 (.imul) 1 3 := ⟨by decide +kernel, rfl⟩
theorem e_X9_number_3 : g_dc cX9_number 3 (.istore_n 2) 1 4 := ⟨by decide +kernel, rfl⟩
theorem e_X9_number_4 : g_dc cX9_number 4 (.aload_n 0) 1 5 := ⟨by decide +kernel, rfl⟩
theorem e_X9_number_5 : g_dc cX9_number 5 (.iload_n 2) 1 6 := ⟨by decide +kernel, rfl⟩
theorem e_X9_number_6 : g_dc cX9_number 6 (.invokevirtual 23) 3 9 := ⟨by decide +kernel, rfl⟩
theorem e_X9_number_9 : g_dc cX9_number 9 (.bipush 24) 2 11 := ⟨by decide +kernel, rfl⟩
theorem e_X9_number_11 : g_dc cX9_number 11 (.ishl) 1 12 := ⟨by decide +kernel, rfl⟩
theorem e_X9_number_12 : g_dc cX9_number 12 (.aload_n 0) 1 13 := ⟨by decide +kernel, rfl⟩
theorem e_X9_number_13 : g_dc cX9_number 13 (.iload_n 2) 1 14 := ⟨by decide +kernel, rfl⟩
theorem e_X9_number_14 : g_dc cX9_number 14 (.iconst 1) 1 15 := ⟨by decide +kernel, rfl⟩
theorem e_X9_number_15 : g_dc cX9_number 15 (.iadd) 1 16 := ⟨by decide +kernel, rfl⟩
theorem e_X9_number_16 : g_dc cX9_number 16 (.invokevirtual 23) 3 19 := ⟨by decide +kernel, rfl⟩
theorem e_X9_number_19 : g_dc cX9_number 19 (.bipush 16) 2 21 := ⟨by decide +kernel, rfl⟩
theorem e_X9_number_21 : g_dc cX9_number 21 (.ishl) 1 22 := ⟨by decide +kernel, rfl⟩
theorem e_X9_number_22 : g_dc cX9_number 22 (.ior) 1 23 := ⟨by decide +kernel, rfl⟩
theorem e_X9_number_23 : g_dc cX9_number 23 (.aload_n 0) 1 24 := ⟨by decide +kernel, rfl⟩
theorem e_X9_number_24 : g_dc cX9_number 24 (.iload_n 2) 1 25 := ⟨by decide +kernel, rfl⟩
theorem e_X9_number_25 : g_dc cX9_number 25 (.iconst 2) 1 26 := ⟨by decide +kernel, rfl⟩
theorem e_X9_number_26 : g_dc cX9_number 26 (.iadd) 1 27 := ⟨by decide +kernel, rfl⟩
theorem e_X9_number_27 : g_dc cX9_number 27 (.invokevirtual 23) 3 30 := ⟨by decide +kernel, rfl⟩
theorem e_X9_number_30 : g_dc cX9_number 30 (.bipush 8) 2 32 := ⟨by decide +kernel, rfl⟩
theorem e_X9_number_32 : g_dc cX9_number 32 (.ishl) 1 33 := ⟨by decide +kernel, rfl⟩
theorem e_X9_number_33 : g_dc cX9_number 33 (.ior) 1 34 := ⟨by decide +kernel, rfl⟩
theorem e_X9_number_34 : g_dc cX9_number 34 (.aload_n 0) 1 35 := ⟨by decide +kernel, rfl⟩
theorem e_X9_number_35 : g_dc cX9_number 35 (.iload_n 2) 1 36 := ⟨by decide +kernel, rfl⟩
theorem e_X9_number_36 : g_dc cX9_number 36 (.iconst 3) 1 37 := ⟨by decide +kernel, rfl⟩
theorem e_X9_number_37 : g_dc cX9_number 37 (.iadd) 1 38 := ⟨by decide +kernel, rfl⟩
theorem e_X9_number_38 : g_dc cX9_number 38 (.invokevirtual 23) 3 41 := ⟨by decide +kernel, rfl⟩
theorem e_X9_number_41 : g_dc cX9_number 41 (.ior) 1 42 := ⟨by decide +kernel, rfl⟩
theorem e_X9_number_42 : g_dc cX9_number 42 (.ireturn) 1 43 := ⟨by decide +kernel, rfl⟩
set_option maxHeartbeats 4000000 in
set_option maxRecDepth 100000 in
theorem w_X9_number (l : Launch) (X : gX) (ad : Nat → Nat) (F : Nat → Int32) (R : Nat → Nat → Int32) (hI : g_ok LK_wX F) (hA : g_okR LA_wX R) (a0 : Int32) : g_Ci l X yX9_number cX9_number 3 (some .int) 3 0 0 [.ref (ad 9), .int a0] (wX X ad F R) (fun r w => w = wX X ad F R ∧ jv (-2147483648) 2147483647 r ∧ r = sp_X9_number F R a0) := by
  refine g_mi (by decide +kernel) (Nat.le_of_ble_eq_true rfl) (fun E cx hret => ?_)
  obtain ⟨SP, hSP⟩ : ∃ z, z = sp_X9_number F R a0 := ⟨_, rfl⟩
  have hk0 := hSP
  unfold sp_X9_number at hk0
  refine g_iload_n cx 1 rfl e_X9_number_0 ?_
  refine g_iconst cx 4 (by decide) e_X9_number_1 ?_
  refine g_imul cx e_X9_number_2 ?_
  refine g_topi (fun x1 ex1 => ?_)
  have hk2 := k_ls hk0 ex1
  refine g_istore_n cx [(2, .int x1), (0, .ref (ad 9)), (1, .int a0)] e_X9_number_3 (by decide) rfl ?_
  refine g_aload_n cx 1 rfl e_X9_number_4 ?_
  refine g_iload_n cx 0 rfl e_X9_number_5 ?_
  refine g_cViW cx [.int x1] [] (w_X9_at l X ad F R hI hA x1) ml_X9_23 yV_X9_at e_X9_number_6 (by unfold g_rr; decide) (by decide) 9 rfl rfl rfl (Nat.le_of_ble_eq_true rfl) (fun r3 w4 h5 => ?_)
  obtain ⟨rfl, pr3, hx6⟩ := h5
  have hk7 := k_ls hk2 hx6
  refine g_bipush cx 24 (by decide) e_X9_number_9 ?_
  refine g_ishl cx e_X9_number_11 ?_
  refine g_topi (fun x8 ex8 => ?_)
  have hk9 := k_ls hk7 ex8
  refine g_aload_n cx 1 rfl e_X9_number_12 ?_
  refine g_iload_n cx 0 rfl e_X9_number_13 ?_
  refine g_iconst cx 1 (by decide) e_X9_number_14 ?_
  refine g_iadd cx e_X9_number_15 ?_
  refine g_topi (fun x10 ex10 => ?_)
  have hk11 := k_ls hk9 ex10
  refine g_cViW cx [.int x10] [.int x8] (w_X9_at l X ad F R hI hA x10) ml_X9_23 yV_X9_at e_X9_number_16 (by unfold g_rr; decide) (by decide) 9 rfl rfl rfl (Nat.le_of_ble_eq_true rfl) (fun r12 w13 h14 => ?_)
  obtain ⟨rfl, pr12, hx15⟩ := h14
  have hk16 := k_ls hk11 hx15
  refine g_bipush cx 16 (by decide) e_X9_number_19 ?_
  refine g_ishl cx e_X9_number_21 ?_
  refine g_topi (fun x17 ex17 => ?_)
  have hk18 := k_ls hk16 ex17
  refine g_ior cx e_X9_number_22 ?_
  refine g_topi (fun x19 ex19 => ?_)
  have hk20 := k_ls hk18 ex19
  refine g_aload_n cx 1 rfl e_X9_number_23 ?_
  refine g_iload_n cx 0 rfl e_X9_number_24 ?_
  refine g_iconst cx 2 (by decide) e_X9_number_25 ?_
  refine g_iadd cx e_X9_number_26 ?_
  refine g_topi (fun x21 ex21 => ?_)
  have hk22 := k_ls hk20 ex21
  refine g_cViW cx [.int x21] [.int x19] (w_X9_at l X ad F R hI hA x21) ml_X9_23 yV_X9_at e_X9_number_27 (by unfold g_rr; decide) (by decide) 9 rfl rfl rfl (Nat.le_of_ble_eq_true rfl) (fun r23 w24 h25 => ?_)
  obtain ⟨rfl, pr23, hx26⟩ := h25
  have hk27 := k_ls hk22 hx26
  refine g_bipush cx 8 (by decide) e_X9_number_30 ?_
  refine g_ishl cx e_X9_number_32 ?_
  refine g_topi (fun x28 ex28 => ?_)
  have hk29 := k_ls hk27 ex28
  refine g_ior cx e_X9_number_33 ?_
  refine g_topi (fun x30 ex30 => ?_)
  have hk31 := k_ls hk29 ex30
  refine g_aload_n cx 1 rfl e_X9_number_34 ?_
  refine g_iload_n cx 0 rfl e_X9_number_35 ?_
  refine g_iconst cx 3 (by decide) e_X9_number_36 ?_
  refine g_iadd cx e_X9_number_37 ?_
  refine g_topi (fun x32 ex32 => ?_)
  have hk33 := k_ls hk31 ex32
  refine g_cViW cx [.int x32] [.int x30] (w_X9_at l X ad F R hI hA x32) ml_X9_23 yV_X9_at e_X9_number_38 (by unfold g_rr; decide) (by decide) 9 rfl rfl rfl (Nat.le_of_ble_eq_true rfl) (fun r34 w35 h36 => ?_)
  obtain ⟨rfl, pr34, hx37⟩ := h36
  have hk38 := k_ls hk33 hx37
  refine g_ior cx e_X9_number_41 ?_
  refine g_topi (fun x39 ex39 => ?_)
  have hk40 := k_ls hk38 ex39
  exact hret e_X9_number_42 (Nat.le_of_ble_eq_true rfl) (Nat.le_of_ble_eq_true rfl) rfl ⟨rfl, (jv_t x39), (hk40.symm.trans hSP)⟩
def K_X10_check_23 (F : Nat → Int32) (R : Nat → Nat → Int32)  : Int32 × (Nat → Int32) × (Nat → Nat → Int32) :=
  ((-2), F, R)
def K_X10_check_65 (b36 : (Int32) → Int32 × (Nat → Int32) × (Nat → Nat → Int32)) (F15 : Nat → Int32) (R : Nat → Nat → Int32) (y17 : Int32) (y28 : Int32) : Int32 × (Nat → Int32) × (Nat → Nat → Int32) :=
  k_lt (sp_X9_number F15 R y17) (fun r29 => if r29 = y28 then k_lt (y17 + 1) (fun x36 => b36 x36) else (y17, F15, R))
def KB_X10_check_36 (b36 : (Int32) → Int32 × (Nat → Int32) × (Nat → Nat → Int32)) (F15 : Nat → Int32) (R : Nat → Nat → Int32) (a0 : Int32) (y17 : Int32) : Int32 × (Nat → Int32) × (Nat → Nat → Int32) :=
  if a0 ≤ y17 then ((-1), F15, R) else k_lt (sp_X8_has_1 F15 R y17) (fun r23 => if r23 = 0 then K_X10_check_65 b36 F15 R y17 0 else k_lt (sp_X8_side_1 F15 R y17 1) (fun r44 => K_X10_check_65 b36 F15 R y17 r44))
def K_X10_check_36 (F15 : Nat → Int32) (R : Nat → Nat → Int32) (a0 : Int32) : Nat → (Int32) → Int32 × (Nat → Int32) × (Nat → Nat → Int32)
  | 0 => fun _ => (0, F15, R)
  | n + 1 => KB_X10_check_36 (K_X10_check_36 F15 R a0 n) F15 R a0
def sp_X10_check (F : Nat → Int32) (R : Nat → Nat → Int32) (a0 : Int32) : Int32 × (Nat → Int32) × (Nat → Nat → Int32) :=
  k_lt (g_in a0 0 10) (fun r1 => if r1 = 0 then K_X10_check_23 F R else k_lt (a0 * 4) (fun x11 => if x11 ≤ (F 145) then k_lt (upd F 145 0) (fun F15 => K_X10_check_36 F15 R a0 8589934592 0) else K_X10_check_23 F R))
theorem e_X10_check_0 : g_dc cX10_check 0 (.iload_n 1) 1 1 := ⟨by decide +kernel, rfl⟩
theorem e_X10_check_1 : g_dc cX10_check 1 (.iconst 0) 1 2 := ⟨by decide +kernel, rfl⟩
theorem e_X10_check_2 : g_dc cX10_check 2 (.bipush 10) 2 4 := ⟨by decide +kernel, rfl⟩
theorem e_X10_check_4 : g_dc cX10_check 4 (.invokestatic 82) 3 7 := ⟨by decide +kernel, rfl⟩
theorem e_X10_check_7 : g_dc cX10_check 7 (.ifCond .eq 16) 3 10 := ⟨by decide +kernel, rfl⟩
theorem e_X10_check_10 : g_dc cX10_check 10 (.iload_n 1) 1 11 := ⟨by decide +kernel, rfl⟩
theorem e_X10_check_11 : g_dc cX10_check 11 (.iconst 4) 1 12 := ⟨by decide +kernel, rfl⟩
theorem e_X10_check_12 : g_dc cX10_check 12 (.imul) 1 13 := ⟨by decide +kernel, rfl⟩
theorem e_X10_check_13 : g_dc cX10_check 13 (.aload_n 0) 1 14 := ⟨by decide +kernel, rfl⟩
theorem e_X10_check_14 : g_dc cX10_check 14 (.getfield 22) 3 17 := ⟨by decide +kernel, rfl⟩
theorem e_X10_check_17 : g_dc cX10_check 17 (.getfield 110) 3 20 := ⟨by decide +kernel, rfl⟩
theorem e_X10_check_20 : g_dc cX10_check 20 (.if_icmp .le 6) 3 23 := ⟨by decide +kernel, rfl⟩
theorem e_X10_check_23 : g_dc cX10_check 23 (.bipush (-2)) 2 25 := ⟨by decide +kernel, rfl⟩
theorem e_X10_check_25 : g_dc cX10_check 25 (.ireturn) 1 26 := ⟨by decide +kernel, rfl⟩
theorem e_X10_check_26 : g_dc cX10_check 26 (.aload_n 0) 1 27 := ⟨by decide +kernel, rfl⟩
theorem e_X10_check_27 : g_dc cX10_check 27 (.getfield 22) 3 30 := ⟨by decide +kernel, rfl⟩
theorem e_X10_check_30 : g_dc cX10_check 30 (.iconst 0) 1 31 := ⟨by decide +kernel, rfl⟩
theorem e_X10_check_31 : g_dc cX10_check 31 (.putfield 110) 3 34 := ⟨by decide +kernel, rfl⟩
theorem e_X10_check_34 : g_dc cX10_check 34 (.iconst 0) 1 35 := ⟨by decide +kernel, rfl⟩
theorem e_X10_check_35 : g_dc cX10_check 35 (.istore_n 2) 1 36 := ⟨by decide +kernel, rfl⟩
theorem e_X10_check_36 : g_dc cX10_check 36 (.iload_n 2) 1 37 := ⟨by decide +kernel, rfl⟩
theorem e_X10_check_37 : g_dc cX10_check 37 (.iload_n 1) 1 38 := ⟨by decide +kernel, rfl⟩
theorem e_X10_check_38 : g_dc cX10_check 38 (.if_icmp .ge 48) 3 41 := ⟨by decide +kernel, rfl⟩
theorem e_X10_check_41 : g_dc cX10_check 41 (.aload_n 0) 1 42 := ⟨by decide +kernel, rfl⟩
theorem e_X10_check_42 : g_dc cX10_check 42 (.getfield 10) 3 45 := ⟨by decide +kernel, rfl⟩
theorem e_X10_check_45 : g_dc cX10_check 45 (.iload_n 2) 1 46 := ⟨by decide +kernel, rfl⟩
theorem e_X10_check_46 : g_dc cX10_check 46 (.invokevirtual 102) 3 49 := ⟨by decide +kernel, rfl⟩
theorem e_X10_check_49 : g_dc cX10_check 49 (.ifCond .eq 15) 3 52 := ⟨by decide +kernel, rfl⟩
theorem e_X10_check_52 : g_dc cX10_check 52 (.aload_n 0) 1 53 := ⟨by decide +kernel, rfl⟩
theorem e_X10_check_53 : g_dc cX10_check 53 (.getfield 10) 3 56 := ⟨by decide +kernel, rfl⟩
theorem e_X10_check_56 : g_dc cX10_check 56 (.iload_n 2) 1 57 := ⟨by decide +kernel, rfl⟩
theorem e_X10_check_57 : g_dc cX10_check 57 (.iconst 1) 1 58 := ⟨by decide +kernel, rfl⟩
theorem e_X10_check_58 : g_dc cX10_check 58 (.invokevirtual 173) 3 61 := ⟨by decide +kernel, rfl⟩
theorem e_X10_check_61 : g_dc cX10_check 61 (.goto 4) 3 64 := ⟨by decide +kernel, rfl⟩
theorem e_X10_check_64 : g_dc cX10_check 64 (.iconst 0) 1 65 := ⟨by decide +kernel, rfl⟩
theorem e_X10_check_65 : g_dc cX10_check 65 (.istore_n 3) 1 66 := ⟨by decide +kernel, rfl⟩
theorem e_X10_check_66 : g_dc cX10_check 66 (.aload_n 0) 1 67 := ⟨by decide +kernel, rfl⟩
theorem e_X10_check_67 : g_dc cX10_check 67 (.getfield 22) 3 70 := ⟨by decide +kernel, rfl⟩
theorem e_X10_check_70 : g_dc cX10_check 70 (.iload_n 2) 1 71 := ⟨by decide +kernel, rfl⟩
theorem e_X10_check_71 : g_dc cX10_check 71 (.invokevirtual 266) 3 74 := ⟨by decide +kernel, rfl⟩
theorem e_X10_check_74 : g_dc cX10_check 74 (.iload_n 3) 1 75 := ⟨by decide +kernel, rfl⟩
theorem e_X10_check_75 : g_dc cX10_check 75 (.if_icmp .eq 5) 3 78 := ⟨by decide +kernel, rfl⟩
theorem e_X10_check_78 : g_dc cX10_check 78 (.iload_n 2) 1 79 := ⟨by decide +kernel, rfl⟩
theorem e_X10_check_79 : g_dc cX10_check 79 (.ireturn) 1 80 := ⟨by decide +kernel, rfl⟩
theorem e_X10_check_80 : g_dc cX10_check 80 (.iinc 2 1) 3 83 := ⟨by decide +kernel, rfl⟩
theorem e_X10_check_83 : g_dc cX10_check 83 (.goto (-47)) 3 86 := ⟨by decide +kernel, rfl⟩
theorem e_X10_check_86 : g_dc cX10_check 86 (.iconst (-1)) 1 87 := ⟨by decide +kernel, rfl⟩
theorem e_X10_check_87 : g_dc cX10_check 87 (.ireturn) 1 88 := ⟨by decide +kernel, rfl⟩
def md_X10_check : List Nat := [145]
def mr_X10_check : List Nat := []
set_option maxHeartbeats 4000000 in
set_option maxRecDepth 100000 in
theorem w_X10_check (l : Launch) (X : gX) (ad : Nat → Nat) (F : Nat → Int32) (R : Nat → Nat → Int32) (hI : g_ok LK_wX F) (hA : g_okR LA_wX R) (a0 : Int32) : g_Ci l X yX10_check cX10_check 4 (some .int) 4 0 0 [.ref (ad 0), .int a0] (wX X ad F R) (fun r w => ∃ (F' : Nat → Int32) (R' : Nat → Nat → Int32), w = wX X ad F' R' ∧ g_ok LK_wX F' ∧ g_okR LA_wX R' ∧ g_fr md_X10_check F F' ∧ g_fr mr_X10_check R R' ∧ jv (-2) 9 r ∧ (r, F', R') = sp_X10_check F R a0) := by
  refine g_mi (by decide +kernel) (Nat.le_of_ble_eq_true rfl) (fun E cx hret => ?_)
  obtain ⟨SP, hSP⟩ : ∃ z, z = sp_X10_check F R a0 := ⟨_, rfl⟩
  have hk0 := hSP
  unfold sp_X10_check at hk0
  refine g_iload_n cx 1 rfl e_X10_check_0 ?_
  refine g_iconst cx 0 (by decide) e_X10_check_1 ?_
  refine g_bipush cx 10 (by decide) e_X10_check_2 ?_
  refine g_cSiW cx [.int a0, .int 0, .int 10] [] (c_X10_within l X (wX X ad F R) a0 0 10) ml_X10_82 yS_X10_within rfl e_X10_check_4 (by unfold g_rr; decide) (by decide) rfl (Nat.le_of_ble_eq_true rfl) (fun r1 w2 h3 => ?_)
  obtain ⟨rfl, hr1⟩ := h3
  have pr1 : jv 0 1 r1 := by rw [hr1]; exact gi_01 _ _ _
  have hk4 := k_ls hk0 hr1
  have J23 : (SP = K_X10_check_23 F R) → G X E 4 0 0 (wX X ad F R) [] 23 [] := by
    intro   hkJ23
    unfold K_X10_check_23 at hkJ23
    refine g_bipush cx (-2) (by decide) e_X10_check_23 ?_
    exact hret e_X10_check_25 (Nat.le_of_ble_eq_true rfl) (Nat.le_of_ble_eq_true rfl) rfl ⟨F, R, rfl, hI, hA, (g_fr_rf F), (g_fr_rf R), (jv_w (jv_k (x := (-2)) (-2) (by decide)) (by decide)), (hkJ23.symm.trans hSP)⟩
  refine g_if_eq cx 23 e_X10_check_7 (by decide) (fun zc5 => ?_) (fun zc5 => ?_)
  · have p6 := gn_eq 0 0 (gc_eq zc5) pr1 (jv_k (x := 0) 0 (by decide)) (by decide)
    have hk7 := hk4.trans (if_pos zc5)
    refine g_lsub [] [] rfl ?_
    exact J23  hk7
  · have p8 := gn_neL 1 1 (gc_ne zc5) pr1 (jv_k (x := 0) 0 (by decide)) (by decide)
    have p9 := jv_i 0 10 (jv_t a0) (gi_in (A := 0) (B := 10) hr1 zc5 (by decide) (by decide)) (by decide)
    have hk10 := hk4.trans (if_neg zc5)
    refine g_iload_n cx 1 rfl e_X10_check_10 ?_
    refine g_iconst cx 4 (by decide) e_X10_check_11 ?_
    refine g_imul cx e_X10_check_12 ?_
    refine g_topi (fun x11 ex11 => ?_)
    have hk12 := k_ls hk10 ex11
    have zx11 := jv_mul 0 40 ex11 p9 (jv_k (x := 4) 4 (by decide)) (by decide)
    refine g_aload_n cx 0 rfl e_X10_check_13 ?_
    refine g_get cx cl_X10 fl_X10_22 0 (.ref (ad 9)) e_X10_check_14 rfl rfl ?_
    refine g_getN cx cl_X9 fn_X10_110 9 (.int (F 145)) e_X10_check_17 rfl rfl ?_
    refine g_icmp_le cx 26 e_X10_check_20 (by decide) (fun zc13 => ?_) (fun zc13 => ?_)
    · have hk14 := hk12.trans (if_pos zc13)
      refine g_aload_n cx 0 rfl e_X10_check_26 ?_
      refine g_get cx cl_X10 fl_X10_22 0 (.ref (ad 9)) e_X10_check_27 rfl rfl ?_
      refine g_iconst cx 0 (by decide) e_X10_check_30 ?_
      refine g_putN cx cl_X9 fn_X10_110 9 (wX X ad (upd F 145 0) R) e_X10_check_31 rfl rfl rfl rfl (Nat.le_of_ble_eq_true rfl) rfl ?_
      obtain ⟨F15, hF15⟩ : ∃ z, z = upd F 145 0 := ⟨_, rfl⟩
      rw [← hF15]
      have hk16 := k_ls hk14 hF15
      have oF15 : g_ok LK_wX F15 := by rw [hF15]; exact g_ok_p hI (jv_k (x := 0) 0 (by decide)) rfl
      have fF15 : g_fr md_X10_check F F15 := by rw [hF15]; exact g_fr_u (g_fr_rf F) rfl
      refine g_iconst cx 0 (by decide) e_X10_check_34 ?_
      refine g_istore_n cx [(2, .int 0), (0, .ref (ad 0)), (1, .int a0)] e_X10_check_35 (by decide) rfl ?_
      have J36 : ∀ (N : Nat) (y17 : Int32), (jv 0 10 y17) → (SP = K_X10_check_36 F15 R a0 N y17) → (2147483647 - y17.toInt).toNat < N → G X E 4 0 0 (wX X ad F15 R) [(0, .ref (ad 0)), (1, .int a0), (2, .int y17)] 36 [] := by
        intro N
        induction N with
        | zero => intro y17 py17 hkJ36 hm; exact absurd hm (Nat.not_lt_zero _)
        | succ N ih36 =>
          intro y17 py17 hkJ36 hm36
          have hkK36 : SP = KB_X10_check_36 (K_X10_check_36 F15 R a0 N) F15 R a0 y17 := hkJ36
          obtain ⟨b36, hb36⟩ : ∃ z, z = K_X10_check_36 F15 R a0 N := ⟨_, rfl⟩
          rw [← hb36] at hkK36
          unfold KB_X10_check_36 at hkK36
          refine g_iload_n cx 2 rfl e_X10_check_36 ?_
          refine g_iload_n cx 1 rfl e_X10_check_37 ?_
          refine g_icmp_ge cx 86 e_X10_check_38 (by decide) (fun zc18 => ?_) (fun zc18 => ?_)
          · have hk19 := hkK36.trans (if_pos zc18)
            refine g_iconst cx (-1) (by decide) e_X10_check_86 ?_
            exact hret e_X10_check_87 (Nat.le_of_ble_eq_true rfl) (Nat.le_of_ble_eq_true rfl) rfl ⟨F15, R, rfl, oF15, hA, fF15, (g_fr_rf R), (jv_w (jv_k (x := (-1)) (-1) (by decide)) (by decide)), (hk19.symm.trans hSP)⟩
          · have p20 := gn_lt 0 9 (gc_nle zc18) py17 p9 (by decide)
            have p21 := gn_gt 1 10 (gc_nle zc18) p9 py17 (by decide)
            have hk22 := hkK36.trans (if_neg zc18)
            refine g_aload_n cx 0 rfl e_X10_check_41 ?_
            refine g_get cx cl_X10 fl_X10_10 0 (.ref (ad 1)) e_X10_check_42 rfl rfl ?_
            refine g_iload_n cx 2 rfl e_X10_check_45 ?_
            refine g_cViW cx [.int y17] [] (w_X8_has_1 l X ad F15 R oF15 hA y17) ml_X10_102 yV_X8_has e_X10_check_46 (by unfold g_rr; decide) (by decide) 1 rfl rfl rfl (Nat.le_of_ble_eq_true rfl) (fun r23 w24 h25 => ?_)
            obtain ⟨rfl, pr23, hx26⟩ := h25
            have hk27 := k_ls hk22 hx26
            have J65 : ∀ (y28 : Int32), (jv (-2147483648) 2147483647 y28) → (SP = K_X10_check_65 b36 F15 R y17 y28) → G X E 4 0 0 (wX X ad F15 R) [(0, .ref (ad 0)), (1, .int a0), (2, .int y17)] 65 [.int y28] := by
              intro y28 py28 hkJ65
              unfold K_X10_check_65 at hkJ65
              refine g_istore_n cx [(3, .int y28), (0, .ref (ad 0)), (1, .int a0), (2, .int y17)] e_X10_check_65 (by decide) rfl ?_
              refine g_aload_n cx 1 rfl e_X10_check_66 ?_
              refine g_get cx cl_X10 fl_X10_22 0 (.ref (ad 9)) e_X10_check_67 rfl rfl ?_
              refine g_iload_n cx 3 rfl e_X10_check_70 ?_
              refine g_cViW cx [.int y17] [] (w_X9_number l X ad F15 R oF15 hA y17) ml_X10_266 yV_X9_number e_X10_check_71 (by unfold g_rr; decide) (by decide) 9 rfl rfl rfl (Nat.le_of_ble_eq_true rfl) (fun r29 w30 h31 => ?_)
              obtain ⟨rfl, pr29, hx32⟩ := h31
              have hk33 := k_ls hkJ65 hx32
              refine g_iload_n cx 0 rfl e_X10_check_74 ?_
              refine g_icmp_eq cx 80 e_X10_check_75 (by decide) (fun zc34 => ?_) (fun zc34 => ?_)
              · have hk35 := hk33.trans (if_pos zc34)
                obtain ⟨x36, ex36⟩ : ∃ z : Int32, z = y17 + Int32.ofInt 1 := ⟨_, rfl⟩
                have hk37 := k_ls hk35 (show x36 = y17 + 1 from ex36)
                refine g_iinc cx x36 [(2, .int x36), (3, .int y28), (0, .ref (ad 0)), (1, .int a0)] 3 e_X10_check_80 rfl ex36.symm (by decide) rfl ?_
                have zx36 := jv_add 1 10 (show x36 = y17 + 1 from ex36) p20 (jv_k (x := 1) 1 (by decide)) (by decide)
                refine g_goto cx 36 e_X10_check_83 (by decide) ?_
                refine g_lsub [2, 3, 0] [(0, .ref (ad 0)), (1, .int a0), (2, .int x36)] rfl ?_
                exact ih36 x36 (jv_w zx36.2 (by decide)) (hk37.trans (by rw [hb36])) (Nat.lt_of_lt_of_le (show (2147483647 - x36.toInt).toNat < (2147483647 - y17.toInt).toNat from by have q0 := (jv_k (x := 1) 1 (by decide)).1; have q1 := (jv_k (x := 1) 1 (by decide)).2; have q2 := (g_ok_g hI 1 rfl).1; have q3 := (g_ok_g hI 1 rfl).2; have q4 := p21.1; have q5 := p21.2; have q6 := zx11.2.1; have q7 := zx11.2.2; have q8 := zx36.2.1; have q9 := zx36.2.2; have q10 := p20.1; have q11 := p20.2; have q12 := (g_em zx11.1 (by decide : Int32.toInt 4 = 4)); have q13 := (gc_le zc13); have q14 := (gc_nle zc18); have q15 := (g_eq0 zx36.1); omega) (Nat.le_of_lt_succ hm36))
              · have hk38 := hk33.trans (if_neg zc34)
                refine g_iload_n cx 3 rfl e_X10_check_78 ?_
                exact hret e_X10_check_79 (Nat.le_of_ble_eq_true rfl) (Nat.le_of_ble_eq_true rfl) rfl ⟨F15, R, rfl, oF15, hA, fF15, (g_fr_rf R), (jv_w p20 (by decide)), (hk38.symm.trans hSP)⟩
            refine g_if_eq cx 64 e_X10_check_49 (by decide) (fun zc39 => ?_) (fun zc39 => ?_)
            · have p40 := gn_eq 0 0 (gc_eq zc39) pr23 (jv_k (x := 0) 0 (by decide)) (by decide)
              have hk41 := hk27.trans (if_pos zc39)
              refine g_iconst cx 0 (by decide) e_X10_check_64 ?_
              exact J65 0 (jv_w (jv_k (x := 0) 0 (by decide)) (by decide)) hk41
            · have p42 := gn_neL 1 1 (gc_ne zc39) pr23 (jv_k (x := 0) 0 (by decide)) (by decide)
              have hk43 := hk27.trans (if_neg zc39)
              refine g_aload_n cx 0 rfl e_X10_check_52 ?_
              refine g_get cx cl_X10 fl_X10_10 0 (.ref (ad 1)) e_X10_check_53 rfl rfl ?_
              refine g_iload_n cx 2 rfl e_X10_check_56 ?_
              refine g_iconst cx 1 (by decide) e_X10_check_57 ?_
              refine g_cViW cx [.int y17, .int 1] [] (w_X8_side_1 l X ad F15 R oF15 hA y17 1) ml_X10_173 yV_X8_side e_X10_check_58 (by unfold g_rr; decide) (by decide) 1 rfl rfl rfl (Nat.le_of_ble_eq_true rfl) (fun r44 w45 h46 => ?_)
              obtain ⟨rfl, pr44, hx47⟩ := h46
              have hk48 := k_ls hk43 hx47
              refine g_goto cx 65 e_X10_check_61 (by decide) ?_
              exact J65 r44 pr44 hk48
      refine g_lsub [1, 2, 0] [(0, .ref (ad 0)), (1, .int a0), (2, .int 0)] rfl ?_
      exact J36 8589934592 0 (jv_w (jv_k (x := 0) 0 (by decide)) (by decide)) hk16 (show (2147483647 - (0 : Int32).toInt).toNat < 8589934592 from by have q0 := (jv_k (x := 0) 0 (by decide)).1; have q1 := (jv_k (x := 0) 0 (by decide)).2; omega)
    · have p49 := gn_lt 0 39 (gc_nle zc13) (g_ok_g hI 1 rfl) zx11.2 (by decide)
      have p50 := gn_gt 1 40 (gc_nle zc13) zx11.2 (g_ok_g hI 1 rfl) (by decide)
      have hk51 := hk12.trans (if_neg zc13)
      refine g_lsub [] [] rfl ?_
      exact J23  hk51
def sp_X8_copy_3_r1 (F : Nat → Int32) (R : Nat → Nat → Int32) : (Nat → Int32) × (Nat → Nat → Int32) :=
  k_lt (upd F 48 (F 16)) (fun F1 => k_lt (upd F1 49 (F 17)) (fun F3 => k_lt (upd F3 50 (F 18)) (fun F5 => k_lt (upd F5 51 (F 19)) (fun F7 => k_lt (upd F7 52 (F 20)) (fun F9 => k_lt (g_u R 4 (va_cpy (R 2) (R 4) 0 0 80)) (fun R11 => (F9, R11)))))))
theorem e_X8_copy_0 : g_dc cX8_copy 0 (.aload_n 1) 1 1 := ⟨by decide +kernel, rfl⟩
theorem e_X8_copy_1 : g_dc cX8_copy 1 (.ifnonnull 4) 3 4 := ⟨by decide +kernel, rfl⟩
theorem e_X8_copy_5 : g_dc cX8_copy 5 (.aload_n 0) 1 6 := ⟨by decide +kernel, rfl⟩
theorem e_X8_copy_6 : g_dc cX8_copy 6 (.aload_n 1) 1 7 := ⟨by decide +kernel, rfl⟩
theorem e_X8_copy_7 : g_dc cX8_copy 7 (.getfield 9) 3 10 := ⟨by decide +kernel, rfl⟩
theorem e_X8_copy_10 : g_dc cX8_copy 10 (.putfield 9) 3 13 := ⟨by decide +kernel, rfl⟩
theorem e_X8_copy_13 : g_dc cX8_copy 13 (.aload_n 0) 1 14 := ⟨by decide +kernel, rfl⟩
theorem e_X8_copy_14 : g_dc cX8_copy 14 (.aload_n 1) 1 15 := ⟨by decide +kernel, rfl⟩
theorem e_X8_copy_15 : g_dc cX8_copy 15 (.getfield 15) 3 18 := ⟨by decide +kernel, rfl⟩
theorem e_X8_copy_18 : g_dc cX8_copy 18 (.putfield 15) 3 21 := ⟨by decide +kernel, rfl⟩
theorem e_X8_copy_21 : g_dc cX8_copy 21 (.aload_n 0) 1 22 := ⟨by decide +kernel, rfl⟩
theorem e_X8_copy_22 : g_dc cX8_copy 22 (.aload_n 1) 1 23 := ⟨by decide +kernel, rfl⟩
theorem e_X8_copy_23 : g_dc cX8_copy 23 (.getfield 18) 3 26 := ⟨by decide +kernel, rfl⟩
theorem e_X8_copy_26 : g_dc cX8_copy 26 (.putfield 18) 3 29 := ⟨by decide +kernel, rfl⟩
theorem e_X8_copy_29 : g_dc cX8_copy 29 (.aload_n 0) 1 30 := ⟨by decide +kernel, rfl⟩
theorem e_X8_copy_30 : g_dc cX8_copy 30 (.aload_n 1) 1 31 := ⟨by decide +kernel, rfl⟩
theorem e_X8_copy_31 : g_dc cX8_copy 31 (.getfield 21) 3 34 := ⟨by decide +kernel, rfl⟩
theorem e_X8_copy_34 : g_dc cX8_copy 34 (.putfield 21) 3 37 := ⟨by decide +kernel, rfl⟩
theorem e_X8_copy_37 : g_dc cX8_copy 37 (.aload_n 0) 1 38 := ⟨by decide +kernel, rfl⟩
theorem e_X8_copy_38 : g_dc cX8_copy 38 (.aload_n 1) 1 39 := ⟨by decide +kernel, rfl⟩
theorem e_X8_copy_39 : g_dc cX8_copy 39 (.getfield 24) 3 42 := ⟨by decide +kernel, rfl⟩
theorem e_X8_copy_42 : g_dc cX8_copy 42 (.putfield 24) 3 45 := ⟨by decide +kernel, rfl⟩
theorem e_X8_copy_45 : g_dc cX8_copy 45 (.aload_n 1) 1 46 := ⟨by decide +kernel, rfl⟩
theorem e_X8_copy_46 : g_dc cX8_copy 46 (.getfield 27) 3 49 := ⟨by decide +kernel, rfl⟩
theorem e_X8_copy_49 : g_dc cX8_copy 49 (.iconst 0) 1 50 := ⟨by decide +kernel, rfl⟩
theorem e_X8_copy_50 : g_dc cX8_copy 50 (.aload_n 0) 1 51 := ⟨by decide +kernel, rfl⟩
theorem e_X8_copy_51 : g_dc cX8_copy 51 (.getfield 27) 3 54 := ⟨by decide +kernel, rfl⟩
theorem e_X8_copy_54 : g_dc cX8_copy 54 (.iconst 0) 1 55 := ⟨by decide +kernel, rfl⟩
theorem e_X8_copy_55 : g_dc cX8_copy 55 (.aload_n 0) 1 56 := ⟨by decide +kernel, rfl⟩
theorem e_X8_copy_56 : g_dc cX8_copy 56 (.getfield 27) 3 59 := ⟨by decide +kernel, rfl⟩
theorem e_X8_copy_59 : g_dc cX8_copy 59 (.arraylength) 1 60 := ⟨by decide +kernel, rfl⟩
theorem e_X8_copy_60 : g_dc cX8_copy 60 (.invokestatic 39) 3 63 := ⟨by decide +kernel, rfl⟩
theorem e_X8_copy_63 : g_dc cX8_copy 63 (.return_) 1 64 := ⟨by decide +kernel, rfl⟩
def md_X8_copy_3_r1 : List Nat := [48, 49, 50, 51, 52]
def mr_X8_copy_3_r1 : List Nat := [4]
set_option maxHeartbeats 4000000 in
set_option maxRecDepth 100000 in
theorem w_X8_copy_3_r1 (l : Launch) (X : gX) (ad : Nat → Nat) (F : Nat → Int32) (R : Nat → Nat → Int32) (hI : g_ok LK_wX F) (hA : g_okR LA_wX R) : g_Cv l X yX8_copy cX8_copy 2 1 0 0 [.ref (ad 3), .ref (ad 1)] (wX X ad F R) (fun w => ∃ (F' : Nat → Int32) (R' : Nat → Nat → Int32), w = wX X ad F' R' ∧ g_ok LK_wX F' ∧ g_okR LA_wX R' ∧ g_fr md_X8_copy_3_r1 F F' ∧ g_fr mr_X8_copy_3_r1 R R' ∧ (F', R') = sp_X8_copy_3_r1 F R) := by
  refine g_mv (by decide +kernel) (Nat.le_of_ble_eq_true rfl) (fun E cx hret => ?_)
  obtain ⟨SP, hSP⟩ : ∃ z, z = sp_X8_copy_3_r1 F R := ⟨_, rfl⟩
  have hk0 := hSP
  unfold sp_X8_copy_3_r1 at hk0
  refine g_aload_n cx 1 rfl e_X8_copy_0 ?_
  refine g_ifnonnull cx 5 e_X8_copy_1 (by decide) ?_
  refine g_aload_n cx 0 rfl e_X8_copy_5 ?_
  refine g_aload_n cx 1 rfl e_X8_copy_6 ?_
  refine g_get cx cl_X8 fl_X8_9 1 (.int (F 16)) e_X8_copy_7 rfl rfl ?_
  refine g_put cx cl_X8 fl_X8_9 3 (wX X ad (upd F 48 (F 16)) R) e_X8_copy_10 rfl rfl rfl rfl (Nat.le_of_ble_eq_true rfl) rfl ?_
  obtain ⟨F1, hF1⟩ : ∃ z, z = upd F 48 (F 16) := ⟨_, rfl⟩
  rw [← hF1]
  have hk2 := k_ls hk0 hF1
  have oF1 : g_ok LK_wX F1 := by rw [hF1]; exact g_ok_u hI rfl
  have fF1 : g_fr md_X8_copy_3_r1 F F1 := by rw [hF1]; exact g_fr_u (g_fr_rf F) rfl
  refine g_aload_n cx 0 rfl e_X8_copy_13 ?_
  refine g_aload_n cx 1 rfl e_X8_copy_14 ?_
  refine g_get cx cl_X8 fl_X8_15 1 (.int (F1 17)) e_X8_copy_15 rfl rfl ?_
  refine g_toi (F 17) (g_pu2 hF1 rfl) ?_
  refine g_put cx cl_X8 fl_X8_15 3 (wX X ad (upd F1 49 (F 17)) R) e_X8_copy_18 rfl rfl rfl rfl (Nat.le_of_ble_eq_true rfl) rfl ?_
  obtain ⟨F3, hF3⟩ : ∃ z, z = upd F1 49 (F 17) := ⟨_, rfl⟩
  rw [← hF3]
  have hk4 := k_ls hk2 hF3
  have oF3 : g_ok LK_wX F3 := by rw [hF3]; exact g_ok_u oF1 rfl
  have fF3 : g_fr md_X8_copy_3_r1 F F3 := by rw [hF3]; exact g_fr_u fF1 rfl
  refine g_aload_n cx 0 rfl e_X8_copy_21 ?_
  refine g_aload_n cx 1 rfl e_X8_copy_22 ?_
  refine g_get cx cl_X8 fl_X8_18 1 (.int (F3 18)) e_X8_copy_23 rfl rfl ?_
  refine g_toi (F 18) ((g_pu2 hF3 rfl).trans (g_pu2 hF1 rfl)) ?_
  refine g_put cx cl_X8 fl_X8_18 3 (wX X ad (upd F3 50 (F 18)) R) e_X8_copy_26 rfl rfl rfl rfl (Nat.le_of_ble_eq_true rfl) rfl ?_
  obtain ⟨F5, hF5⟩ : ∃ z, z = upd F3 50 (F 18) := ⟨_, rfl⟩
  rw [← hF5]
  have hk6 := k_ls hk4 hF5
  have oF5 : g_ok LK_wX F5 := by rw [hF5]; exact g_ok_u oF3 rfl
  have fF5 : g_fr md_X8_copy_3_r1 F F5 := by rw [hF5]; exact g_fr_u fF3 rfl
  refine g_aload_n cx 0 rfl e_X8_copy_29 ?_
  refine g_aload_n cx 1 rfl e_X8_copy_30 ?_
  refine g_get cx cl_X8 fl_X8_21 1 (.int (F5 19)) e_X8_copy_31 rfl rfl ?_
  refine g_toi (F 19) (((g_pu2 hF5 rfl).trans (g_pu2 hF3 rfl)).trans (g_pu2 hF1 rfl)) ?_
  refine g_put cx cl_X8 fl_X8_21 3 (wX X ad (upd F5 51 (F 19)) R) e_X8_copy_34 rfl rfl rfl rfl (Nat.le_of_ble_eq_true rfl) rfl ?_
  obtain ⟨F7, hF7⟩ : ∃ z, z = upd F5 51 (F 19) := ⟨_, rfl⟩
  rw [← hF7]
  have hk8 := k_ls hk6 hF7
  have oF7 : g_ok LK_wX F7 := by rw [hF7]; exact g_ok_u oF5 rfl
  have fF7 : g_fr md_X8_copy_3_r1 F F7 := by rw [hF7]; exact g_fr_u fF5 rfl
  refine g_aload_n cx 0 rfl e_X8_copy_37 ?_
  refine g_aload_n cx 1 rfl e_X8_copy_38 ?_
  refine g_get cx cl_X8 fl_X8_24 1 (.int (F7 20)) e_X8_copy_39 rfl rfl ?_
  refine g_toi (F 20) ((((g_pu2 hF7 rfl).trans (g_pu2 hF5 rfl)).trans (g_pu2 hF3 rfl)).trans (g_pu2 hF1 rfl)) ?_
  refine g_put cx cl_X8 fl_X8_24 3 (wX X ad (upd F7 52 (F 20)) R) e_X8_copy_42 rfl rfl rfl rfl (Nat.le_of_ble_eq_true rfl) rfl ?_
  obtain ⟨F9, hF9⟩ : ∃ z, z = upd F7 52 (F 20) := ⟨_, rfl⟩
  rw [← hF9]
  have hk10 := k_ls hk8 hF9
  have oF9 : g_ok LK_wX F9 := by rw [hF9]; exact g_ok_u oF7 rfl
  have fF9 : g_fr md_X8_copy_3_r1 F F9 := by rw [hF9]; exact g_fr_u fF7 rfl
  refine g_aload_n cx 1 rfl e_X8_copy_45 ?_
  refine g_get cx cl_X8 fl_X8_27 1 (.ref (ad 2)) e_X8_copy_46 rfl rfl ?_
  refine g_iconst cx 0 (by decide) e_X8_copy_49 ?_
  refine g_aload_n cx 0 rfl e_X8_copy_50 ?_
  refine g_get cx cl_X8 fl_X8_27 3 (.ref (ad 4)) e_X8_copy_51 rfl rfl ?_
  refine g_iconst cx 0 (by decide) e_X8_copy_54 ?_
  refine g_aload_n cx 0 rfl e_X8_copy_55 ?_
  refine g_get cx cl_X8 fl_X8_27 3 (.ref (ad 4)) e_X8_copy_56 rfl rfl ?_
  refine g_alen cx 4 80 e_X8_copy_59 rfl (by decide) ?_
  refine g_copy cx 2 4 (wX X ad F9 (g_u R 4 (va_cpy (R 2) (R 4) 0 0 80))) ml_X8_39 e_X8_copy_60 rfl rfl (by decide) (by decide) (by decide) (by decide) rfl ?_
  obtain ⟨R11, hR11⟩ : ∃ z, z = g_u R 4 (va_cpy (R 2) (R 4) 0 0 80) := ⟨_, rfl⟩
  rw [← hR11]
  have hk12 := k_ls hk10 hR11
  have oR11 : g_okR LA_wX R11 := by rw [hR11]; exact g_okR_u hA rfl
  have fR11 : g_fr mr_X8_copy_3_r1 R R11 := by rw [hR11]; exact g_fr_r (g_fr_rf R) rfl
  exact hret e_X8_copy_63 (Nat.le_of_ble_eq_true rfl) (Nat.le_of_ble_eq_true rfl) ⟨F9, R11, rfl, oF9, oR11, fF9, fR11, (hk12.symm.trans hSP)⟩
def sp_X10_keep (F : Nat → Int32) (R : Nat → Nat → Int32) : Int32 × (Nat → Int32) × (Nat → Nat → Int32) :=
  k_lt2 (sp_X8_copy_3_r1 F R) (fun F5 R6 => k_lt (upd F5 11 1) (fun F8 => k_lt (sp_J6_bitCount_0f7a4_s0 (F 19)) (fun r10 => (r10, F8, R6))))
theorem e_X10_keep_0 : g_dc cX10_keep 0 (.aload_n 0) 1 1 := ⟨by decide +kernel, rfl⟩
theorem e_X10_keep_1 : g_dc cX10_keep 1 (.getfield 16) 3 4 := ⟨by decide +kernel, rfl⟩
theorem e_X10_keep_4 : g_dc cX10_keep 4 (.aload_n 0) 1 5 := ⟨by decide +kernel, rfl⟩
theorem e_X10_keep_5 : g_dc cX10_keep 5 (.getfield 10) 3 8 := ⟨by decide +kernel, rfl⟩
theorem e_X10_keep_8 : g_dc cX10_keep 8 (.invokevirtual 264) 3 11 := ⟨by decide +kernel, rfl⟩
theorem e_X10_keep_11 : g_dc cX10_keep 11 (.aload_n 0) 1 12 := ⟨by decide +kernel, rfl⟩
theorem e_X10_keep_12 : g_dc cX10_keep 12 (.iconst 1) 1 13 := ⟨by decide +kernel, rfl⟩
theorem e_X10_keep_13 : g_dc cX10_keep 13 (.putfield 74) 3 16 := ⟨by decide +kernel, rfl⟩
theorem e_X10_keep_16 : g_dc cX10_keep 16 (.aload_n 0) 1 17 := ⟨by decide +kernel, rfl⟩
theorem e_X10_keep_17 : g_dc cX10_keep 17 (.getfield 10) 3 20 := ⟨by decide +kernel, rfl⟩
theorem e_X10_keep_20 : g_dc cX10_keep 20 (.getfield 95) 3 23 := ⟨by decide +kernel, rfl⟩
theorem e_X10_keep_23 : g_dc cX10_keep 23 (.invokestatic 211) 3 26 := ⟨by decide +kernel, rfl⟩
theorem e_X10_keep_26 : g_dc cX10_keep 26 (.ireturn) 1 27 := ⟨by decide +kernel, rfl⟩
def md_X10_keep : List Nat := [11, 48, 49, 50, 51, 52]
def mr_X10_keep : List Nat := [4]
set_option maxHeartbeats 4000000 in
set_option maxRecDepth 100000 in
theorem w_X10_keep (l : Launch) (X : gX) (ad : Nat → Nat) (F : Nat → Int32) (R : Nat → Nat → Int32) (hI : g_ok LK_wX F) (hA : g_okR LA_wX R) : g_Ci l X yX10_keep cX10_keep 1 (some .int) 2 0 0 [.ref (ad 0)] (wX X ad F R) (fun r w => ∃ (F' : Nat → Int32) (R' : Nat → Nat → Int32), w = wX X ad F' R' ∧ g_ok LK_wX F' ∧ g_okR LA_wX R' ∧ g_fr md_X10_keep F F' ∧ g_fr mr_X10_keep R R' ∧ jv 0 63 r ∧ (r, F', R') = sp_X10_keep F R) := by
  refine g_mi (by decide +kernel) (Nat.le_of_ble_eq_true rfl) (fun E cx hret => ?_)
  obtain ⟨SP, hSP⟩ : ∃ z, z = sp_X10_keep F R := ⟨_, rfl⟩
  have hk0 := hSP
  unfold sp_X10_keep at hk0
  refine g_aload_n cx 0 rfl e_X10_keep_0 ?_
  refine g_get cx cl_X10 fl_X10_16 0 (.ref (ad 3)) e_X10_keep_1 rfl rfl ?_
  refine g_aload_n cx 0 rfl e_X10_keep_4 ?_
  refine g_get cx cl_X10 fl_X10_10 0 (.ref (ad 1)) e_X10_keep_5 rfl rfl ?_
  refine g_cVvW cx [.ref (ad 1)] [] (w_X8_copy_3_r1 l X ad F R hI hA) ml_X10_264 yV_X8_copy e_X10_keep_8 (by unfold g_rr; decide) (by decide) 3 rfl rfl rfl (Nat.le_of_ble_eq_true rfl) (fun w2 h3 => ?_)
  obtain ⟨F5, R6, rfl, oF5, oR6, cF5, cR6, hx4⟩ := h3
  have hk7 := k_ls2 hk0 hx4
  have fF5 : g_fr md_X10_keep F F5 := g_fr_c (g_fr_rf F) cF5 rfl
  have fR6 : g_fr mr_X10_keep R R6 := g_fr_c (g_fr_rf R) cR6 rfl
  refine g_aload_n cx 0 rfl e_X10_keep_11 ?_
  refine g_iconst cx 1 (by decide) e_X10_keep_12 ?_
  refine g_put cx cl_X10 fl_X10_74 0 (wX X ad (upd F5 11 1) R6) e_X10_keep_13 rfl rfl rfl rfl (Nat.le_of_ble_eq_true rfl) rfl ?_
  obtain ⟨F8, hF8⟩ : ∃ z, z = upd F5 11 1 := ⟨_, rfl⟩
  rw [← hF8]
  have hk9 := k_ls hk7 hF8
  have oF8 : g_ok LK_wX F8 := by rw [hF8]; exact g_ok_p oF5 (jv_k (x := 1) 1 (by decide)) rfl
  have fF8 : g_fr md_X10_keep F F8 := by rw [hF8]; exact g_fr_u fF5 rfl
  refine g_aload_n cx 0 rfl e_X10_keep_16 ?_
  refine g_get cx cl_X10 fl_X10_10 0 (.ref (ad 1)) e_X10_keep_17 rfl rfl ?_
  refine g_getN cx cl_X8 fn_X10_95 1 (.int (F8 19)) e_X10_keep_20 rfl rfl ?_
  refine g_toi (F 19) ((g_pu2 hF8 rfl).trans (cF5 19 rfl)) ?_
  refine g_cOiW cx [.int (F 19)] [] (w_J6_bitCount_0f7a4_s0 l X (wX X ad F8 R6) (F 19)) ml_X10_211 yS_J6_bitCount_0f7a4 e_X10_keep_23 (by unfold g_rr; decide) (by decide) rfl (Nat.le_of_ble_eq_true rfl) (fun r10 w11 h12 => ?_)
  obtain ⟨rfl, pr10, hr10⟩ := h12
  have hk13 := k_ls hk9 hr10
  exact hret e_X10_keep_26 (Nat.le_of_ble_eq_true rfl) (Nat.le_of_ble_eq_true rfl) rfl ⟨F8, R6, rfl, oF8, oR6, fF8, fR6, pr10, (hk13.symm.trans hSP)⟩
def sp_X8_copy_1_r3 (F : Nat → Int32) (R : Nat → Nat → Int32) : (Nat → Int32) × (Nat → Nat → Int32) :=
  k_lt (upd F 16 (F 48)) (fun F1 => k_lt (upd F1 17 (F 49)) (fun F3 => k_lt (upd F3 18 (F 50)) (fun F5 => k_lt (upd F5 19 (F 51)) (fun F7 => k_lt (upd F7 20 (F 52)) (fun F9 => k_lt (g_u R 2 (va_cpy (R 4) (R 2) 0 0 80)) (fun R11 => (F9, R11)))))))
def md_X8_copy_1_r3 : List Nat := [16, 17, 18, 19, 20]
def mr_X8_copy_1_r3 : List Nat := [2]
set_option maxHeartbeats 4000000 in
set_option maxRecDepth 100000 in
theorem w_X8_copy_1_r3 (l : Launch) (X : gX) (ad : Nat → Nat) (F : Nat → Int32) (R : Nat → Nat → Int32) (hI : g_ok LK_wX F) (hA : g_okR LA_wX R) : g_Cv l X yX8_copy cX8_copy 2 1 0 0 [.ref (ad 1), .ref (ad 3)] (wX X ad F R) (fun w => ∃ (F' : Nat → Int32) (R' : Nat → Nat → Int32), w = wX X ad F' R' ∧ g_ok LK_wX F' ∧ g_okR LA_wX R' ∧ g_fr md_X8_copy_1_r3 F F' ∧ g_fr mr_X8_copy_1_r3 R R' ∧ (F', R') = sp_X8_copy_1_r3 F R) := by
  refine g_mv (by decide +kernel) (Nat.le_of_ble_eq_true rfl) (fun E cx hret => ?_)
  obtain ⟨SP, hSP⟩ : ∃ z, z = sp_X8_copy_1_r3 F R := ⟨_, rfl⟩
  have hk0 := hSP
  unfold sp_X8_copy_1_r3 at hk0
  refine g_aload_n cx 1 rfl e_X8_copy_0 ?_
  refine g_ifnonnull cx 5 e_X8_copy_1 (by decide) ?_
  refine g_aload_n cx 0 rfl e_X8_copy_5 ?_
  refine g_aload_n cx 1 rfl e_X8_copy_6 ?_
  refine g_get cx cl_X8 fl_X8_9 3 (.int (F 48)) e_X8_copy_7 rfl rfl ?_
  refine g_put cx cl_X8 fl_X8_9 1 (wX X ad (upd F 16 (F 48)) R) e_X8_copy_10 rfl rfl rfl rfl (Nat.le_of_ble_eq_true rfl) rfl ?_
  obtain ⟨F1, hF1⟩ : ∃ z, z = upd F 16 (F 48) := ⟨_, rfl⟩
  rw [← hF1]
  have hk2 := k_ls hk0 hF1
  have oF1 : g_ok LK_wX F1 := by rw [hF1]; exact g_ok_u hI rfl
  have fF1 : g_fr md_X8_copy_1_r3 F F1 := by rw [hF1]; exact g_fr_u (g_fr_rf F) rfl
  refine g_aload_n cx 0 rfl e_X8_copy_13 ?_
  refine g_aload_n cx 1 rfl e_X8_copy_14 ?_
  refine g_get cx cl_X8 fl_X8_15 3 (.int (F1 49)) e_X8_copy_15 rfl rfl ?_
  refine g_toi (F 49) (g_pu2 hF1 rfl) ?_
  refine g_put cx cl_X8 fl_X8_15 1 (wX X ad (upd F1 17 (F 49)) R) e_X8_copy_18 rfl rfl rfl rfl (Nat.le_of_ble_eq_true rfl) rfl ?_
  obtain ⟨F3, hF3⟩ : ∃ z, z = upd F1 17 (F 49) := ⟨_, rfl⟩
  rw [← hF3]
  have hk4 := k_ls hk2 hF3
  have oF3 : g_ok LK_wX F3 := by rw [hF3]; exact g_ok_u oF1 rfl
  have fF3 : g_fr md_X8_copy_1_r3 F F3 := by rw [hF3]; exact g_fr_u fF1 rfl
  refine g_aload_n cx 0 rfl e_X8_copy_21 ?_
  refine g_aload_n cx 1 rfl e_X8_copy_22 ?_
  refine g_get cx cl_X8 fl_X8_18 3 (.int (F3 50)) e_X8_copy_23 rfl rfl ?_
  refine g_toi (F 50) ((g_pu2 hF3 rfl).trans (g_pu2 hF1 rfl)) ?_
  refine g_put cx cl_X8 fl_X8_18 1 (wX X ad (upd F3 18 (F 50)) R) e_X8_copy_26 rfl rfl rfl rfl (Nat.le_of_ble_eq_true rfl) rfl ?_
  obtain ⟨F5, hF5⟩ : ∃ z, z = upd F3 18 (F 50) := ⟨_, rfl⟩
  rw [← hF5]
  have hk6 := k_ls hk4 hF5
  have oF5 : g_ok LK_wX F5 := by rw [hF5]; exact g_ok_u oF3 rfl
  have fF5 : g_fr md_X8_copy_1_r3 F F5 := by rw [hF5]; exact g_fr_u fF3 rfl
  refine g_aload_n cx 0 rfl e_X8_copy_29 ?_
  refine g_aload_n cx 1 rfl e_X8_copy_30 ?_
  refine g_get cx cl_X8 fl_X8_21 3 (.int (F5 51)) e_X8_copy_31 rfl rfl ?_
  refine g_toi (F 51) (((g_pu2 hF5 rfl).trans (g_pu2 hF3 rfl)).trans (g_pu2 hF1 rfl)) ?_
  refine g_put cx cl_X8 fl_X8_21 1 (wX X ad (upd F5 19 (F 51)) R) e_X8_copy_34 rfl rfl rfl rfl (Nat.le_of_ble_eq_true rfl) rfl ?_
  obtain ⟨F7, hF7⟩ : ∃ z, z = upd F5 19 (F 51) := ⟨_, rfl⟩
  rw [← hF7]
  have hk8 := k_ls hk6 hF7
  have oF7 : g_ok LK_wX F7 := by rw [hF7]; exact g_ok_u oF5 rfl
  have fF7 : g_fr md_X8_copy_1_r3 F F7 := by rw [hF7]; exact g_fr_u fF5 rfl
  refine g_aload_n cx 0 rfl e_X8_copy_37 ?_
  refine g_aload_n cx 1 rfl e_X8_copy_38 ?_
  refine g_get cx cl_X8 fl_X8_24 3 (.int (F7 52)) e_X8_copy_39 rfl rfl ?_
  refine g_toi (F 52) ((((g_pu2 hF7 rfl).trans (g_pu2 hF5 rfl)).trans (g_pu2 hF3 rfl)).trans (g_pu2 hF1 rfl)) ?_
  refine g_put cx cl_X8 fl_X8_24 1 (wX X ad (upd F7 20 (F 52)) R) e_X8_copy_42 rfl rfl rfl rfl (Nat.le_of_ble_eq_true rfl) rfl ?_
  obtain ⟨F9, hF9⟩ : ∃ z, z = upd F7 20 (F 52) := ⟨_, rfl⟩
  rw [← hF9]
  have hk10 := k_ls hk8 hF9
  have oF9 : g_ok LK_wX F9 := by rw [hF9]; exact g_ok_u oF7 rfl
  have fF9 : g_fr md_X8_copy_1_r3 F F9 := by rw [hF9]; exact g_fr_u fF7 rfl
  refine g_aload_n cx 1 rfl e_X8_copy_45 ?_
  refine g_get cx cl_X8 fl_X8_27 3 (.ref (ad 4)) e_X8_copy_46 rfl rfl ?_
  refine g_iconst cx 0 (by decide) e_X8_copy_49 ?_
  refine g_aload_n cx 0 rfl e_X8_copy_50 ?_
  refine g_get cx cl_X8 fl_X8_27 1 (.ref (ad 2)) e_X8_copy_51 rfl rfl ?_
  refine g_iconst cx 0 (by decide) e_X8_copy_54 ?_
  refine g_aload_n cx 0 rfl e_X8_copy_55 ?_
  refine g_get cx cl_X8 fl_X8_27 1 (.ref (ad 2)) e_X8_copy_56 rfl rfl ?_
  refine g_alen cx 2 80 e_X8_copy_59 rfl (by decide) ?_
  refine g_copy cx 4 2 (wX X ad F9 (g_u R 2 (va_cpy (R 4) (R 2) 0 0 80))) ml_X8_39 e_X8_copy_60 rfl rfl (by decide) (by decide) (by decide) (by decide) rfl ?_
  obtain ⟨R11, hR11⟩ : ∃ z, z = g_u R 2 (va_cpy (R 4) (R 2) 0 0 80) := ⟨_, rfl⟩
  rw [← hR11]
  have hk12 := k_ls hk10 hR11
  have oR11 : g_okR LA_wX R11 := by rw [hR11]; exact g_okR_u hA rfl
  have fR11 : g_fr mr_X8_copy_1_r3 R R11 := by rw [hR11]; exact g_fr_r (g_fr_rf R) rfl
  exact hret e_X8_copy_63 (Nat.le_of_ble_eq_true rfl) (Nat.le_of_ble_eq_true rfl) ⟨F9, R11, rfl, oF9, oR11, fF9, fR11, (hk12.symm.trans hSP)⟩
def sp_X10_undo (F : Nat → Int32) (R : Nat → Nat → Int32) : Int32 × (Nat → Int32) × (Nat → Nat → Int32) :=
  if (F 11) = 0 then (0, F, R) else k_lt2 (sp_X8_copy_1_r3 F R) (fun F8 R9 => (1, F8, R9))
theorem e_X10_undo_0 : g_dc cX10_undo 0 (.aload_n 0) 1 1 := ⟨by decide +kernel, rfl⟩
theorem e_X10_undo_1 : g_dc cX10_undo 1 (.getfield 74) 3 4 := ⟨by decide +kernel, rfl⟩
theorem e_X10_undo_4 : g_dc cX10_undo 4 (.ifCond .ne 5) 3 7 := ⟨by decide +kernel, rfl⟩
theorem e_X10_undo_7 : g_dc cX10_undo 7 (.iconst 0) 1 8 := ⟨by decide +kernel, rfl⟩
theorem e_X10_undo_8 : g_dc cX10_undo 8 (.ireturn) 1 9 := ⟨by decide +kernel, rfl⟩
theorem e_X10_undo_9 : g_dc cX10_undo 9 (.aload_n 0) 1 10 := ⟨by decide +kernel, rfl⟩
theorem e_X10_undo_10 : g_dc cX10_undo 10 (.getfield 10) 3 13 := ⟨by decide +kernel, rfl⟩
theorem e_X10_undo_13 : g_dc cX10_undo 13 (.aload_n 0) 1 14 := ⟨by decide +kernel, rfl⟩
theorem e_X10_undo_14 : g_dc cX10_undo 14 (.getfield 16) 3 17 := ⟨by decide +kernel, rfl⟩
theorem e_X10_undo_17 : g_dc cX10_undo 17 (.invokevirtual 264) 3 20 := ⟨by decide +kernel, rfl⟩
theorem e_X10_undo_20 : g_dc cX10_undo 20 (.iconst 1) 1 21 := ⟨by decide +kernel, rfl⟩
theorem e_X10_undo_21 : g_dc cX10_undo 21 (.ireturn) 1 22 := ⟨by decide +kernel, rfl⟩
def md_X10_undo : List Nat := [16, 17, 18, 19, 20]
def mr_X10_undo : List Nat := [2]
set_option maxHeartbeats 4000000 in
set_option maxRecDepth 100000 in
theorem w_X10_undo (l : Launch) (X : gX) (ad : Nat → Nat) (F : Nat → Int32) (R : Nat → Nat → Int32) (hI : g_ok LK_wX F) (hA : g_okR LA_wX R) : g_Ci l X yX10_undo cX10_undo 1 (some .boolean) 2 0 0 [.ref (ad 0)] (wX X ad F R) (fun r w => ∃ (F' : Nat → Int32) (R' : Nat → Nat → Int32), w = wX X ad F' R' ∧ g_ok LK_wX F' ∧ g_okR LA_wX R' ∧ g_fr md_X10_undo F F' ∧ g_fr mr_X10_undo R R' ∧ jv 0 1 r ∧ (r, F', R') = sp_X10_undo F R) := by
  refine g_mi (by decide +kernel) (Nat.le_of_ble_eq_true rfl) (fun E cx hret => ?_)
  obtain ⟨SP, hSP⟩ : ∃ z, z = sp_X10_undo F R := ⟨_, rfl⟩
  have hk0 := hSP
  unfold sp_X10_undo at hk0
  refine g_aload_n cx 0 rfl e_X10_undo_0 ?_
  refine g_get cx cl_X10 fl_X10_74 0 (.int (F 11)) e_X10_undo_1 rfl rfl ?_
  refine g_if_ne cx 9 e_X10_undo_4 (by decide) (fun zc1 => ?_) (fun zc1 => ?_)
  · have p2 := gn_neL 1 1 (gc_ne zc1) (g_ok_g hI 0 rfl) (jv_k (x := 0) 0 (by decide)) (by decide)
    have hk3 := hk0.trans (if_neg zc1)
    refine g_aload_n cx 0 rfl e_X10_undo_9 ?_
    refine g_get cx cl_X10 fl_X10_10 0 (.ref (ad 1)) e_X10_undo_10 rfl rfl ?_
    refine g_aload_n cx 0 rfl e_X10_undo_13 ?_
    refine g_get cx cl_X10 fl_X10_16 0 (.ref (ad 3)) e_X10_undo_14 rfl rfl ?_
    refine g_cVvW cx [.ref (ad 3)] [] (w_X8_copy_1_r3 l X ad F R hI hA) ml_X10_264 yV_X8_copy e_X10_undo_17 (by unfold g_rr; decide) (by decide) 1 rfl rfl rfl (Nat.le_of_ble_eq_true rfl) (fun w5 h6 => ?_)
    obtain ⟨F8, R9, rfl, oF8, oR9, cF8, cR9, hx7⟩ := h6
    have hk10 := k_ls2 hk3 hx7
    have fF8 : g_fr md_X10_undo F F8 := g_fr_c (g_fr_rf F) cF8 rfl
    have fR9 : g_fr mr_X10_undo R R9 := g_fr_c (g_fr_rf R) cR9 rfl
    refine g_iconst cx 1 (by decide) e_X10_undo_20 ?_
    exact hret e_X10_undo_21 (Nat.le_of_ble_eq_true rfl) (Nat.le_of_ble_eq_true rfl) rfl ⟨F8, R9, rfl, oF8, oR9, fF8, fR9, (jv_w (jv_k (x := 1) 1 (by decide)) (by decide)), (hk10.symm.trans hSP)⟩
  · have p11 := gn_eq 0 0 (gc_eq zc1) (g_ok_g hI 0 rfl) (jv_k (x := 0) 0 (by decide)) (by decide)
    have hk12 := hk0.trans (if_pos zc1)
    refine g_iconst cx 0 (by decide) e_X10_undo_7 ?_
    exact hret e_X10_undo_8 (Nat.le_of_ble_eq_true rfl) (Nat.le_of_ble_eq_true rfl) rfl ⟨F, R, rfl, hI, hA, (g_fr_rf F), (g_fr_rf R), (jv_w (jv_k (x := 0) 0 (by decide)) (by decide)), (hk12.symm.trans hSP)⟩
