theorem e_X9_at_0 : g_dc cX9_at 0 (.iload_n 1) 1 1 := ⟨by decide +kernel, rfl⟩
theorem e_X9_at_1 : g_dc cX9_at 1 (.iconst 0) 1 2 := ⟨by decide +kernel, rfl⟩
theorem e_X9_at_2 : g_dc cX9_at 2 (.sipush 219) 3 5 := ⟨by decide +kernel, rfl⟩
theorem e_X9_at_5 : g_dc cX9_at 5 (.invokestatic 19) 3 8 := ⟨by decide +kernel, rfl⟩
theorem e_X9_at_8 : g_dc cX9_at 8 (.ifCond .eq 12) 3 11 := ⟨by decide +kernel, rfl⟩
theorem e_X9_at_11 : g_dc cX9_at 11 (.aload_n 0) 1 12 := ⟨by decide +kernel, rfl⟩
theorem e_X9_at_12 : g_dc cX9_at 12 (.getfield 9) 3 15 := ⟨by decide +kernel, rfl⟩
theorem e_X9_at_15 : g_dc cX9_at 15 (.iload_n 1) 1 16 := ⟨by decide +kernel, rfl⟩
theorem e_X9_at_16 : g_dc cX9_at 16 (.iaload) 1 17 := ⟨by decide +kernel, rfl⟩
theorem e_X9_at_17 : g_dc cX9_at 17 (.goto 4) 3 20 := ⟨by decide +kernel, rfl⟩
theorem e_X9_at_20 : g_dc cX9_at 20 (.iconst (-1)) 1 21 := ⟨by decide +kernel, rfl⟩
theorem e_X9_at_21 : g_dc cX9_at 21 (.ireturn) 1 22 := ⟨by decide +kernel, rfl⟩
set_option maxHeartbeats 4000000 in
set_option maxRecDepth 100000 in
theorem w_X9_at (l : Launch) (X : gX) (ad : Nat → Nat) (F : Nat → Int32) (R : Nat → Nat → Int32) (hI : g_ok LK_wX F) (hA : g_okR LA_wX R) (a0 : Int32) : g_Ci l X yX9_at cX9_at 2 (some .int) 2 0 0 [.ref (ad 9), .int a0] (wX X ad F R) (fun r w => w = wX X ad F R ∧ jv (-2147483648) 2147483647 r) := by
  refine g_mi (by decide +kernel) (Nat.le_of_ble_eq_true rfl) (fun E cx hret => ?_)
  refine g_iload_n cx 1 rfl e_X9_at_0 ?_
  refine g_iconst cx 0 (by decide) e_X9_at_1 ?_
  refine g_sipush cx 219 (by decide) e_X9_at_2 ?_
  refine g_cNiW cx [.int a0, .int 0, .int 219] [] (c_X10_within l X (wX X ad F R) a0 0 219) mn_X9_19 yS_X10_within e_X9_at_5 (by unfold g_rr; decide) (by decide) rfl (Nat.le_of_ble_eq_true rfl) (fun r1 w2 h3 => ?_)
  obtain ⟨rfl, hr1⟩ := h3
  have pr1 : jv 0 1 r1 := by rw [hr1]; exact gi_01 _ _ _
  have J21 : ∀ (y4 : Int32), (jv (-2147483648) 2147483647 y4) → G X E 2 0 0 (wX X ad F R) [] 21 [.int y4] := by
    intro y4 py4
    exact hret e_X9_at_21 (Nat.le_of_ble_eq_true rfl) (Nat.le_of_ble_eq_true rfl) rfl ⟨rfl, py4⟩
  refine g_if_eq cx 20 e_X9_at_8 (by decide) (fun zc5 => ?_) (fun zc5 => ?_)
  · have p6 := gn_eq 0 0 (gc_eq zc5) pr1 (jv_k (x := 0) 0 (by decide)) (by decide)
    refine g_iconst cx (-1) (by decide) e_X9_at_20 ?_
    refine g_lsub [] [] rfl ?_
    exact J21 (-1) (jv_w (jv_k (x := (-1)) (-1) (by decide)) (by decide))
  · have p7 := gn_neL 1 1 (gc_ne zc5) pr1 (jv_k (x := 0) 0 (by decide)) (by decide)
    have p8 := jv_i 0 219 (jv_t a0) (gi_in (A := 0) (B := 219) hr1 zc5 (by decide) (by decide)) (by decide)
    refine g_aload_n cx 0 rfl e_X9_at_11 ?_
    refine g_get cx cl_X9 fl_X9_9 9 (.ref (ad 10)) e_X9_at_12 rfl rfl ?_
    refine g_iload_n cx 1 rfl e_X9_at_15 ?_
    refine g_iald cx 10 e_X9_at_16 rfl (jv_ix 220 p8 (by decide)) ?_
    refine g_topi (fun x9 ex9 => ?_)
    refine g_goto cx 21 e_X9_at_17 (by decide) ?_
    refine g_lsub [] [] rfl ?_
    exact J21 x9 (jv_t x9)
theorem e_X5_digit_0 : g_dc cX5_digit 0 (.aload_n 0) 1 1 := ⟨by decide +kernel, rfl⟩
theorem e_X5_digit_1 : g_dc cX5_digit 1 (.ifnull 16) 3 4 := ⟨by decide +kernel, rfl⟩
theorem e_X5_digit_4 : g_dc cX5_digit 4 (.iload_n 1) 1 5 := ⟨by decide +kernel, rfl⟩
theorem e_X5_digit_5 : g_dc cX5_digit 5 (.iload_n 2) 1 6 := ⟨by decide +kernel, rfl⟩
theorem e_X5_digit_6 : g_dc cX5_digit 6 (.if_icmp .ge 11) 3 9 := ⟨by decide +kernel, rfl⟩
theorem e_X5_digit_9 : g_dc cX5_digit 9 (.aload_n 0) 1 10 := ⟨by decide +kernel, rfl⟩
theorem e_X5_digit_10 : g_dc cX5_digit 10 (.iload_n 1) 1 11 := ⟨by decide +kernel, rfl⟩
theorem e_X5_digit_11 : g_dc cX5_digit 11 (.invokevirtual 40) 3 14 := ⟨by decide +kernel, rfl⟩
theorem e_X5_digit_14 : g_dc cX5_digit 14 (.goto 4) 3 17 := ⟨by decide +kernel, rfl⟩
theorem e_X5_digit_17 : g_dc cX5_digit 17 (.iconst (-1)) 1 18 := ⟨by decide +kernel, rfl⟩
theorem e_X5_digit_18 : g_dc cX5_digit 18 (.istore_n 3) 1 19 := ⟨by decide +kernel, rfl⟩
theorem e_X5_digit_19 : g_dc cX5_digit 19 (.iload_n 3) 1 20 := ⟨by decide +kernel, rfl⟩
theorem e_X5_digit_20 : g_dc cX5_digit 20 (.bipush 48) 2 22 := ⟨by decide +kernel, rfl⟩
theorem e_X5_digit_22 : g_dc cX5_digit 22 (.bipush 57) 2 24 := ⟨by decide +kernel, rfl⟩
theorem e_X5_digit_24 : g_dc cX5_digit 24 (.invokestatic 46) 3 27 := ⟨by decide +kernel, rfl⟩
theorem e_X5_digit_27 : g_dc cX5_digit 27 (.ifCond .eq 10) 3 30 := ⟨by decide +kernel, rfl⟩
theorem e_X5_digit_30 : g_dc cX5_digit 30 (.iload_n 3) 1 31 := ⟨by decide +kernel, rfl⟩
theorem e_X5_digit_31 : g_dc cX5_digit 31 (.bipush 48) 2 33 := ⟨by decide +kernel, rfl⟩
theorem e_X5_digit_33 : g_dc cX5_digit 33 (.isub) 1 34 := ⟨by decide +kernel, rfl⟩
theorem e_X5_digit_34 : g_dc cX5_digit 34 (.goto 4) 3 37 := ⟨by decide +kernel, rfl⟩
theorem e_X5_digit_37 : g_dc cX5_digit 37 (.iconst (-1)) 1 38 := ⟨by decide +kernel, rfl⟩
theorem e_X5_digit_38 : g_dc cX5_digit 38 (.ireturn) 1 39 := ⟨by decide +kernel, rfl⟩
set_option maxHeartbeats 4000000 in
set_option maxRecDepth 100000 in
theorem w_X5_digit_r9 (l : Launch) (X : gX) (ad : Nat → Nat) (F : Nat → Int32) (R : Nat → Nat → Int32) (hI : g_ok LK_wX F) (hA : g_okR LA_wX R) (a1 : Int32) (a2 : Int32) : g_Ci l X yX5_digit cX5_digit 4 (some .int) 3 0 0 [.ref (ad 9), .int a1, .int a2] (wX X ad F R) (fun r w => w = wX X ad F R ∧ jv (-1) 14 r) := by
  refine g_mi (by decide +kernel) (Nat.le_of_ble_eq_true rfl) (fun E cx hret => ?_)
  refine g_aload_n cx 0 rfl e_X5_digit_0 ?_
  refine g_ifnull cx e_X5_digit_1 ?_
  refine g_iload_n cx 1 rfl e_X5_digit_4 ?_
  refine g_iload_n cx 2 rfl e_X5_digit_5 ?_
  have J18 : ∀ (y1 : Int32), (jv (-2147483648) 2147483647 y1) → G X E 4 0 0 (wX X ad F R) [] 18 [.int y1] := by
    intro y1 py1
    refine g_istore_n cx [(3, .int y1)] e_X5_digit_18 (by decide) rfl ?_
    refine g_iload_n cx 0 rfl e_X5_digit_19 ?_
    refine g_bipush cx 48 (by decide) e_X5_digit_20 ?_
    refine g_bipush cx 57 (by decide) e_X5_digit_22 ?_
    refine g_cNiW cx [.int y1, .int 48, .int 57] [] (c_X10_within l X (wX X ad F R) y1 48 57) mn_X5_46 yS_X10_within e_X5_digit_24 (by unfold g_rr; decide) (by decide) rfl (Nat.le_of_ble_eq_true rfl) (fun r2 w3 h4 => ?_)
    obtain ⟨rfl, hr2⟩ := h4
    have pr2 : jv 0 1 r2 := by rw [hr2]; exact gi_01 _ _ _
    have J38 : ∀ (y5 : Int32), (jv (-1) 14 y5) → G X E 4 0 0 (wX X ad F R) [] 38 [.int y5] := by
      intro y5 py5
      exact hret e_X5_digit_38 (Nat.le_of_ble_eq_true rfl) (Nat.le_of_ble_eq_true rfl) rfl ⟨rfl, py5⟩
    refine g_if_eq cx 37 e_X5_digit_27 (by decide) (fun zc6 => ?_) (fun zc6 => ?_)
    · have p7 := gn_eq 0 0 (gc_eq zc6) pr2 (jv_k (x := 0) 0 (by decide)) (by decide)
      refine g_iconst cx (-1) (by decide) e_X5_digit_37 ?_
      refine g_lsub [] [] rfl ?_
      exact J38 (-1) (jv_w (jv_k (x := (-1)) (-1) (by decide)) (by decide))
    · have p8 := gn_neL 1 1 (gc_ne zc6) pr2 (jv_k (x := 0) 0 (by decide)) (by decide)
      have p9 := jv_i 48 57 py1 (gi_in (A := 48) (B := 57) hr2 zc6 (by decide) (by decide)) (by decide)
      refine g_iload_n cx 0 rfl e_X5_digit_30 ?_
      refine g_bipush cx 48 (by decide) e_X5_digit_31 ?_
      refine g_isub cx e_X5_digit_33 ?_
      refine g_topi (fun x10 ex10 => ?_)
      have zx10 := jv_sub 0 9 ex10 p9 (jv_k (x := 48) 48 (by decide)) (by decide)
      refine g_goto cx 38 e_X5_digit_34 (by decide) ?_
      refine g_lsub [] [] rfl ?_
      exact J38 x10 (jv_w zx10.2 (by decide))
  refine g_icmp_ge cx 17 e_X5_digit_6 (by decide) (fun zc11 => ?_) (fun zc11 => ?_)
  · refine g_iconst cx (-1) (by decide) e_X5_digit_17 ?_
    refine g_lsub [] [] rfl ?_
    exact J18 (-1) (jv_w (jv_k (x := (-1)) (-1) (by decide)) (by decide))
  · have p12 := gn_lt (-2147483648) 2147483646 (gc_nle zc11) (jv_t a1) (jv_t a2) (by decide)
    have p13 := gn_gt (-2147483647) 2147483647 (gc_nle zc11) (jv_t a2) (jv_t a1) (by decide)
    refine g_aload_n cx 0 rfl e_X5_digit_9 ?_
    refine g_iload_n cx 1 rfl e_X5_digit_10 ?_
    refine g_cViW cx [.int a1] [] (w_X9_at l X ad F R hI hA a1) ml_X5_40 yV_X9_at e_X5_digit_11 (by unfold g_rr; decide) (by decide) 9 rfl rfl rfl (Nat.le_of_ble_eq_true rfl) (fun r14 w15 h16 => ?_)
    obtain ⟨rfl, pr14⟩ := h16
    refine g_goto cx 18 e_X5_digit_14 (by decide) ?_
    refine g_lsub [] [] rfl ?_
    exact J18 r14 pr14
theorem e_X5_add_0 : g_dc cX5_add 0 (.iconst 0) 1 1 := ⟨by decide +kernel, rfl⟩
theorem e_X5_add_1 : g_dc cX5_add 1 (.istore_n 3) 1 2 := ⟨by decide +kernel, rfl⟩
theorem e_X5_add_2 : g_dc cX5_add 2 (.iload_n 3) 1 3 := ⟨by decide +kernel, rfl⟩
theorem e_X5_add_3 : g_dc cX5_add 3 (.iload_n 2) 1 4 := ⟨by decide +kernel, rfl⟩
theorem e_X5_add_4 : g_dc cX5_add 4 (.if_icmp .ge 38) 3 7 := ⟨by decide +kernel, rfl⟩
theorem e_X5_add_7 : g_dc cX5_add 7 (.aload_n 0) 1 8 := ⟨by decide +kernel, rfl⟩
theorem e_X5_add_8 : g_dc cX5_add 8 (.getfield 15) 3 11 := ⟨by decide +kernel, rfl⟩
theorem e_X5_add_11 : g_dc cX5_add 11 (.bipush 60) 2 13 := ⟨by decide +kernel, rfl⟩
theorem e_X5_add_13 : g_dc cX5_add 13 (.if_icmp .ge 29) 3 16 := ⟨by decide +kernel, rfl⟩
theorem e_X5_add_16 : g_dc cX5_add 16 (.aload_n 0) 1 17 := ⟨by decide +kernel, rfl⟩
theorem e_X5_add_17 : g_dc cX5_add 17 (.getfield 9) 3 20 := ⟨by decide +kernel, rfl⟩
theorem e_X5_add_20 : g_dc cX5_add 20 (.aload_n 0) 1 21 := ⟨by decide +kernel, rfl⟩
theorem e_X5_add_21 : g_dc cX5_add 21 (.getfield 15) 3 24 := ⟨by decide +kernel, rfl⟩
theorem e_X5_add_24 : g_dc cX5_add 24 (.iload_n 1) 1 25 := ⟨by decide +kernel, rfl⟩
theorem e_X5_add_25 : g_dc cX5_add 25 (.iastore) 1 26 := ⟨by decide +kernel, rfl⟩
theorem e_X5_add_26 : g_dc cX5_add 26 (.aload_n 0) 1 27 := ⟨by decide +kernel, rfl⟩
theorem e_X5_add_27 : g_dc cX5_add 27 (.dup) 1 28 := ⟨by decide +kernel, rfl⟩
theorem e_X5_add_28 : g_dc cX5_add 28 (.getfield 15) 3 31 := ⟨by decide +kernel, rfl⟩
theorem e_X5_add_31 : g_dc cX5_add 31 (.iconst 1) 1 32 := ⟨by decide +kernel, rfl⟩
theorem e_X5_add_32 : g_dc cX5_add 32 (.iadd) 1 33 := ⟨by decide +kernel, rfl⟩
theorem e_X5_add_33 : g_dc cX5_add 33 (.putfield 15) 3 36 := ⟨by decide +kernel, rfl⟩
theorem e_X5_add_36 : g_dc cX5_add 36 (.iinc 3 1) 3 39 := ⟨by decide +kernel, rfl⟩
theorem e_X5_add_39 : g_dc cX5_add 39 (.goto (-37)) 3 42 := ⟨by decide +kernel, rfl⟩
theorem e_X5_add_42 : g_dc cX5_add 42 (.return_) 1 43 := ⟨by decide +kernel, rfl⟩
def md_X5_add_13 : List Nat := [209]
def mr_X5_add_13 : List Nat := [14]
set_option maxHeartbeats 4000000 in
set_option maxRecDepth 100000 in
theorem w_X5_add_13 (l : Launch) (X : gX) (ad : Nat → Nat) (F : Nat → Int32) (R : Nat → Nat → Int32) (hI : g_ok LK_wX F) (hA : g_okR LA_wX R) (a0 : Int32) (a1 : Int32) : g_Cv l X yX5_add cX5_add 4 1 0 0 [.ref (ad 13), .int a0, .int a1] (wX X ad F R) (fun w => ∃ (F' : Nat → Int32) (R' : Nat → Nat → Int32), w = wX X ad F' R' ∧ g_ok LK_wX F' ∧ g_okR LA_wX R' ∧ g_fr md_X5_add_13 F F' ∧ g_fr mr_X5_add_13 R R') := by
  refine g_mv (by decide +kernel) (Nat.le_of_ble_eq_true rfl) (fun E cx hret => ?_)
  refine g_iconst cx 0 (by decide) e_X5_add_0 ?_
  refine g_istore_n cx [(3, .int 0), (0, .ref (ad 13)), (1, .int a0), (2, .int a1)] e_X5_add_1 (by decide) rfl ?_
  have J2 : ∀ (N : Nat) (F2 : Nat → Int32) (R3 : Nat → Nat → Int32) (y1 : Int32), (g_ok LK_wX F2) → (g_fr md_X5_add_13 F F2) → (g_okR LA_wX R3) → (g_fr mr_X5_add_13 R R3) → (jv 0 2147483647 y1) → (2147483647 - y1.toInt).toNat < N → G X E 4 0 0 (wX X ad F2 R3) [(0, .ref (ad 13)), (1, .int a0), (2, .int a1), (3, .int y1)] 2 [] := by
    intro N
    induction N with
    | zero => intro F2 R3 y1 oF2 fF2 oR3 fR3 py1 hm; exact absurd hm (Nat.not_lt_zero _)
    | succ N ih2 =>
      intro F2 R3 y1 oF2 fF2 oR3 fR3 py1 hm2
      refine g_iload_n cx 3 rfl e_X5_add_2 ?_
      refine g_iload_n cx 2 rfl e_X5_add_3 ?_
      have J42 : G X E 4 0 0 (wX X ad F2 R3) [] 42 [] := by
        exact hret e_X5_add_42 (Nat.le_of_ble_eq_true rfl) (Nat.le_of_ble_eq_true rfl) ⟨F2, R3, rfl, oF2, oR3, fF2, fR3⟩
      refine g_icmp_ge cx 42 e_X5_add_4 (by decide) (fun zc4 => ?_) (fun zc4 => ?_)
      · refine g_lsub [] [] rfl ?_
        exact J42  
      · have p5 := gn_lt 0 2147483646 (gc_nle zc4) py1 (jv_t a1) (by decide)
        have p6 := gn_gt 1 2147483647 (gc_nle zc4) (jv_t a1) py1 (by decide)
        refine g_aload_n cx 0 rfl e_X5_add_7 ?_
        refine g_get cx cl_X5 fl_X5_15 13 (.int (F2 209)) e_X5_add_8 rfl rfl ?_
        refine g_bipush cx 60 (by decide) e_X5_add_11 ?_
        refine g_icmp_ge cx 42 e_X5_add_13 (by decide) (fun zc7 => ?_) (fun zc7 => ?_)
        · have p8 := gn_ge 60 60 (gc_le zc7) (g_ok_g oF2 3 rfl) (jv_k (x := 60) 60 (by decide)) (by decide)
          refine g_lsub [] [] rfl ?_
          exact J42  
        · have p9 := gn_lt 0 59 (gc_nle zc7) (g_ok_g oF2 3 rfl) (jv_k (x := 60) 60 (by decide)) (by decide)
          refine g_aload_n cx 0 rfl e_X5_add_16 ?_
          refine g_get cx cl_X5 fl_X5_9 13 (.ref (ad 14)) e_X5_add_17 rfl rfl ?_
          refine g_aload_n cx 0 rfl e_X5_add_20 ?_
          refine g_get cx cl_X5 fl_X5_15 13 (.int (F2 209)) e_X5_add_21 rfl rfl ?_
          refine g_iload_n cx 1 rfl e_X5_add_24 ?_
          refine g_iast cx 14 (wX X ad F2 (g_u R3 14 (upd (R3 14) (Int32.toNatClampNeg (F2 209)) a0))) e_X5_add_25 rfl (jv_ix 60 p9 (by decide)) rfl ?_
          obtain ⟨R10, hR10⟩ : ∃ z, z = g_u R3 14 (upd (R3 14) (Int32.toNatClampNeg (F2 209)) a0) := ⟨_, rfl⟩
          rw [← hR10]
          have oR10 : g_okR LA_wX R10 := by rw [hR10]; exact g_okR_u oR3 rfl
          have fR10 : g_fr mr_X5_add_13 R R10 := by rw [hR10]; exact g_fr_r fR3 rfl
          refine g_aload_n cx 0 rfl e_X5_add_26 ?_
          refine g_dup cx rfl e_X5_add_27 ?_
          refine g_get cx cl_X5 fl_X5_15 13 (.int (F2 209)) e_X5_add_28 rfl rfl ?_
          refine g_iconst cx 1 (by decide) e_X5_add_31 ?_
          refine g_iadd cx e_X5_add_32 ?_
          refine g_topi (fun x11 ex11 => ?_)
          have zx11 := jv_add 1 60 ex11 p9 (jv_k (x := 1) 1 (by decide)) (by decide)
          refine g_put cx cl_X5 fl_X5_15 13 (wX X ad (upd F2 209 x11) R10) e_X5_add_33 rfl rfl rfl rfl (Nat.le_of_ble_eq_true rfl) rfl ?_
          obtain ⟨F12, hF12⟩ : ∃ z, z = upd F2 209 x11 := ⟨_, rfl⟩
          rw [← hF12]
          have oF12 : g_ok LK_wX F12 := by rw [hF12]; exact g_ok_p oF2 zx11.2 rfl
          have fF12 : g_fr md_X5_add_13 F F12 := by rw [hF12]; exact g_fr_u fF2 rfl
          obtain ⟨x13, ex13⟩ : ∃ z : Int32, z = y1 + Int32.ofInt 1 := ⟨_, rfl⟩
          refine g_iinc cx x13 [(3, .int x13), (0, .ref (ad 13)), (1, .int a0), (2, .int a1)] 3 e_X5_add_36 rfl ex13.symm (by decide) rfl ?_
          have zx13 := jv_add 1 2147483647 (show x13 = y1 + 1 from ex13) p5 (jv_k (x := 1) 1 (by decide)) (by decide)
          refine g_goto cx 2 e_X5_add_39 (by decide) ?_
          refine g_lsub [1, 2, 3, 0] [(0, .ref (ad 13)), (1, .int a0), (2, .int a1), (3, .int x13)] rfl ?_
          exact ih2 F12 R10 x13 oF12 fF12 oR10 fR10 (jv_w zx13.2 (by decide)) (Nat.lt_of_lt_of_le (show (2147483647 - x13.toInt).toNat < (2147483647 - y1.toInt).toNat from by have q0 := (jv_k (x := 1) 1 (by decide)).1; have q1 := (jv_k (x := 1) 1 (by decide)).2; have q2 := (jv_k (x := 60) 60 (by decide)).1; have q3 := (jv_k (x := 60) 60 (by decide)).2; have q4 := p9.1; have q5 := p9.2; have q6 := p6.1; have q7 := p6.2; have q8 := zx11.2.1; have q9 := zx11.2.2; have q10 := zx13.2.1; have q11 := zx13.2.2; have q12 := p5.1; have q13 := p5.2; have q14 := (gc_nle zc4); have q15 := (gc_nle zc7); have q16 := (g_eq0 zx11.1); have q17 := (g_eq0 zx13.1); omega) (Nat.le_of_lt_succ hm2))
  refine g_lsub [1, 2, 3, 0] [(0, .ref (ad 13)), (1, .int a0), (2, .int a1), (3, .int 0)] rfl ?_
  exact J2 _ F R 0 hI (g_fr_rf F) hA (g_fr_rf R) (jv_w (jv_k (x := 0) 0 (by decide)) (by decide)) (Nat.lt_succ_self _)
theorem e_X5_fault_0 : g_dc cX5_fault 0 (.sipush (-1000)) 3 3 := ⟨by decide +kernel, rfl⟩
theorem e_X5_fault_3 : g_dc cX5_fault 3 (.iload_n 0) 1 4 := ⟨by decide +kernel, rfl⟩
theorem e_X5_fault_4 : g_dc cX5_fault 4 (.imul) 1 5 := ⟨by decide +kernel, rfl⟩
theorem e_X5_fault_5 : g_dc cX5_fault 5 (.iload_n 1) 1 6 := ⟨by decide +kernel, rfl⟩
theorem e_X5_fault_6 : g_dc cX5_fault 6 (.isub) 1 7 := ⟨by decide +kernel, rfl⟩
theorem e_X5_fault_7 : g_dc cX5_fault 7 (.ireturn) 1 8 := ⟨by decide +kernel, rfl⟩
set_option maxHeartbeats 4000000 in
set_option maxRecDepth 100000 in
theorem w_X5_fault (l : Launch) (X : gX) (ad : Nat → Nat) (F : Nat → Int32) (R : Nat → Nat → Int32) (hI : g_ok LK_wX F) (hA : g_okR LA_wX R) (a0 : Int32) (a1 : Int32) : g_Ci l X yX5_fault cX5_fault 2 (some .int) 1 0 0 [.int a0, .int a1] (wX X ad F R) (fun r w => w = wX X ad F R ∧ jv (-2147483648) 2147483647 r) := by
  refine g_mi (by decide +kernel) (Nat.le_of_ble_eq_true rfl) (fun E cx hret => ?_)
  refine g_sipush cx (-1000) (by decide) e_X5_fault_0 ?_
  refine g_iload_n cx 0 rfl e_X5_fault_3 ?_
  refine g_imul cx e_X5_fault_4 ?_
  refine g_topi (fun x1 ex1 => ?_)
  refine g_iload_n cx 1 rfl e_X5_fault_5 ?_
  refine g_isub cx e_X5_fault_6 ?_
  refine g_topi (fun x2 ex2 => ?_)
  exact hret e_X5_fault_7 (Nat.le_of_ble_eq_true rfl) (Nat.le_of_ble_eq_true rfl) rfl ⟨rfl, (jv_t x2)⟩
theorem e_X5_read_0 : g_dc cX5_read 0 (.aload_n 1) 1 1 := ⟨by decide +kernel, rfl⟩
theorem e_X5_read_1 : g_dc cX5_read 1 (.ifnonnull 9) 3 4 := ⟨by decide +kernel, rfl⟩
theorem e_X5_read_10 : g_dc cX5_read 10 (.aload_n 0) 1 11 := ⟨by decide +kernel, rfl⟩
theorem e_X5_read_11 : g_dc cX5_read 11 (.iconst 0) 1 12 := ⟨by decide +kernel, rfl⟩
theorem e_X5_read_12 : g_dc cX5_read 12 (.putfield 15) 3 15 := ⟨by decide +kernel, rfl⟩
theorem e_X5_read_15 : g_dc cX5_read 15 (.iconst 0) 1 16 := ⟨by decide +kernel, rfl⟩
theorem e_X5_read_16 : g_dc cX5_read 16 (.istore_n 3) 1 17 := ⟨by decide +kernel, rfl⟩
theorem e_X5_read_17 : g_dc cX5_read 17 (.iconst 0) 1 18 := ⟨by decide +kernel, rfl⟩
theorem e_X5_read_18 : g_dc cX5_read 18 (.istore 4) 2 20 := ⟨by decide +kernel, rfl⟩
theorem e_X5_read_20 : g_dc cX5_read 20 (.iload 4) 2 22 := ⟨by decide +kernel, rfl⟩
theorem e_X5_read_22 : g_dc cX5_read 22 (.bipush 20) 2 24 := ⟨by decide +kernel, rfl⟩
theorem e_X5_read_24 : g_dc cX5_read 24 (.if_icmp .gt 190) 3 27 := ⟨by decide +kernel, rfl⟩
theorem e_X5_read_27 : g_dc cX5_read 27 (.iload_n 3) 1 28 := ⟨by decide +kernel, rfl⟩
theorem e_X5_read_28 : g_dc cX5_read 28 (.istore 5) 2 30 := ⟨by decide +kernel, rfl⟩
theorem e_X5_read_30 : g_dc cX5_read 30 (.aload_n 1) 1 31 := ⟨by decide +kernel, rfl⟩
theorem e_X5_read_31 : g_dc cX5_read 31 (.iload_n 3) 1 32 := ⟨by decide +kernel, rfl⟩
theorem e_X5_read_32 : g_dc cX5_read 32 (.iload_n 2) 1 33 := ⟨by decide +kernel, rfl⟩
theorem e_X5_read_33 : g_dc cX5_read 33 (.invokestatic 36) 3 36 := ⟨by decide +kernel, rfl⟩
theorem e_X5_read_36 : g_dc cX5_read 36 (.ifCond .ge 9) 3 39 := ⟨by decide +kernel, rfl⟩
theorem e_X5_read_39 : g_dc cX5_read 39 (.iconst 1) 1 40 := ⟨by decide +kernel, rfl⟩
theorem e_X5_read_40 : g_dc cX5_read 40 (.iload_n 3) 1 41 := ⟨by decide +kernel, rfl⟩
theorem e_X5_read_41 : g_dc cX5_read 41 (.invokestatic 32) 3 44 := ⟨by decide +kernel, rfl⟩
theorem e_X5_read_44 : g_dc cX5_read 44 (.ireturn) 1 45 := ⟨by decide +kernel, rfl⟩
theorem e_X5_read_45 : g_dc cX5_read 45 (.iload 4) 2 47 := ⟨by decide +kernel, rfl⟩
theorem e_X5_read_47 : g_dc cX5_read 47 (.bipush 20) 2 49 := ⟨by decide +kernel, rfl⟩
theorem e_X5_read_49 : g_dc cX5_read 49 (.if_icmp .ne 9) 3 52 := ⟨by decide +kernel, rfl⟩
theorem e_X5_read_52 : g_dc cX5_read 52 (.iconst 4) 1 53 := ⟨by decide +kernel, rfl⟩
theorem e_X5_read_53 : g_dc cX5_read 53 (.iload_n 3) 1 54 := ⟨by decide +kernel, rfl⟩
theorem e_X5_read_54 : g_dc cX5_read 54 (.invokestatic 32) 3 57 := ⟨by decide +kernel, rfl⟩
theorem e_X5_read_57 : g_dc cX5_read 57 (.ireturn) 1 58 := ⟨by decide +kernel, rfl⟩
theorem e_X5_read_58 : g_dc cX5_read 58 (.aload_n 1) 1 59 := ⟨by decide +kernel, rfl⟩
theorem e_X5_read_59 : g_dc cX5_read 59 (.iload_n 3) 1 60 := ⟨by decide +kernel, rfl⟩
theorem e_X5_read_60 : g_dc cX5_read 60 (.iload_n 2) 1 61 := ⟨by decide +kernel, rfl⟩
theorem e_X5_read_61 : g_dc cX5_read 61 (.invokestatic 36) 3 64 := ⟨by decide +kernel, rfl⟩
theorem e_X5_read_64 : g_dc cX5_read 64 (.istore 6) 2 66 := ⟨by decide +kernel, rfl⟩
theorem e_X5_read_66 : g_dc cX5_read 66 (.iinc 3 1) 3 69 := ⟨by decide +kernel, rfl⟩
theorem e_X5_read_69 : g_dc cX5_read 69 (.aload_n 1) 1 70 := ⟨by decide +kernel, rfl⟩
theorem e_X5_read_70 : g_dc cX5_read 70 (.iload_n 3) 1 71 := ⟨by decide +kernel, rfl⟩
theorem e_X5_read_71 : g_dc cX5_read 71 (.iload_n 2) 1 72 := ⟨by decide +kernel, rfl⟩
theorem e_X5_read_72 : g_dc cX5_read 72 (.invokestatic 36) 3 75 := ⟨by decide +kernel, rfl⟩
theorem e_X5_read_75 : g_dc cX5_read 75 (.ifCond .lt 20) 3 78 := ⟨by decide +kernel, rfl⟩
theorem e_X5_read_78 : g_dc cX5_read 78 (.iload 6) 2 80 := ⟨by decide +kernel, rfl⟩
theorem e_X5_read_80 : g_dc cX5_read 80 (.bipush 10) 2 82 := ⟨by decide +kernel, rfl⟩
theorem e_X5_read_82 : g_dc cX5_read 82 (.imul) 1 83 := ⟨by decide +kernel, rfl⟩
theorem e_X5_read_83 : g_dc cX5_read 83 (.aload_n 1) 1 84 := ⟨by decide +kernel, rfl⟩
theorem e_X5_read_84 : g_dc cX5_read 84 (.iload_n 3) 1 85 := ⟨by decide +kernel, rfl⟩
theorem e_X5_read_85 : g_dc cX5_read 85 (.iload_n 2) 1 86 := ⟨by decide +kernel, rfl⟩
theorem e_X5_read_86 : g_dc cX5_read 86 (.invokestatic 36) 3 89 := ⟨by decide +kernel, rfl⟩
theorem e_X5_read_89 : g_dc cX5_read 89 (.iadd) 1 90 := ⟨by decide +kernel, rfl⟩
theorem e_X5_read_90 : g_dc cX5_read 90 (.istore 6) 2 92 := ⟨by decide +kernel, rfl⟩
theorem e_X5_read_92 : g_dc cX5_read 92 (.iinc 3 1) 3 95 := ⟨by decide +kernel, rfl⟩
theorem e_X5_read_95 : g_dc cX5_read 95 (.iload 6) 2 97 := ⟨by decide +kernel, rfl⟩
theorem e_X5_read_97 : g_dc cX5_read 97 (.bipush 40) 2 99 := ⟨by decide +kernel, rfl⟩
theorem e_X5_read_99 : g_dc cX5_read 99 (.if_icmp .le 10) 3 102 := ⟨by decide +kernel, rfl⟩
theorem e_X5_read_102 : g_dc cX5_read 102 (.iconst 3) 1 103 := ⟨by decide +kernel, rfl⟩
theorem e_X5_read_103 : g_dc cX5_read 103 (.iload 5) 2 105 := ⟨by decide +kernel, rfl⟩
theorem e_X5_read_105 : g_dc cX5_read 105 (.invokestatic 32) 3 108 := ⟨by decide +kernel, rfl⟩
theorem e_X5_read_108 : g_dc cX5_read 108 (.ireturn) 1 109 := ⟨by decide +kernel, rfl⟩
theorem e_X5_read_109 : g_dc cX5_read 109 (.iconst 1) 1 110 := ⟨by decide +kernel, rfl⟩
theorem e_X5_read_110 : g_dc cX5_read 110 (.istore 7) 2 112 := ⟨by decide +kernel, rfl⟩
theorem e_X5_read_112 : g_dc cX5_read 112 (.iload_n 3) 1 113 := ⟨by decide +kernel, rfl⟩
theorem e_X5_read_113 : g_dc cX5_read 113 (.iload_n 2) 1 114 := ⟨by decide +kernel, rfl⟩
theorem e_X5_read_114 : g_dc cX5_read 114 (.if_icmp .ge 40) 3 117 := ⟨by decide +kernel, rfl⟩
theorem e_X5_read_117 : g_dc cX5_read 117 (.aload_n 1) 1 118 := ⟨by decide +kernel, rfl⟩
theorem e_X5_read_118 : g_dc cX5_read 118 (.iload_n 3) 1 119 := ⟨by decide +kernel, rfl⟩
theorem e_X5_read_119 : g_dc cX5_read 119 (.invokevirtual 40) 3 122 := ⟨by decide +kernel, rfl⟩
theorem e_X5_read_122 : g_dc cX5_read 122 (.bipush 42) 2 124 := ⟨by decide +kernel, rfl⟩
theorem e_X5_read_124 : g_dc cX5_read 124 (.if_icmp .ne 30) 3 127 := ⟨by decide +kernel, rfl⟩
theorem e_X5_read_127 : g_dc cX5_read 127 (.aload_n 1) 1 128 := ⟨by decide +kernel, rfl⟩
theorem e_X5_read_128 : g_dc cX5_read 128 (.iload_n 3) 1 129 := ⟨by decide +kernel, rfl⟩
theorem e_X5_read_129 : g_dc cX5_read 129 (.iconst 1) 1 130 := ⟨by decide +kernel, rfl⟩
theorem e_X5_read_130 : g_dc cX5_read 130 (.iadd) 1 131 := ⟨by decide +kernel, rfl⟩
theorem e_X5_read_131 : g_dc cX5_read 131 (.iload_n 2) 1 132 := ⟨by decide +kernel, rfl⟩
theorem e_X5_read_132 : g_dc cX5_read 132 (.invokestatic 36) 3 135 := ⟨by decide +kernel, rfl⟩
theorem e_X5_read_135 : g_dc cX5_read 135 (.istore 7) 2 137 := ⟨by decide +kernel, rfl⟩
theorem e_X5_read_137 : g_dc cX5_read 137 (.iload 7) 2 139 := ⟨by decide +kernel, rfl⟩
theorem e_X5_read_139 : g_dc cX5_read 139 (.iconst 2) 1 140 := ⟨by decide +kernel, rfl⟩
theorem e_X5_read_140 : g_dc cX5_read 140 (.if_icmp .ge 11) 3 143 := ⟨by decide +kernel, rfl⟩
theorem e_X5_read_143 : g_dc cX5_read 143 (.iconst 1) 1 144 := ⟨by decide +kernel, rfl⟩
theorem e_X5_read_144 : g_dc cX5_read 144 (.iload_n 3) 1 145 := ⟨by decide +kernel, rfl⟩
theorem e_X5_read_145 : g_dc cX5_read 145 (.iconst 1) 1 146 := ⟨by decide +kernel, rfl⟩
theorem e_X5_read_146 : g_dc cX5_read 146 (.iadd) 1 147 := ⟨by decide +kernel, rfl⟩
theorem e_X5_read_147 : g_dc cX5_read 147 (.invokestatic 32) 3 150 := ⟨by decide +kernel, rfl⟩
theorem e_X5_read_150 : g_dc cX5_read 150 (.ireturn) 1 151 := ⟨by decide +kernel, rfl⟩
theorem e_X5_read_151 : g_dc cX5_read 151 (.iinc 3 2) 3 154 := ⟨by decide +kernel, rfl⟩
theorem e_X5_read_154 : g_dc cX5_read 154 (.aload_n 0) 1 155 := ⟨by decide +kernel, rfl⟩
theorem e_X5_read_155 : g_dc cX5_read 155 (.getfield 15) 3 158 := ⟨by decide +kernel, rfl⟩
theorem e_X5_read_158 : g_dc cX5_read 158 (.iload 7) 2 160 := ⟨by decide +kernel, rfl⟩
theorem e_X5_read_160 : g_dc cX5_read 160 (.iadd) 1 161 := ⟨by decide +kernel, rfl⟩
theorem e_X5_read_161 : g_dc cX5_read 161 (.bipush 60) 2 163 := ⟨by decide +kernel, rfl⟩
theorem e_X5_read_163 : g_dc cX5_read 163 (.if_icmp .le 11) 3 166 := ⟨by decide +kernel, rfl⟩
theorem e_X5_read_166 : g_dc cX5_read 166 (.bipush 6) 2 168 := ⟨by decide +kernel, rfl⟩
theorem e_X5_read_168 : g_dc cX5_read 168 (.iload 5) 2 170 := ⟨by decide +kernel, rfl⟩
theorem e_X5_read_170 : g_dc cX5_read 170 (.invokestatic 32) 3 173 := ⟨by decide +kernel, rfl⟩
theorem e_X5_read_173 : g_dc cX5_read 173 (.ireturn) 1 174 := ⟨by decide +kernel, rfl⟩
theorem e_X5_read_174 : g_dc cX5_read 174 (.aload_n 0) 1 175 := ⟨by decide +kernel, rfl⟩
theorem e_X5_read_175 : g_dc cX5_read 175 (.iload 6) 2 177 := ⟨by decide +kernel, rfl⟩
theorem e_X5_read_177 : g_dc cX5_read 177 (.iload 7) 2 179 := ⟨by decide +kernel, rfl⟩
theorem e_X5_read_179 : g_dc cX5_read 179 (.invokevirtual 25) 3 182 := ⟨by decide +kernel, rfl⟩
theorem e_X5_read_182 : g_dc cX5_read 182 (.iload_n 3) 1 183 := ⟨by decide +kernel, rfl⟩
theorem e_X5_read_183 : g_dc cX5_read 183 (.iload_n 2) 1 184 := ⟨by decide +kernel, rfl⟩
theorem e_X5_read_184 : g_dc cX5_read 184 (.if_icmp .lt 5) 3 187 := ⟨by decide +kernel, rfl⟩
theorem e_X5_read_187 : g_dc cX5_read 187 (.iconst 0) 1 188 := ⟨by decide +kernel, rfl⟩
theorem e_X5_read_188 : g_dc cX5_read 188 (.ireturn) 1 189 := ⟨by decide +kernel, rfl⟩
theorem e_X5_read_189 : g_dc cX5_read 189 (.aload_n 1) 1 190 := ⟨by decide +kernel, rfl⟩
theorem e_X5_read_190 : g_dc cX5_read 190 (.iload_n 3) 1 191 := ⟨by decide +kernel, rfl⟩
theorem e_X5_read_191 : g_dc cX5_read 191 (.invokevirtual 40) 3 194 := ⟨by decide +kernel, rfl⟩
theorem e_X5_read_194 : g_dc cX5_read 194 (.bipush 44) 2 196 := ⟨by decide +kernel, rfl⟩
theorem e_X5_read_196 : g_dc cX5_read 196 (.if_icmp .eq 9) 3 199 := ⟨by decide +kernel, rfl⟩
theorem e_X5_read_199 : g_dc cX5_read 199 (.iconst 1) 1 200 := ⟨by decide +kernel, rfl⟩
theorem e_X5_read_200 : g_dc cX5_read 200 (.iload_n 3) 1 201 := ⟨by decide +kernel, rfl⟩
theorem e_X5_read_201 : g_dc cX5_read 201 (.invokestatic 32) 3 204 := ⟨by decide +kernel, rfl⟩
theorem e_X5_read_204 : g_dc cX5_read 204 (.ireturn) 1 205 := ⟨by decide +kernel, rfl⟩
theorem e_X5_read_205 : g_dc cX5_read 205 (.iinc 3 1) 3 208 := ⟨by decide +kernel, rfl⟩
theorem e_X5_read_208 : g_dc cX5_read 208 (.iinc 4 1) 3 211 := ⟨by decide +kernel, rfl⟩
theorem e_X5_read_211 : g_dc cX5_read 211 (.goto (-191)) 3 214 := ⟨by decide +kernel, rfl⟩
def md_X5_read_13_r9 : List Nat := [209]
def mr_X5_read_13_r9 : List Nat := [14]
set_option maxHeartbeats 4000000 in
set_option maxRecDepth 100000 in
theorem w_X5_read_13_r9 (l : Launch) (X : gX) (ad : Nat → Nat) (F : Nat → Int32) (R : Nat → Nat → Int32) (hI : g_ok LK_wX F) (hA : g_okR LA_wX R) (a1 : Int32) : g_Ci l X yX5_read cX5_read 8 (some .int) 4 0 0 [.ref (ad 13), .ref (ad 9), .int a1] (wX X ad F R) (fun r w => ∃ (F' : Nat → Int32) (R' : Nat → Nat → Int32), w = wX X ad F' R' ∧ g_ok LK_wX F' ∧ g_okR LA_wX R' ∧ g_fr md_X5_read_13_r9 F F' ∧ g_fr mr_X5_read_13_r9 R R' ∧ jv (-2147483648) 2147483647 r) := by
  refine g_mi (by decide +kernel) (Nat.le_of_ble_eq_true rfl) (fun E cx hret => ?_)
  refine g_aload_n cx 1 rfl e_X5_read_0 ?_
  refine g_ifnonnull cx 10 e_X5_read_1 (by decide) ?_
  refine g_aload_n cx 0 rfl e_X5_read_10 ?_
  refine g_iconst cx 0 (by decide) e_X5_read_11 ?_
  refine g_put cx cl_X5 fl_X5_15 13 (wX X ad (upd F 209 0) R) e_X5_read_12 rfl rfl rfl rfl (Nat.le_of_ble_eq_true rfl) rfl ?_
  obtain ⟨F1, hF1⟩ : ∃ z, z = upd F 209 0 := ⟨_, rfl⟩
  rw [← hF1]
  have oF1 : g_ok LK_wX F1 := by rw [hF1]; exact g_ok_p hI (jv_k (x := 0) 0 (by decide)) rfl
  have fF1 : g_fr md_X5_read_13_r9 F F1 := by rw [hF1]; exact g_fr_u (g_fr_rf F) rfl
  refine g_iconst cx 0 (by decide) e_X5_read_15 ?_
  refine g_istore_n cx [(3, .int 0), (0, .ref (ad 13)), (1, .ref (ad 9)), (2, .int a1)] e_X5_read_16 (by decide) rfl ?_
  refine g_iconst cx 0 (by decide) e_X5_read_17 ?_
  refine g_istore cx [(4, .int 0), (3, .int 0), (0, .ref (ad 13)), (1, .ref (ad 9)), (2, .int a1)] e_X5_read_18 (by decide) rfl ?_
  have J20 : ∀ (N : Nat) (F4 : Nat → Int32) (R5 : Nat → Nat → Int32) (y2 : Int32) (y3 : Int32), (g_ok LK_wX F4) → (g_fr md_X5_read_13_r9 F F4) → (g_okR LA_wX R5) → (g_fr mr_X5_read_13_r9 R R5) → (jv (-2147483648) 2147483647 y2) → (jv 0 20 y3) → (2147483647 - y3.toInt).toNat < N → G X E 8 0 0 (wX X ad F4 R5) [(0, .ref (ad 13)), (1, .ref (ad 9)), (2, .int a1), (3, .int y2), (4, .int y3)] 20 [] := by
    intro N
    induction N with
    | zero => intro F4 R5 y2 y3 oF4 fF4 oR5 fR5 py2 py3 hm; exact absurd hm (Nat.not_lt_zero _)
    | succ N ih20 =>
      intro F4 R5 y2 y3 oF4 fF4 oR5 fR5 py2 py3 hm20
      refine g_iload cx 4 rfl e_X5_read_20 ?_
      refine g_bipush cx 20 (by decide) e_X5_read_22 ?_
      refine g_icmp_gt cx 214 e_X5_read_24 (by decide) (fun zc6 => ?_) (fun zc6 => ?_)
      · exact (gf_lt (gc_lt zc6) (jv_k (x := 20) 20 (by decide)) py3 (by decide)).elim
      · refine g_iload_n cx 3 rfl e_X5_read_27 ?_
        refine g_istore cx [(5, .int y2), (0, .ref (ad 13)), (1, .ref (ad 9)), (2, .int a1), (3, .int y2), (4, .int y3)] e_X5_read_28 (by decide) rfl ?_
        refine g_aload_n cx 2 rfl e_X5_read_30 ?_
        refine g_iload_n cx 4 rfl e_X5_read_31 ?_
        refine g_iload_n cx 3 rfl e_X5_read_32 ?_
        refine g_cSiW cx [.ref (ad 9), .int y2, .int a1] [] (w_X5_digit_r9 l X ad F4 R5 oF4 oR5 y2 a1) ml_X5_36 yS_X5_digit rfl e_X5_read_33 (by unfold g_rr; decide) (by decide) rfl (Nat.le_of_ble_eq_true rfl) (fun r7 w8 h9 => ?_)
        obtain ⟨rfl, pr7⟩ := h9
        refine g_if_ge cx 45 e_X5_read_36 (by decide) (fun zc10 => ?_) (fun zc10 => ?_)
        · have p11 := gn_ge 0 14 (gc_le zc10) pr7 (jv_k (x := 0) 0 (by decide)) (by decide)
          refine g_iload cx 5 rfl e_X5_read_45 ?_
          refine g_bipush cx 20 (by decide) e_X5_read_47 ?_
          refine g_icmp_ne cx 58 e_X5_read_49 (by decide) (fun zc12 => ?_) (fun zc12 => ?_)
          · have p13 := gn_neH 0 19 (gc_ne zc12) py3 (jv_k (x := 20) 20 (by decide)) (by decide)
            refine g_aload_n cx 2 rfl e_X5_read_58 ?_
            refine g_iload_n cx 4 rfl e_X5_read_59 ?_
            refine g_iload_n cx 3 rfl e_X5_read_60 ?_
            refine g_cSiW cx [.ref (ad 9), .int y2, .int a1] [] (w_X5_digit_r9 l X ad F4 R5 oF4 oR5 y2 a1) ml_X5_36 yS_X5_digit rfl e_X5_read_61 (by unfold g_rr; decide) (by decide) rfl (Nat.le_of_ble_eq_true rfl) (fun r14 w15 h16 => ?_)
            obtain ⟨rfl, pr14⟩ := h16
            refine g_istore cx [(6, .int r14), (5, .int y2), (0, .ref (ad 13)), (1, .ref (ad 9)), (2, .int a1), (3, .int y2), (4, .int y3)] e_X5_read_64 (by decide) rfl ?_
            obtain ⟨x17, ex17⟩ : ∃ z : Int32, z = y2 + Int32.ofInt 1 := ⟨_, rfl⟩
            refine g_iinc cx x17 [(3, .int x17), (6, .int r14), (5, .int y2), (0, .ref (ad 13)), (1, .ref (ad 9)), (2, .int a1), (4, .int y3)] 5 e_X5_read_66 rfl ex17.symm (by decide) rfl ?_
            refine g_aload_n cx 4 rfl e_X5_read_69 ?_
            refine g_iload_n cx 0 rfl e_X5_read_70 ?_
            refine g_iload_n cx 5 rfl e_X5_read_71 ?_
            refine g_cSiW cx [.ref (ad 9), .int x17, .int a1] [] (w_X5_digit_r9 l X ad F4 R5 oF4 oR5 x17 a1) ml_X5_36 yS_X5_digit rfl e_X5_read_72 (by unfold g_rr; decide) (by decide) rfl (Nat.le_of_ble_eq_true rfl) (fun r18 w19 h20 => ?_)
            obtain ⟨rfl, pr18⟩ := h20
            have J95 : ∀ (y21 : Int32) (y22 : Int32), (jv (-2147483648) 2147483647 y21) → (jv (-2147483648) 2147483647 y22) → G X E 8 0 0 (wX X ad F4 R5) [(0, .ref (ad 13)), (1, .ref (ad 9)), (2, .int a1), (3, .int y21), (4, .int y3), (5, .int y2), (6, .int y22)] 95 [] := by
              intro y21 y22 py21 py22
              refine g_iload cx 6 rfl e_X5_read_95 ?_
              refine g_bipush cx 40 (by decide) e_X5_read_97 ?_
              refine g_icmp_le cx 109 e_X5_read_99 (by decide) (fun zc23 => ?_) (fun zc23 => ?_)
              · have p24 := gn_le (-2147483648) 40 (gc_le zc23) py22 (jv_k (x := 40) 40 (by decide)) (by decide)
                refine g_iconst cx 1 (by decide) e_X5_read_109 ?_
                refine g_istore cx [(7, .int 1), (0, .ref (ad 13)), (1, .ref (ad 9)), (2, .int a1), (3, .int y21), (4, .int y3), (5, .int y2), (6, .int y22)] e_X5_read_110 (by decide) rfl ?_
                refine g_iload_n cx 4 rfl e_X5_read_112 ?_
                refine g_iload_n cx 3 rfl e_X5_read_113 ?_
                have J154 : ∀ (y25 : Int32) (y26 : Int32), (jv (-2147483648) 2147483647 y25) → (jv 1 14 y26) → G X E 8 0 0 (wX X ad F4 R5) [(0, .ref (ad 13)), (1, .ref (ad 9)), (2, .int a1), (3, .int y25), (4, .int y3), (5, .int y2), (6, .int y22), (7, .int y26)] 154 [] := by
                  intro y25 y26 py25 py26
                  refine g_aload_n cx 0 rfl e_X5_read_154 ?_
                  refine g_get cx cl_X5 fl_X5_15 13 (.int (F4 209)) e_X5_read_155 rfl rfl ?_
                  refine g_iload cx 7 rfl e_X5_read_158 ?_
                  refine g_iadd cx e_X5_read_160 ?_
                  refine g_topi (fun x27 ex27 => ?_)
                  have zx27 := jv_add 1 74 ex27 (g_ok_g oF4 3 rfl) py26 (by decide)
                  refine g_bipush cx 60 (by decide) e_X5_read_161 ?_
                  refine g_icmp_le cx 174 e_X5_read_163 (by decide) (fun zc28 => ?_) (fun zc28 => ?_)
                  · have p29 := gn_le 1 60 (gc_le zc28) zx27.2 (jv_k (x := 60) 60 (by decide)) (by decide)
                    refine g_aload_n cx 0 rfl e_X5_read_174 ?_
                    refine g_iload cx 6 rfl e_X5_read_175 ?_
                    refine g_iload cx 7 rfl e_X5_read_177 ?_
                    refine g_cVvW cx [.int y22, .int y26] [] (w_X5_add_13 l X ad F4 R5 oF4 oR5 y22 y26) ml_X5_25 yV_X5_add e_X5_read_179 (by unfold g_rr; decide) (by decide) 13 rfl rfl rfl (Nat.le_of_ble_eq_true rfl) (fun w31 h32 => ?_)
                    obtain ⟨F33, R34, rfl, oF33, oR34, cF33, cR34⟩ := h32
                    have fF33 : g_fr md_X5_read_13_r9 F F33 := g_fr_c fF4 cF33 rfl
                    have fR34 : g_fr mr_X5_read_13_r9 R R34 := g_fr_c fR5 cR34 rfl
                    refine g_iload_n cx 3 rfl e_X5_read_182 ?_
                    refine g_iload_n cx 2 rfl e_X5_read_183 ?_
                    refine g_icmp_lt cx 189 e_X5_read_184 (by decide) (fun zc35 => ?_) (fun zc35 => ?_)
                    · have p36 := gn_lt (-2147483648) 2147483646 (gc_lt zc35) py25 (jv_t a1) (by decide)
                      have p37 := gn_gt (-2147483647) 2147483647 (gc_lt zc35) (jv_t a1) py25 (by decide)
                      refine g_aload_n cx 1 rfl e_X5_read_189 ?_
                      refine g_iload_n cx 3 rfl e_X5_read_190 ?_
                      refine g_cViW cx [.int y25] [] (w_X9_at l X ad F33 R34 oF33 oR34 y25) ml_X5_40 yV_X9_at e_X5_read_191 (by unfold g_rr; decide) (by decide) 9 rfl rfl rfl (Nat.le_of_ble_eq_true rfl) (fun r38 w39 h40 => ?_)
                      obtain ⟨rfl, pr38⟩ := h40
                      refine g_bipush cx 44 (by decide) e_X5_read_194 ?_
                      refine g_icmp_eq cx 205 e_X5_read_196 (by decide) (fun zc41 => ?_) (fun zc41 => ?_)
                      · have p42 := gn_eq 44 44 (gc_eq zc41) pr38 (jv_k (x := 44) 44 (by decide)) (by decide)
                        obtain ⟨x43, ex43⟩ : ∃ z : Int32, z = y25 + Int32.ofInt 1 := ⟨_, rfl⟩
                        refine g_iinc cx x43 [(3, .int x43), (0, .ref (ad 13)), (1, .ref (ad 9)), (2, .int a1), (4, .int y3), (5, .int y2), (6, .int y22), (7, .int y26)] 3 e_X5_read_205 rfl ex43.symm (by decide) rfl ?_
                        have zx43 := jv_add (-2147483647) 2147483647 (show x43 = y25 + 1 from ex43) p36 (jv_k (x := 1) 1 (by decide)) (by decide)
                        obtain ⟨x44, ex44⟩ : ∃ z : Int32, z = y3 + Int32.ofInt 1 := ⟨_, rfl⟩
                        refine g_iinc cx x44 [(4, .int x44), (3, .int x43), (0, .ref (ad 13)), (1, .ref (ad 9)), (2, .int a1), (5, .int y2), (6, .int y22), (7, .int y26)] 4 e_X5_read_208 rfl ex44.symm (by decide) rfl ?_
                        have zx44 := jv_add 1 20 (show x44 = y3 + 1 from ex44) p13 (jv_k (x := 1) 1 (by decide)) (by decide)
                        refine g_goto cx 20 e_X5_read_211 (by decide) ?_
                        refine g_lsub [2, 3, 4, 1, 0] [(0, .ref (ad 13)), (1, .ref (ad 9)), (2, .int a1), (3, .int x43), (4, .int x44)] rfl ?_
                        exact ih20 F33 R34 x43 x44 oF33 fF33 oR34 fR34 (jv_w zx43.2 (by decide)) (jv_w zx44.2 (by decide)) (Nat.lt_of_lt_of_le (show (2147483647 - x44.toInt).toNat < (2147483647 - y3.toInt).toNat from by have q0 := (jv_k (x := 1) 1 (by decide)).1; have q1 := (jv_k (x := 1) 1 (by decide)).2; have q2 := (jv_k (x := 20) 20 (by decide)).1; have q3 := (jv_k (x := 20) 20 (by decide)).2; have q4 := p37.1; have q5 := p37.2; have q6 := zx43.2.1; have q7 := zx43.2.2; have q8 := zx44.2.1; have q9 := zx44.2.2; have q10 := p36.1; have q11 := p36.2; have q12 := p13.1; have q13 := p13.2; have q14 := (gc_nlt zc6); have q15 := (gc_ne zc12); have q16 := (gc_lt zc35); have q17 := (g_eq0 zx43.1); have q18 := (g_eq0 zx44.1); omega) (Nat.le_of_lt_succ hm20))
                      · refine g_iconst cx 1 (by decide) e_X5_read_199 ?_
                        refine g_iload_n cx 3 rfl e_X5_read_200 ?_
                        refine g_cSiW cx [.int 1, .int y25] [] (w_X5_fault l X ad F33 R34 oF33 oR34 1 y25) ml_X5_32 yS_X5_fault rfl e_X5_read_201 (by unfold g_rr; decide) (by decide) rfl (Nat.le_of_ble_eq_true rfl) (fun r45 w46 h47 => ?_)
                        obtain ⟨rfl, pr45⟩ := h47
                        exact hret e_X5_read_204 (Nat.le_of_ble_eq_true rfl) (Nat.le_of_ble_eq_true rfl) rfl ⟨F33, R34, rfl, oF33, oR34, fF33, fR34, pr45⟩
                    · refine g_iconst cx 0 (by decide) e_X5_read_187 ?_
                      exact hret e_X5_read_188 (Nat.le_of_ble_eq_true rfl) (Nat.le_of_ble_eq_true rfl) rfl ⟨F33, R34, rfl, oF33, oR34, fF33, fR34, (jv_w (jv_k (x := 0) 0 (by decide)) (by decide))⟩
                  · have p48 := gn_gt 61 74 (gc_nle zc28) zx27.2 (jv_k (x := 60) 60 (by decide)) (by decide)
                    refine g_bipush cx 6 (by decide) e_X5_read_166 ?_
                    refine g_iload cx 5 rfl e_X5_read_168 ?_
                    refine g_cSiW cx [.int 6, .int y2] [] (w_X5_fault l X ad F4 R5 oF4 oR5 6 y2) ml_X5_32 yS_X5_fault rfl e_X5_read_170 (by unfold g_rr; decide) (by decide) rfl (Nat.le_of_ble_eq_true rfl) (fun r49 w50 h51 => ?_)
                    obtain ⟨rfl, pr49⟩ := h51
                    exact hret e_X5_read_173 (Nat.le_of_ble_eq_true rfl) (Nat.le_of_ble_eq_true rfl) rfl ⟨F4, R5, rfl, oF4, oR5, fF4, fR5, pr49⟩
                refine g_icmp_ge cx 154 e_X5_read_114 (by decide) (fun zc52 => ?_) (fun zc52 => ?_)
                · refine g_lsub [1, 2, 3, 4, 5, 6, 7, 0] [(0, .ref (ad 13)), (1, .ref (ad 9)), (2, .int a1), (3, .int y21), (4, .int y3), (5, .int y2), (6, .int y22), (7, .int 1)] rfl ?_
                  exact J154 y21 1 py21 (jv_w (jv_k (x := 1) 1 (by decide)) (by decide))
                · have p53 := gn_lt (-2147483648) 2147483646 (gc_nle zc52) py21 (jv_t a1) (by decide)
                  have p54 := gn_gt (-2147483647) 2147483647 (gc_nle zc52) (jv_t a1) py21 (by decide)
                  refine g_aload_n cx 2 rfl e_X5_read_117 ?_
                  refine g_iload_n cx 4 rfl e_X5_read_118 ?_
                  refine g_cViW cx [.int y21] [] (w_X9_at l X ad F4 R5 oF4 oR5 y21) ml_X5_40 yV_X9_at e_X5_read_119 (by unfold g_rr; decide) (by decide) 9 rfl rfl rfl (Nat.le_of_ble_eq_true rfl) (fun r55 w56 h57 => ?_)
                  obtain ⟨rfl, pr55⟩ := h57
                  refine g_bipush cx 42 (by decide) e_X5_read_122 ?_
                  refine g_icmp_ne cx 154 e_X5_read_124 (by decide) (fun zc58 => ?_) (fun zc58 => ?_)
                  · refine g_lsub [1, 2, 3, 4, 5, 6, 7, 0] [(0, .ref (ad 13)), (1, .ref (ad 9)), (2, .int a1), (3, .int y21), (4, .int y3), (5, .int y2), (6, .int y22), (7, .int 1)] rfl ?_
                    exact J154 y21 1 (jv_w p53 (by decide)) (jv_w (jv_k (x := 1) 1 (by decide)) (by decide))
                  · have p59 := gn_eq 42 42 (gc_eq zc58) pr55 (jv_k (x := 42) 42 (by decide)) (by decide)
                    refine g_aload_n cx 2 rfl e_X5_read_127 ?_
                    refine g_iload_n cx 4 rfl e_X5_read_128 ?_
                    refine g_iconst cx 1 (by decide) e_X5_read_129 ?_
                    refine g_iadd cx e_X5_read_130 ?_
                    refine g_topi (fun x60 ex60 => ?_)
                    have zx60 := jv_add (-2147483647) 2147483647 ex60 p53 (jv_k (x := 1) 1 (by decide)) (by decide)
                    refine g_iload_n cx 3 rfl e_X5_read_131 ?_
                    refine g_cSiW cx [.ref (ad 9), .int x60, .int a1] [] (w_X5_digit_r9 l X ad F4 R5 oF4 oR5 x60 a1) ml_X5_36 yS_X5_digit rfl e_X5_read_132 (by unfold g_rr; decide) (by decide) rfl (Nat.le_of_ble_eq_true rfl) (fun r61 w62 h63 => ?_)
                    obtain ⟨rfl, pr61⟩ := h63
                    refine g_istore cx [(7, .int r61), (0, .ref (ad 13)), (1, .ref (ad 9)), (2, .int a1), (3, .int y21), (4, .int y3), (5, .int y2), (6, .int y22)] e_X5_read_135 (by decide) rfl ?_
                    refine g_iload cx 0 rfl e_X5_read_137 ?_
                    refine g_iconst cx 2 (by decide) e_X5_read_139 ?_
                    refine g_icmp_ge cx 151 e_X5_read_140 (by decide) (fun zc64 => ?_) (fun zc64 => ?_)
                    · have p65 := gn_ge 2 14 (gc_le zc64) pr61 (jv_k (x := 2) 2 (by decide)) (by decide)
                      obtain ⟨x66, ex66⟩ : ∃ z : Int32, z = y21 + Int32.ofInt 2 := ⟨_, rfl⟩
                      refine g_iinc cx x66 [(3, .int x66), (7, .int r61), (0, .ref (ad 13)), (1, .ref (ad 9)), (2, .int a1), (4, .int y3), (5, .int y2), (6, .int y22)] 4 e_X5_read_151 rfl ex66.symm (by decide) rfl ?_
                      refine g_lsub [2, 3, 4, 0, 5, 6, 7, 1] [(0, .ref (ad 13)), (1, .ref (ad 9)), (2, .int a1), (3, .int x66), (4, .int y3), (5, .int y2), (6, .int y22), (7, .int r61)] rfl ?_
                      exact J154 x66 r61 (jv_t x66) (jv_w p65 (by decide))
                    · have p67 := gn_lt (-1) 1 (gc_nle zc64) pr61 (jv_k (x := 2) 2 (by decide)) (by decide)
                      refine g_iconst cx 1 (by decide) e_X5_read_143 ?_
                      refine g_iload_n cx 4 rfl e_X5_read_144 ?_
                      refine g_iconst cx 1 (by decide) e_X5_read_145 ?_
                      refine g_iadd cx e_X5_read_146 ?_
                      refine g_topi (fun x68 ex68 => ?_)
                      have zx68 := jv_add (-2147483647) 2147483647 ex68 p53 (jv_k (x := 1) 1 (by decide)) (by decide)
                      refine g_cSiW cx [.int 1, .int x68] [] (w_X5_fault l X ad F4 R5 oF4 oR5 1 x68) ml_X5_32 yS_X5_fault rfl e_X5_read_147 (by unfold g_rr; decide) (by decide) rfl (Nat.le_of_ble_eq_true rfl) (fun r69 w70 h71 => ?_)
                      obtain ⟨rfl, pr69⟩ := h71
                      exact hret e_X5_read_150 (Nat.le_of_ble_eq_true rfl) (Nat.le_of_ble_eq_true rfl) rfl ⟨F4, R5, rfl, oF4, oR5, fF4, fR5, pr69⟩
              · have p72 := gn_gt 41 2147483647 (gc_nle zc23) py22 (jv_k (x := 40) 40 (by decide)) (by decide)
                refine g_iconst cx 3 (by decide) e_X5_read_102 ?_
                refine g_iload cx 5 rfl e_X5_read_103 ?_
                refine g_cSiW cx [.int 3, .int y2] [] (w_X5_fault l X ad F4 R5 oF4 oR5 3 y2) ml_X5_32 yS_X5_fault rfl e_X5_read_105 (by unfold g_rr; decide) (by decide) rfl (Nat.le_of_ble_eq_true rfl) (fun r73 w74 h75 => ?_)
                obtain ⟨rfl, pr73⟩ := h75
                exact hret e_X5_read_108 (Nat.le_of_ble_eq_true rfl) (Nat.le_of_ble_eq_true rfl) rfl ⟨F4, R5, rfl, oF4, oR5, fF4, fR5, pr73⟩
            refine g_if_lt cx 95 e_X5_read_75 (by decide) (fun zc76 => ?_) (fun zc76 => ?_)
            · have p77 := gn_lt (-1) (-1) (gc_lt zc76) pr18 (jv_k (x := 0) 0 (by decide)) (by decide)
              refine g_lsub [3, 4, 5, 0, 6, 2, 1] [(0, .ref (ad 13)), (1, .ref (ad 9)), (2, .int a1), (3, .int x17), (4, .int y3), (5, .int y2), (6, .int r14)] rfl ?_
              exact J95 x17 r14 (jv_t x17) (jv_w pr14 (by decide))
            · have p78 := gn_ge 0 14 (gc_nlt zc76) pr18 (jv_k (x := 0) 0 (by decide)) (by decide)
              refine g_iload cx 1 rfl e_X5_read_78 ?_
              refine g_bipush cx 10 (by decide) e_X5_read_80 ?_
              refine g_imul cx e_X5_read_82 ?_
              refine g_topi (fun x79 ex79 => ?_)
              refine g_aload_n cx 4 rfl e_X5_read_83 ?_
              refine g_iload_n cx 0 rfl e_X5_read_84 ?_
              refine g_iload_n cx 5 rfl e_X5_read_85 ?_
              refine g_cSiW cx [.ref (ad 9), .int x17, .int a1] [.int x79] (w_X5_digit_r9 l X ad F4 R5 oF4 oR5 x17 a1) ml_X5_36 yS_X5_digit rfl e_X5_read_86 (by unfold g_rr; decide) (by decide) rfl (Nat.le_of_ble_eq_true rfl) (fun r80 w81 h82 => ?_)
              obtain ⟨rfl, pr80⟩ := h82
              refine g_iadd cx e_X5_read_89 ?_
              refine g_topi (fun x83 ex83 => ?_)
              refine g_istore cx [(6, .int x83), (3, .int x17), (5, .int y2), (0, .ref (ad 13)), (1, .ref (ad 9)), (2, .int a1), (4, .int y3)] e_X5_read_90 (by decide) rfl ?_
              obtain ⟨x84, ex84⟩ : ∃ z : Int32, z = x17 + Int32.ofInt 1 := ⟨_, rfl⟩
              refine g_iinc cx x84 [(3, .int x84), (6, .int x83), (5, .int y2), (0, .ref (ad 13)), (1, .ref (ad 9)), (2, .int a1), (4, .int y3)] 1 e_X5_read_92 rfl ex84.symm (by decide) rfl ?_
              refine g_lsub [3, 4, 5, 0, 6, 2, 1] [(0, .ref (ad 13)), (1, .ref (ad 9)), (2, .int a1), (3, .int x84), (4, .int y3), (5, .int y2), (6, .int x83)] rfl ?_
              exact J95 x84 x83 (jv_t x84) (jv_t x83)
          · have p85 := gn_eq 20 20 (gc_eq zc12) py3 (jv_k (x := 20) 20 (by decide)) (by decide)
            refine g_iconst cx 4 (by decide) e_X5_read_52 ?_
            refine g_iload_n cx 4 rfl e_X5_read_53 ?_
            refine g_cSiW cx [.int 4, .int y2] [] (w_X5_fault l X ad F4 R5 oF4 oR5 4 y2) ml_X5_32 yS_X5_fault rfl e_X5_read_54 (by unfold g_rr; decide) (by decide) rfl (Nat.le_of_ble_eq_true rfl) (fun r86 w87 h88 => ?_)
            obtain ⟨rfl, pr86⟩ := h88
            exact hret e_X5_read_57 (Nat.le_of_ble_eq_true rfl) (Nat.le_of_ble_eq_true rfl) rfl ⟨F4, R5, rfl, oF4, oR5, fF4, fR5, pr86⟩
        · have p89 := gn_lt (-1) (-1) (gc_nle zc10) pr7 (jv_k (x := 0) 0 (by decide)) (by decide)
          refine g_iconst cx 1 (by decide) e_X5_read_39 ?_
          refine g_iload_n cx 4 rfl e_X5_read_40 ?_
          refine g_cSiW cx [.int 1, .int y2] [] (w_X5_fault l X ad F4 R5 oF4 oR5 1 y2) ml_X5_32 yS_X5_fault rfl e_X5_read_41 (by unfold g_rr; decide) (by decide) rfl (Nat.le_of_ble_eq_true rfl) (fun r90 w91 h92 => ?_)
          obtain ⟨rfl, pr90⟩ := h92
          exact hret e_X5_read_44 (Nat.le_of_ble_eq_true rfl) (Nat.le_of_ble_eq_true rfl) rfl ⟨F4, R5, rfl, oF4, oR5, fF4, fR5, pr90⟩
  refine g_lsub [2, 3, 4, 1, 0] [(0, .ref (ad 13)), (1, .ref (ad 9)), (2, .int a1), (3, .int 0), (4, .int 0)] rfl ?_
  exact J20 _ F1 R 0 0 oF1 fF1 hA (g_fr_rf R) (jv_w (jv_k (x := 0) 0 (by decide)) (by decide)) (jv_w (jv_k (x := 0) 0 (by decide)) (by decide)) (Nat.lt_succ_self _)
theorem e_X5_copy_0 : g_dc cX5_copy 0 (.aload_n 1) 1 1 := ⟨by decide +kernel, rfl⟩
theorem e_X5_copy_1 : g_dc cX5_copy 1 (.ifnonnull 4) 3 4 := ⟨by decide +kernel, rfl⟩
theorem e_X5_copy_5 : g_dc cX5_copy 5 (.aload_n 0) 1 6 := ⟨by decide +kernel, rfl⟩
theorem e_X5_copy_6 : g_dc cX5_copy 6 (.aload_n 1) 1 7 := ⟨by decide +kernel, rfl⟩
theorem e_X5_copy_7 : g_dc cX5_copy 7 (.getfield 15) 3 10 := ⟨by decide +kernel, rfl⟩
theorem e_X5_copy_10 : g_dc cX5_copy 10 (.putfield 15) 3 13 := ⟨by decide +kernel, rfl⟩
theorem e_X5_copy_13 : g_dc cX5_copy 13 (.aload_n 1) 1 14 := ⟨by decide +kernel, rfl⟩
theorem e_X5_copy_14 : g_dc cX5_copy 14 (.getfield 9) 3 17 := ⟨by decide +kernel, rfl⟩
theorem e_X5_copy_17 : g_dc cX5_copy 17 (.iconst 0) 1 18 := ⟨by decide +kernel, rfl⟩
theorem e_X5_copy_18 : g_dc cX5_copy 18 (.aload_n 0) 1 19 := ⟨by decide +kernel, rfl⟩
theorem e_X5_copy_19 : g_dc cX5_copy 19 (.getfield 9) 3 22 := ⟨by decide +kernel, rfl⟩
theorem e_X5_copy_22 : g_dc cX5_copy 22 (.iconst 0) 1 23 := ⟨by decide +kernel, rfl⟩
theorem e_X5_copy_23 : g_dc cX5_copy 23 (.bipush 60) 2 25 := ⟨by decide +kernel, rfl⟩
theorem e_X5_copy_25 : g_dc cX5_copy 25 (.invokestatic 19) 3 28 := ⟨by decide +kernel, rfl⟩
theorem e_X5_copy_28 : g_dc cX5_copy 28 (.return_) 1 29 := ⟨by decide +kernel, rfl⟩
def md_X5_copy_11_r13 : List Nat := [177]
def mr_X5_copy_11_r13 : List Nat := [12]
set_option maxHeartbeats 4000000 in
set_option maxRecDepth 100000 in
theorem w_X5_copy_11_r13 (l : Launch) (X : gX) (ad : Nat → Nat) (F : Nat → Int32) (R : Nat → Nat → Int32) (hI : g_ok LK_wX F) (hA : g_okR LA_wX R) : g_Cv l X yX5_copy cX5_copy 2 1 0 0 [.ref (ad 11), .ref (ad 13)] (wX X ad F R) (fun w => ∃ (F' : Nat → Int32) (R' : Nat → Nat → Int32), w = wX X ad F' R' ∧ g_ok LK_wX F' ∧ g_okR LA_wX R' ∧ g_fr md_X5_copy_11_r13 F F' ∧ g_fr mr_X5_copy_11_r13 R R') := by
  refine g_mv (by decide +kernel) (Nat.le_of_ble_eq_true rfl) (fun E cx hret => ?_)
  refine g_aload_n cx 1 rfl e_X5_copy_0 ?_
  refine g_ifnonnull cx 5 e_X5_copy_1 (by decide) ?_
  refine g_aload_n cx 0 rfl e_X5_copy_5 ?_
  refine g_aload_n cx 1 rfl e_X5_copy_6 ?_
  refine g_get cx cl_X5 fl_X5_15 13 (.int (F 209)) e_X5_copy_7 rfl rfl ?_
  refine g_put cx cl_X5 fl_X5_15 11 (wX X ad (upd F 177 (F 209)) R) e_X5_copy_10 rfl rfl rfl rfl (Nat.le_of_ble_eq_true rfl) rfl ?_
  obtain ⟨F1, hF1⟩ : ∃ z, z = upd F 177 (F 209) := ⟨_, rfl⟩
  rw [← hF1]
  have oF1 : g_ok LK_wX F1 := by rw [hF1]; exact g_ok_p hI (g_ok_g hI 3 rfl) rfl
  have fF1 : g_fr md_X5_copy_11_r13 F F1 := by rw [hF1]; exact g_fr_u (g_fr_rf F) rfl
  refine g_aload_n cx 1 rfl e_X5_copy_13 ?_
  refine g_get cx cl_X5 fl_X5_9 13 (.ref (ad 14)) e_X5_copy_14 rfl rfl ?_
  refine g_iconst cx 0 (by decide) e_X5_copy_17 ?_
  refine g_aload_n cx 0 rfl e_X5_copy_18 ?_
  refine g_get cx cl_X5 fl_X5_9 11 (.ref (ad 12)) e_X5_copy_19 rfl rfl ?_
  refine g_iconst cx 0 (by decide) e_X5_copy_22 ?_
  refine g_bipush cx 60 (by decide) e_X5_copy_23 ?_
  refine g_copy cx 14 12 (wX X ad F1 (g_u R 12 (va_cpy (R 14) (R 12) 0 0 60))) ml_X5_19 e_X5_copy_25 rfl rfl (by decide) (by decide) (by decide) (by decide) rfl ?_
  obtain ⟨R2, hR2⟩ : ∃ z, z = g_u R 12 (va_cpy (R 14) (R 12) 0 0 60) := ⟨_, rfl⟩
  rw [← hR2]
  have oR2 : g_okR LA_wX R2 := by rw [hR2]; exact g_okR_u hA rfl
  have fR2 : g_fr mr_X5_copy_11_r13 R R2 := by rw [hR2]; exact g_fr_r (g_fr_rf R) rfl
  exact hret e_X5_copy_28 (Nat.le_of_ble_eq_true rfl) (Nat.le_of_ble_eq_true rfl) ⟨F1, R2, rfl, oF1, oR2, fF1, fR2⟩
theorem e_X10_pull_0 : g_dc cX10_pull 0 (.iload_n 1) 1 1 := ⟨by decide +kernel, rfl⟩
theorem e_X10_pull_1 : g_dc cX10_pull 1 (.iconst 1) 1 2 := ⟨by decide +kernel, rfl⟩
theorem e_X10_pull_2 : g_dc cX10_pull 2 (.bipush 120) 2 4 := ⟨by decide +kernel, rfl⟩
theorem e_X10_pull_4 : g_dc cX10_pull 4 (.invokestatic 82) 3 7 := ⟨by decide +kernel, rfl⟩
theorem e_X10_pull_7 : g_dc cX10_pull 7 (.ifCond .eq 14) 3 10 := ⟨by decide +kernel, rfl⟩
theorem e_X10_pull_10 : g_dc cX10_pull 10 (.iload_n 1) 1 11 := ⟨by decide +kernel, rfl⟩
theorem e_X10_pull_11 : g_dc cX10_pull 11 (.aload_n 0) 1 12 := ⟨by decide +kernel, rfl⟩
theorem e_X10_pull_12 : g_dc cX10_pull 12 (.getfield 22) 3 15 := ⟨by decide +kernel, rfl⟩
theorem e_X10_pull_15 : g_dc cX10_pull 15 (.getfield 110) 3 18 := ⟨by decide +kernel, rfl⟩
theorem e_X10_pull_18 : g_dc cX10_pull 18 (.if_icmp .le 5) 3 21 := ⟨by decide +kernel, rfl⟩
theorem e_X10_pull_21 : g_dc cX10_pull 21 (.iconst (-1)) 1 22 := ⟨by decide +kernel, rfl⟩
theorem e_X10_pull_22 : g_dc cX10_pull 22 (.ireturn) 1 23 := ⟨by decide +kernel, rfl⟩
theorem e_X10_pull_23 : g_dc cX10_pull 23 (.aload_n 0) 1 24 := ⟨by decide +kernel, rfl⟩
theorem e_X10_pull_24 : g_dc cX10_pull 24 (.getfield 33) 3 27 := ⟨by decide +kernel, rfl⟩
theorem e_X10_pull_27 : g_dc cX10_pull 27 (.aload_n 0) 1 28 := ⟨by decide +kernel, rfl⟩
theorem e_X10_pull_28 : g_dc cX10_pull 28 (.getfield 22) 3 31 := ⟨by decide +kernel, rfl⟩
theorem e_X10_pull_31 : g_dc cX10_pull 31 (.iload_n 1) 1 32 := ⟨by decide +kernel, rfl⟩
theorem e_X10_pull_32 : g_dc cX10_pull 32 (.invokevirtual 116) 3 35 := ⟨by decide +kernel, rfl⟩
theorem e_X10_pull_35 : g_dc cX10_pull 35 (.istore_n 2) 1 36 := ⟨by decide +kernel, rfl⟩
theorem e_X10_pull_36 : g_dc cX10_pull 36 (.aload_n 0) 1 37 := ⟨by decide +kernel, rfl⟩
theorem e_X10_pull_37 : g_dc cX10_pull 37 (.getfield 22) 3 40 := ⟨by decide +kernel, rfl⟩
theorem e_X10_pull_40 : g_dc cX10_pull 40 (.iconst 0) 1 41 := ⟨by decide +kernel, rfl⟩
theorem e_X10_pull_41 : g_dc cX10_pull 41 (.putfield 110) 3 44 := ⟨by decide +kernel, rfl⟩
theorem e_X10_pull_44 : g_dc cX10_pull 44 (.iload_n 2) 1 45 := ⟨by decide +kernel, rfl⟩
theorem e_X10_pull_45 : g_dc cX10_pull 45 (.ifCond .eq 5) 3 48 := ⟨by decide +kernel, rfl⟩
theorem e_X10_pull_48 : g_dc cX10_pull 48 (.iload_n 2) 1 49 := ⟨by decide +kernel, rfl⟩
theorem e_X10_pull_49 : g_dc cX10_pull 49 (.ireturn) 1 50 := ⟨by decide +kernel, rfl⟩
theorem e_X10_pull_50 : g_dc cX10_pull 50 (.aload_n 0) 1 51 := ⟨by decide +kernel, rfl⟩
theorem e_X10_pull_51 : g_dc cX10_pull 51 (.getfield 29) 3 54 := ⟨by decide +kernel, rfl⟩
theorem e_X10_pull_54 : g_dc cX10_pull 54 (.aload_n 0) 1 55 := ⟨by decide +kernel, rfl⟩
theorem e_X10_pull_55 : g_dc cX10_pull 55 (.getfield 33) 3 58 := ⟨by decide +kernel, rfl⟩
theorem e_X10_pull_58 : g_dc cX10_pull 58 (.invokevirtual 120) 3 61 := ⟨by decide +kernel, rfl⟩
theorem e_X10_pull_61 : g_dc cX10_pull 61 (.aload_n 0) 1 62 := ⟨by decide +kernel, rfl⟩
theorem e_X10_pull_62 : g_dc cX10_pull 62 (.getfield 29) 3 65 := ⟨by decide +kernel, rfl⟩
theorem e_X10_pull_65 : g_dc cX10_pull 65 (.getfield 124) 3 68 := ⟨by decide +kernel, rfl⟩
theorem e_X10_pull_68 : g_dc cX10_pull 68 (.ireturn) 1 69 := ⟨by decide +kernel, rfl⟩
def md_X10_pull : List Nat := [145, 177, 209]
def mr_X10_pull : List Nat := [12, 14]
set_option maxHeartbeats 4000000 in
set_option maxRecDepth 100000 in
theorem w_X10_pull (l : Launch) (X : gX) (ad : Nat → Nat) (F : Nat → Int32) (R : Nat → Nat → Int32) (hI : g_ok LK_wX F) (hA : g_okR LA_wX R) (a0 : Int32) : g_Ci l X yX10_pull cX10_pull 3 (some .int) 5 0 0 [.ref (ad 0), .int a0] (wX X ad F R) (fun r w => ∃ (F' : Nat → Int32) (R' : Nat → Nat → Int32), w = wX X ad F' R' ∧ g_ok LK_wX F' ∧ g_okR LA_wX R' ∧ g_fr md_X10_pull F F' ∧ g_fr mr_X10_pull R R' ∧ jv (-2147483648) 2147483647 r) := by
  refine g_mi (by decide +kernel) (Nat.le_of_ble_eq_true rfl) (fun E cx hret => ?_)
  refine g_iload_n cx 1 rfl e_X10_pull_0 ?_
  refine g_iconst cx 1 (by decide) e_X10_pull_1 ?_
  refine g_bipush cx 120 (by decide) e_X10_pull_2 ?_
  refine g_cSiW cx [.int a0, .int 1, .int 120] [] (c_X10_within l X (wX X ad F R) a0 1 120) ml_X10_82 yS_X10_within rfl e_X10_pull_4 (by unfold g_rr; decide) (by decide) rfl (Nat.le_of_ble_eq_true rfl) (fun r1 w2 h3 => ?_)
  obtain ⟨rfl, hr1⟩ := h3
  have pr1 : jv 0 1 r1 := by rw [hr1]; exact gi_01 _ _ _
  have J21 : G X E 3 0 0 (wX X ad F R) [] 21 [] := by
    refine g_iconst cx (-1) (by decide) e_X10_pull_21 ?_
    exact hret e_X10_pull_22 (Nat.le_of_ble_eq_true rfl) (Nat.le_of_ble_eq_true rfl) rfl ⟨F, R, rfl, hI, hA, (g_fr_rf F), (g_fr_rf R), (jv_w (jv_k (x := (-1)) (-1) (by decide)) (by decide))⟩
  refine g_if_eq cx 21 e_X10_pull_7 (by decide) (fun zc4 => ?_) (fun zc4 => ?_)
  · have p5 := gn_eq 0 0 (gc_eq zc4) pr1 (jv_k (x := 0) 0 (by decide)) (by decide)
    refine g_lsub [] [] rfl ?_
    exact J21  
  · have p6 := gn_neL 1 1 (gc_ne zc4) pr1 (jv_k (x := 0) 0 (by decide)) (by decide)
    have p7 := jv_i 1 120 (jv_t a0) (gi_in (A := 1) (B := 120) hr1 zc4 (by decide) (by decide)) (by decide)
    refine g_iload_n cx 1 rfl e_X10_pull_10 ?_
    refine g_aload_n cx 0 rfl e_X10_pull_11 ?_
    refine g_get cx cl_X10 fl_X10_22 0 (.ref (ad 9)) e_X10_pull_12 rfl rfl ?_
    refine g_getN cx cl_X9 fn_X10_110 9 (.int (F 145)) e_X10_pull_15 rfl rfl ?_
    refine g_icmp_le cx 23 e_X10_pull_18 (by decide) (fun zc8 => ?_) (fun zc8 => ?_)
    · have p9 := gn_ge 1 220 (gc_le zc8) (g_ok_g hI 1 rfl) p7 (by decide)
      refine g_aload_n cx 0 rfl e_X10_pull_23 ?_
      refine g_get cx cl_X10 fl_X10_33 0 (.ref (ad 13)) e_X10_pull_24 rfl rfl ?_
      refine g_aload_n cx 0 rfl e_X10_pull_27 ?_
      refine g_get cx cl_X10 fl_X10_22 0 (.ref (ad 9)) e_X10_pull_28 rfl rfl ?_
      refine g_iload_n cx 1 rfl e_X10_pull_31 ?_
      refine g_cViW cx [.ref (ad 9), .int a0] [] (w_X5_read_13_r9 l X ad F R hI hA a0) ml_X10_116 yV_X5_read e_X10_pull_32 (by unfold g_rr; decide) (by decide) 13 rfl rfl rfl (Nat.le_of_ble_eq_true rfl) (fun r10 w11 h12 => ?_)
      obtain ⟨F13, R14, rfl, oF13, oR14, cF13, cR14, pr10⟩ := h12
      have fF13 : g_fr md_X10_pull F F13 := g_fr_c (g_fr_rf F) cF13 rfl
      have fR14 : g_fr mr_X10_pull R R14 := g_fr_c (g_fr_rf R) cR14 rfl
      refine g_istore_n cx [(2, .int r10), (0, .ref (ad 0)), (1, .int a0)] e_X10_pull_35 (by decide) rfl ?_
      refine g_aload_n cx 1 rfl e_X10_pull_36 ?_
      refine g_get cx cl_X10 fl_X10_22 0 (.ref (ad 9)) e_X10_pull_37 rfl rfl ?_
      refine g_iconst cx 0 (by decide) e_X10_pull_40 ?_
      refine g_putN cx cl_X9 fn_X10_110 9 (wX X ad (upd F13 145 0) R14) e_X10_pull_41 rfl rfl rfl rfl (Nat.le_of_ble_eq_true rfl) rfl ?_
      obtain ⟨F15, hF15⟩ : ∃ z, z = upd F13 145 0 := ⟨_, rfl⟩
      rw [← hF15]
      have oF15 : g_ok LK_wX F15 := by rw [hF15]; exact g_ok_p oF13 (jv_k (x := 0) 0 (by decide)) rfl
      have fF15 : g_fr md_X10_pull F F15 := by rw [hF15]; exact g_fr_u fF13 rfl
      refine g_iload_n cx 0 rfl e_X10_pull_44 ?_
      refine g_if_eq cx 50 e_X10_pull_45 (by decide) (fun zc16 => ?_) (fun zc16 => ?_)
      · have p17 := gn_eq 0 0 (gc_eq zc16) pr10 (jv_k (x := 0) 0 (by decide)) (by decide)
        refine g_aload_n cx 1 rfl e_X10_pull_50 ?_
        refine g_get cx cl_X10 fl_X10_29 0 (.ref (ad 11)) e_X10_pull_51 rfl rfl ?_
        refine g_aload_n cx 1 rfl e_X10_pull_54 ?_
        refine g_get cx cl_X10 fl_X10_33 0 (.ref (ad 13)) e_X10_pull_55 rfl rfl ?_
        refine g_cVvW cx [.ref (ad 13)] [] (w_X5_copy_11_r13 l X ad F15 R14 oF15 oR14) ml_X10_120 yV_X5_copy e_X10_pull_58 (by unfold g_rr; decide) (by decide) 11 rfl rfl rfl (Nat.le_of_ble_eq_true rfl) (fun w19 h20 => ?_)
        obtain ⟨F21, R22, rfl, oF21, oR22, cF21, cR22⟩ := h20
        have fF21 : g_fr md_X10_pull F F21 := g_fr_c fF15 cF21 rfl
        have fR22 : g_fr mr_X10_pull R R22 := g_fr_c fR14 cR22 rfl
        refine g_aload_n cx 1 rfl e_X10_pull_61 ?_
        refine g_get cx cl_X10 fl_X10_29 0 (.ref (ad 11)) e_X10_pull_62 rfl rfl ?_
        refine g_getN cx cl_X5 fn_X10_124 11 (.int (F21 177)) e_X10_pull_65 rfl rfl ?_
        exact hret e_X10_pull_68 (Nat.le_of_ble_eq_true rfl) (Nat.le_of_ble_eq_true rfl) rfl ⟨F21, R22, rfl, oF21, oR22, fF21, fR22, (jv_w (g_ok_g oF21 2 rfl) (by decide))⟩
      · refine g_iload_n cx 0 rfl e_X10_pull_48 ?_
        exact hret e_X10_pull_49 (Nat.le_of_ble_eq_true rfl) (Nat.le_of_ble_eq_true rfl) rfl ⟨F15, R14, rfl, oF15, oR14, fF15, fR14, pr10⟩
    · have p23 := gn_lt 0 119 (gc_nle zc8) (g_ok_g hI 1 rfl) p7 (by decide)
      refine g_lsub [] [] rfl ?_
      exact J21  
theorem e_X9_number_0 : g_dc cX9_number 0 (.iload_n 1) 1 1 := ⟨by decide +kernel, rfl⟩
theorem e_X9_number_1 : g_dc cX9_number 1 (.iconst 4) 1 2 := ⟨by decide +kernel, rfl⟩
theorem e_X9_number_2 : g_dc cX9_number 2 (.imul) 1 3 := ⟨by decide +kernel, rfl⟩
theorem e_X9_number_3 : g_dc cX9_number 3 (.istore_n 2) 1 4 := ⟨by decide +kernel, rfl⟩
theorem e_X9_number_4 : g_dc cX9_number 4 (.aload_n 0) 1 5 := ⟨by decide +kernel, rfl⟩
theorem e_X9_number_5 : g_dc cX9_number 5 (.iload_n 2) 1 6 := ⟨by decide +kernel, rfl⟩
theorem e_X9_number_6 : g_dc cX9_number 6 (.invokevirtual 23) 3 9 := ⟨by decide +kernel, rfl⟩
theorem e_X9_number_9 : g_dc cX9_number 9 (.bipush 24) 2 11 := ⟨by decide +kernel, rfl⟩
theorem e_X9_number_11 : g_dc cX9_number 11 (.ishl) 1 12 := ⟨by decide +kernel, rfl⟩
theorem e_X9_number_12 : g_dc cX9_number 12 (.aload_n 0) 1 13 := ⟨by decide +kernel, rfl⟩
theorem e_X9_number_13 : g_dc cX9_number 13 (.iload_n 2) 1 14 := ⟨by decide +kernel, rfl⟩
theorem e_X9_number_14 : g_dc cX9_number 14 (.iconst 1) 1 15 := ⟨by decide +kernel, rfl⟩
theorem e_X9_number_15 : g_dc cX9_number 15 (.iadd) 1 16 := ⟨by decide +kernel, rfl⟩
theorem e_X9_number_16 : g_dc cX9_number 16 (.invokevirtual 23) 3 19 := ⟨by decide +kernel, rfl⟩
theorem e_X9_number_19 : g_dc cX9_number 19 (.bipush 16) 2 21 := ⟨by decide +kernel, rfl⟩
theorem e_X9_number_21 : g_dc cX9_number 21 (.ishl) 1 22 := ⟨by decide +kernel, rfl⟩
theorem e_X9_number_22 : g_dc cX9_number 22 (.ior) 1 23 := ⟨by decide +kernel, rfl⟩
theorem e_X9_number_23 : g_dc cX9_number 23 (.aload_n 0) 1 24 := ⟨by decide +kernel, rfl⟩
theorem e_X9_number_24 : g_dc cX9_number 24 (.iload_n 2) 1 25 := ⟨by decide +kernel, rfl⟩
theorem e_X9_number_25 : g_dc cX9_number 25 (.iconst 2) 1 26 := ⟨by decide +kernel, rfl⟩
theorem e_X9_number_26 : g_dc cX9_number 26 (.iadd) 1 27 := ⟨by decide +kernel, rfl⟩
theorem e_X9_number_27 : g_dc cX9_number 27 (.invokevirtual 23) 3 30 := ⟨by decide +kernel, rfl⟩
theorem e_X9_number_30 : g_dc cX9_number 30 (.bipush 8) 2 32 := ⟨by decide +kernel, rfl⟩
theorem e_X9_number_32 : g_dc cX9_number 32 (.ishl) 1 33 := ⟨by decide +kernel, rfl⟩
theorem e_X9_number_33 : g_dc cX9_number 33 (.ior) 1 34 := ⟨by decide +kernel, rfl⟩
theorem e_X9_number_34 : g_dc cX9_number 34 (.aload_n 0) 1 35 := ⟨by decide +kernel, rfl⟩
theorem e_X9_number_35 : g_dc cX9_number 35 (.iload_n 2) 1 36 := ⟨by decide +kernel, rfl⟩
theorem e_X9_number_36 : g_dc cX9_number 36 (.iconst 3) 1 37 := ⟨by decide +kernel, rfl⟩
theorem e_X9_number_37 : g_dc cX9_number 37 (.iadd) 1 38 := ⟨by decide +kernel, rfl⟩
theorem e_X9_number_38 : g_dc cX9_number 38 (.invokevirtual 23) 3 41 := ⟨by decide +kernel, rfl⟩
theorem e_X9_number_41 : g_dc cX9_number 41 (.ior) 1 42 := ⟨by decide +kernel, rfl⟩
theorem e_X9_number_42 : g_dc cX9_number 42 (.ireturn) 1 43 := ⟨by decide +kernel, rfl⟩
set_option maxHeartbeats 4000000 in
set_option maxRecDepth 100000 in
theorem w_X9_number (l : Launch) (X : gX) (ad : Nat → Nat) (F : Nat → Int32) (R : Nat → Nat → Int32) (hI : g_ok LK_wX F) (hA : g_okR LA_wX R) (a0 : Int32) : g_Ci l X yX9_number cX9_number 3 (some .int) 3 0 0 [.ref (ad 9), .int a0] (wX X ad F R) (fun r w => w = wX X ad F R ∧ jv (-2147483648) 2147483647 r) := by
  refine g_mi (by decide +kernel) (Nat.le_of_ble_eq_true rfl) (fun E cx hret => ?_)
  refine g_iload_n cx 1 rfl e_X9_number_0 ?_
  refine g_iconst cx 4 (by decide) e_X9_number_1 ?_
  refine g_imul cx e_X9_number_2 ?_
  refine g_topi (fun x1 ex1 => ?_)
  refine g_istore_n cx [(2, .int x1), (0, .ref (ad 9)), (1, .int a0)] e_X9_number_3 (by decide) rfl ?_
  refine g_aload_n cx 1 rfl e_X9_number_4 ?_
  refine g_iload_n cx 0 rfl e_X9_number_5 ?_
  refine g_cViW cx [.int x1] [] (w_X9_at l X ad F R hI hA x1) ml_X9_23 yV_X9_at e_X9_number_6 (by unfold g_rr; decide) (by decide) 9 rfl rfl rfl (Nat.le_of_ble_eq_true rfl) (fun r2 w3 h4 => ?_)
  obtain ⟨rfl, pr2⟩ := h4
  refine g_bipush cx 24 (by decide) e_X9_number_9 ?_
  refine g_ishl cx e_X9_number_11 ?_
  refine g_topi (fun x5 ex5 => ?_)
  refine g_aload_n cx 1 rfl e_X9_number_12 ?_
  refine g_iload_n cx 0 rfl e_X9_number_13 ?_
  refine g_iconst cx 1 (by decide) e_X9_number_14 ?_
  refine g_iadd cx e_X9_number_15 ?_
  refine g_topi (fun x6 ex6 => ?_)
  refine g_cViW cx [.int x6] [.int x5] (w_X9_at l X ad F R hI hA x6) ml_X9_23 yV_X9_at e_X9_number_16 (by unfold g_rr; decide) (by decide) 9 rfl rfl rfl (Nat.le_of_ble_eq_true rfl) (fun r7 w8 h9 => ?_)
  obtain ⟨rfl, pr7⟩ := h9
  refine g_bipush cx 16 (by decide) e_X9_number_19 ?_
  refine g_ishl cx e_X9_number_21 ?_
  refine g_topi (fun x10 ex10 => ?_)
  refine g_ior cx e_X9_number_22 ?_
  refine g_topi (fun x11 ex11 => ?_)
  refine g_aload_n cx 1 rfl e_X9_number_23 ?_
  refine g_iload_n cx 0 rfl e_X9_number_24 ?_
  refine g_iconst cx 2 (by decide) e_X9_number_25 ?_
  refine g_iadd cx e_X9_number_26 ?_
  refine g_topi (fun x12 ex12 => ?_)
  refine g_cViW cx [.int x12] [.int x11] (w_X9_at l X ad F R hI hA x12) ml_X9_23 yV_X9_at e_X9_number_27 (by unfold g_rr; decide) (by decide) 9 rfl rfl rfl (Nat.le_of_ble_eq_true rfl) (fun r13 w14 h15 => ?_)
  obtain ⟨rfl, pr13⟩ := h15
  refine g_bipush cx 8 (by decide) e_X9_number_30 ?_
  refine g_ishl cx e_X9_number_32 ?_
  refine g_topi (fun x16 ex16 => ?_)
  refine g_ior cx e_X9_number_33 ?_
  refine g_topi (fun x17 ex17 => ?_)
  refine g_aload_n cx 1 rfl e_X9_number_34 ?_
  refine g_iload_n cx 0 rfl e_X9_number_35 ?_
  refine g_iconst cx 3 (by decide) e_X9_number_36 ?_
  refine g_iadd cx e_X9_number_37 ?_
  refine g_topi (fun x18 ex18 => ?_)
  refine g_cViW cx [.int x18] [.int x17] (w_X9_at l X ad F R hI hA x18) ml_X9_23 yV_X9_at e_X9_number_38 (by unfold g_rr; decide) (by decide) 9 rfl rfl rfl (Nat.le_of_ble_eq_true rfl) (fun r19 w20 h21 => ?_)
  obtain ⟨rfl, pr19⟩ := h21
  refine g_ior cx e_X9_number_41 ?_
  refine g_topi (fun x22 ex22 => ?_)
  exact hret e_X9_number_42 (Nat.le_of_ble_eq_true rfl) (Nat.le_of_ble_eq_true rfl) rfl ⟨rfl, (jv_t x22)⟩
theorem e_X10_check_0 : g_dc cX10_check 0 (.iload_n 1) 1 1 := ⟨by decide +kernel, rfl⟩
theorem e_X10_check_1 : g_dc cX10_check 1 (.iconst 0) 1 2 := ⟨by decide +kernel, rfl⟩
theorem e_X10_check_2 : g_dc cX10_check 2 (.bipush 10) 2 4 := ⟨by decide +kernel, rfl⟩
theorem e_X10_check_4 : g_dc cX10_check 4 (.invokestatic 82) 3 7 := ⟨by decide +kernel, rfl⟩
theorem e_X10_check_7 : g_dc cX10_check 7 (.ifCond .eq 16) 3 10 := ⟨by decide +kernel, rfl⟩
theorem e_X10_check_10 : g_dc cX10_check 10 (.iload_n 1) 1 11 := ⟨by decide +kernel, rfl⟩
theorem e_X10_check_11 : g_dc cX10_check 11 (.iconst 4) 1 12 := ⟨by decide +kernel, rfl⟩
theorem e_X10_check_12 : g_dc cX10_check 12 (.imul) 1 13 := ⟨by decide +kernel, rfl⟩
theorem e_X10_check_13 : g_dc cX10_check 13 (.aload_n 0) 1 14 := ⟨by decide +kernel, rfl⟩
theorem e_X10_check_14 : g_dc cX10_check 14 (.getfield 22) 3 17 := ⟨by decide +kernel, rfl⟩
theorem e_X10_check_17 : g_dc cX10_check 17 (.getfield 110) 3 20 := ⟨by decide +kernel, rfl⟩
theorem e_X10_check_20 : g_dc cX10_check 20 (.if_icmp .le 6) 3 23 := ⟨by decide +kernel, rfl⟩
theorem e_X10_check_23 : g_dc cX10_check 23 (.bipush (-2)) 2 25 := ⟨by decide +kernel, rfl⟩
theorem e_X10_check_25 : g_dc cX10_check 25 (.ireturn) 1 26 := ⟨by decide +kernel, rfl⟩
theorem e_X10_check_26 : g_dc cX10_check 26 (.aload_n 0) 1 27 := ⟨by decide +kernel, rfl⟩
theorem e_X10_check_27 : g_dc cX10_check 27 (.getfield 22) 3 30 := ⟨by decide +kernel, rfl⟩
theorem e_X10_check_30 : g_dc cX10_check 30 (.iconst 0) 1 31 := ⟨by decide +kernel, rfl⟩
theorem e_X10_check_31 : g_dc cX10_check 31 (.putfield 110) 3 34 := ⟨by decide +kernel, rfl⟩
theorem e_X10_check_34 : g_dc cX10_check 34 (.iconst 0) 1 35 := ⟨by decide +kernel, rfl⟩
theorem e_X10_check_35 : g_dc cX10_check 35 (.istore_n 2) 1 36 := ⟨by decide +kernel, rfl⟩
theorem e_X10_check_36 : g_dc cX10_check 36 (.iload_n 2) 1 37 := ⟨by decide +kernel, rfl⟩
theorem e_X10_check_37 : g_dc cX10_check 37 (.iload_n 1) 1 38 := ⟨by decide +kernel, rfl⟩
theorem e_X10_check_38 : g_dc cX10_check 38 (.if_icmp .ge 48) 3 41 := ⟨by decide +kernel, rfl⟩
theorem e_X10_check_41 : g_dc cX10_check 41 (.aload_n 0) 1 42 := ⟨by decide +kernel, rfl⟩
theorem e_X10_check_42 : g_dc cX10_check 42 (.getfield 10) 3 45 := ⟨by decide +kernel, rfl⟩
theorem e_X10_check_45 : g_dc cX10_check 45 (.iload_n 2) 1 46 := ⟨by decide +kernel, rfl⟩
theorem e_X10_check_46 : g_dc cX10_check 46 (.invokevirtual 102) 3 49 := ⟨by decide +kernel, rfl⟩
theorem e_X10_check_49 : g_dc cX10_check 49 (.ifCond .eq 15) 3 52 := ⟨by decide +kernel, rfl⟩
theorem e_X10_check_52 : g_dc cX10_check 52 (.aload_n 0) 1 53 := ⟨by decide +kernel, rfl⟩
theorem e_X10_check_53 : g_dc cX10_check 53 (.getfield 10) 3 56 := ⟨by decide +kernel, rfl⟩
theorem e_X10_check_56 : g_dc cX10_check 56 (.iload_n 2) 1 57 := ⟨by decide +kernel, rfl⟩
theorem e_X10_check_57 : g_dc cX10_check 57 (.iconst 1) 1 58 := ⟨by decide +kernel, rfl⟩
theorem e_X10_check_58 : g_dc cX10_check 58 (.invokevirtual 173) 3 61 := ⟨by decide +kernel, rfl⟩
theorem e_X10_check_61 : g_dc cX10_check 61 (.goto 4) 3 64 := ⟨by decide +kernel, rfl⟩
theorem e_X10_check_64 : g_dc cX10_check 64 (.iconst 0) 1 65 := ⟨by decide +kernel, rfl⟩
theorem e_X10_check_65 : g_dc cX10_check 65 (.istore_n 3) 1 66 := ⟨by decide +kernel, rfl⟩
theorem e_X10_check_66 : g_dc cX10_check 66 (.aload_n 0) 1 67 := ⟨by decide +kernel, rfl⟩
theorem e_X10_check_67 : g_dc cX10_check 67 (.getfield 22) 3 70 := ⟨by decide +kernel, rfl⟩
theorem e_X10_check_70 : g_dc cX10_check 70 (.iload_n 2) 1 71 := ⟨by decide +kernel, rfl⟩
theorem e_X10_check_71 : g_dc cX10_check 71 (.invokevirtual 266) 3 74 := ⟨by decide +kernel, rfl⟩
theorem e_X10_check_74 : g_dc cX10_check 74 (.iload_n 3) 1 75 := ⟨by decide +kernel, rfl⟩
theorem e_X10_check_75 : g_dc cX10_check 75 (.if_icmp .eq 5) 3 78 := ⟨by decide +kernel, rfl⟩
theorem e_X10_check_78 : g_dc cX10_check 78 (.iload_n 2) 1 79 := ⟨by decide +kernel, rfl⟩
theorem e_X10_check_79 : g_dc cX10_check 79 (.ireturn) 1 80 := ⟨by decide +kernel, rfl⟩
theorem e_X10_check_80 : g_dc cX10_check 80 (.iinc 2 1) 3 83 := ⟨by decide +kernel, rfl⟩
theorem e_X10_check_83 : g_dc cX10_check 83 (.goto (-47)) 3 86 := ⟨by decide +kernel, rfl⟩
theorem e_X10_check_86 : g_dc cX10_check 86 (.iconst (-1)) 1 87 := ⟨by decide +kernel, rfl⟩
theorem e_X10_check_87 : g_dc cX10_check 87 (.ireturn) 1 88 := ⟨by decide +kernel, rfl⟩
def md_X10_check : List Nat := [145]
def mr_X10_check : List Nat := []
set_option maxHeartbeats 4000000 in
set_option maxRecDepth 100000 in
theorem w_X10_check (l : Launch) (X : gX) (ad : Nat → Nat) (F : Nat → Int32) (R : Nat → Nat → Int32) (hI : g_ok LK_wX F) (hA : g_okR LA_wX R) (a0 : Int32) : g_Ci l X yX10_check cX10_check 4 (some .int) 4 0 0 [.ref (ad 0), .int a0] (wX X ad F R) (fun r w => ∃ (F' : Nat → Int32) (R' : Nat → Nat → Int32), w = wX X ad F' R' ∧ g_ok LK_wX F' ∧ g_okR LA_wX R' ∧ g_fr md_X10_check F F' ∧ g_fr mr_X10_check R R' ∧ jv (-2) 9 r) := by
  refine g_mi (by decide +kernel) (Nat.le_of_ble_eq_true rfl) (fun E cx hret => ?_)
  refine g_iload_n cx 1 rfl e_X10_check_0 ?_
  refine g_iconst cx 0 (by decide) e_X10_check_1 ?_
  refine g_bipush cx 10 (by decide) e_X10_check_2 ?_
  refine g_cSiW cx [.int a0, .int 0, .int 10] [] (c_X10_within l X (wX X ad F R) a0 0 10) ml_X10_82 yS_X10_within rfl e_X10_check_4 (by unfold g_rr; decide) (by decide) rfl (Nat.le_of_ble_eq_true rfl) (fun r1 w2 h3 => ?_)
  obtain ⟨rfl, hr1⟩ := h3
  have pr1 : jv 0 1 r1 := by rw [hr1]; exact gi_01 _ _ _
  have J23 : G X E 4 0 0 (wX X ad F R) [] 23 [] := by
    refine g_bipush cx (-2) (by decide) e_X10_check_23 ?_
    exact hret e_X10_check_25 (Nat.le_of_ble_eq_true rfl) (Nat.le_of_ble_eq_true rfl) rfl ⟨F, R, rfl, hI, hA, (g_fr_rf F), (g_fr_rf R), (jv_w (jv_k (x := (-2)) (-2) (by decide)) (by decide))⟩
  refine g_if_eq cx 23 e_X10_check_7 (by decide) (fun zc4 => ?_) (fun zc4 => ?_)
  · have p5 := gn_eq 0 0 (gc_eq zc4) pr1 (jv_k (x := 0) 0 (by decide)) (by decide)
    refine g_lsub [] [] rfl ?_
    exact J23  
  · have p6 := gn_neL 1 1 (gc_ne zc4) pr1 (jv_k (x := 0) 0 (by decide)) (by decide)
    have p7 := jv_i 0 10 (jv_t a0) (gi_in (A := 0) (B := 10) hr1 zc4 (by decide) (by decide)) (by decide)
    refine g_iload_n cx 1 rfl e_X10_check_10 ?_
    refine g_iconst cx 4 (by decide) e_X10_check_11 ?_
    refine g_imul cx e_X10_check_12 ?_
    refine g_topi (fun x8 ex8 => ?_)
    have zx8 := jv_mul 0 40 ex8 p7 (jv_k (x := 4) 4 (by decide)) (by decide)
    refine g_aload_n cx 0 rfl e_X10_check_13 ?_
    refine g_get cx cl_X10 fl_X10_22 0 (.ref (ad 9)) e_X10_check_14 rfl rfl ?_
    refine g_getN cx cl_X9 fn_X10_110 9 (.int (F 145)) e_X10_check_17 rfl rfl ?_
    refine g_icmp_le cx 26 e_X10_check_20 (by decide) (fun zc9 => ?_) (fun zc9 => ?_)
    · refine g_aload_n cx 0 rfl e_X10_check_26 ?_
      refine g_get cx cl_X10 fl_X10_22 0 (.ref (ad 9)) e_X10_check_27 rfl rfl ?_
      refine g_iconst cx 0 (by decide) e_X10_check_30 ?_
      refine g_putN cx cl_X9 fn_X10_110 9 (wX X ad (upd F 145 0) R) e_X10_check_31 rfl rfl rfl rfl (Nat.le_of_ble_eq_true rfl) rfl ?_
      obtain ⟨F10, hF10⟩ : ∃ z, z = upd F 145 0 := ⟨_, rfl⟩
      rw [← hF10]
      have oF10 : g_ok LK_wX F10 := by rw [hF10]; exact g_ok_p hI (jv_k (x := 0) 0 (by decide)) rfl
      have fF10 : g_fr md_X10_check F F10 := by rw [hF10]; exact g_fr_u (g_fr_rf F) rfl
      refine g_iconst cx 0 (by decide) e_X10_check_34 ?_
      refine g_istore_n cx [(2, .int 0), (0, .ref (ad 0)), (1, .int a0)] e_X10_check_35 (by decide) rfl ?_
      have J36 : ∀ (N : Nat) (y11 : Int32), (jv 0 10 y11) → (2147483647 - y11.toInt).toNat < N → G X E 4 0 0 (wX X ad F10 R) [(0, .ref (ad 0)), (1, .int a0), (2, .int y11)] 36 [] := by
        intro N
        induction N with
        | zero => intro y11 py11 hm; exact absurd hm (Nat.not_lt_zero _)
        | succ N ih36 =>
          intro y11 py11 hm36
          refine g_iload_n cx 2 rfl e_X10_check_36 ?_
          refine g_iload_n cx 1 rfl e_X10_check_37 ?_
          refine g_icmp_ge cx 86 e_X10_check_38 (by decide) (fun zc12 => ?_) (fun zc12 => ?_)
          · refine g_iconst cx (-1) (by decide) e_X10_check_86 ?_
            exact hret e_X10_check_87 (Nat.le_of_ble_eq_true rfl) (Nat.le_of_ble_eq_true rfl) rfl ⟨F10, R, rfl, oF10, hA, fF10, (g_fr_rf R), (jv_w (jv_k (x := (-1)) (-1) (by decide)) (by decide))⟩
          · have p13 := gn_lt 0 9 (gc_nle zc12) py11 p7 (by decide)
            have p14 := gn_gt 1 10 (gc_nle zc12) p7 py11 (by decide)
            refine g_aload_n cx 0 rfl e_X10_check_41 ?_
            refine g_get cx cl_X10 fl_X10_10 0 (.ref (ad 1)) e_X10_check_42 rfl rfl ?_
            refine g_iload_n cx 2 rfl e_X10_check_45 ?_
            refine g_cViW cx [.int y11] [] (w_X8_has_1 l X ad F10 R oF10 hA y11) ml_X10_102 yV_X8_has e_X10_check_46 (by unfold g_rr; decide) (by decide) 1 rfl rfl rfl (Nat.le_of_ble_eq_true rfl) (fun r15 w16 h17 => ?_)
            obtain ⟨rfl, pr15⟩ := h17
            have J65 : ∀ (y18 : Int32), (jv (-2147483648) 2147483647 y18) → G X E 4 0 0 (wX X ad F10 R) [(0, .ref (ad 0)), (1, .int a0), (2, .int y11)] 65 [.int y18] := by
              intro y18 py18
              refine g_istore_n cx [(3, .int y18), (0, .ref (ad 0)), (1, .int a0), (2, .int y11)] e_X10_check_65 (by decide) rfl ?_
              refine g_aload_n cx 1 rfl e_X10_check_66 ?_
              refine g_get cx cl_X10 fl_X10_22 0 (.ref (ad 9)) e_X10_check_67 rfl rfl ?_
              refine g_iload_n cx 3 rfl e_X10_check_70 ?_
              refine g_cViW cx [.int y11] [] (w_X9_number l X ad F10 R oF10 hA y11) ml_X10_266 yV_X9_number e_X10_check_71 (by unfold g_rr; decide) (by decide) 9 rfl rfl rfl (Nat.le_of_ble_eq_true rfl) (fun r19 w20 h21 => ?_)
              obtain ⟨rfl, pr19⟩ := h21
              refine g_iload_n cx 0 rfl e_X10_check_74 ?_
              refine g_icmp_eq cx 80 e_X10_check_75 (by decide) (fun zc22 => ?_) (fun zc22 => ?_)
              · obtain ⟨x23, ex23⟩ : ∃ z : Int32, z = y11 + Int32.ofInt 1 := ⟨_, rfl⟩
                refine g_iinc cx x23 [(2, .int x23), (3, .int y18), (0, .ref (ad 0)), (1, .int a0)] 3 e_X10_check_80 rfl ex23.symm (by decide) rfl ?_
                have zx23 := jv_add 1 10 (show x23 = y11 + 1 from ex23) p13 (jv_k (x := 1) 1 (by decide)) (by decide)
                refine g_goto cx 36 e_X10_check_83 (by decide) ?_
                refine g_lsub [2, 3, 0] [(0, .ref (ad 0)), (1, .int a0), (2, .int x23)] rfl ?_
                exact ih36 x23 (jv_w zx23.2 (by decide)) (Nat.lt_of_lt_of_le (show (2147483647 - x23.toInt).toNat < (2147483647 - y11.toInt).toNat from by have q0 := (jv_k (x := 1) 1 (by decide)).1; have q1 := (jv_k (x := 1) 1 (by decide)).2; have q2 := (g_ok_g hI 1 rfl).1; have q3 := (g_ok_g hI 1 rfl).2; have q4 := p14.1; have q5 := p14.2; have q6 := zx23.2.1; have q7 := zx23.2.2; have q8 := zx8.2.1; have q9 := zx8.2.2; have q10 := p13.1; have q11 := p13.2; have q12 := (g_em zx8.1 (by decide : Int32.toInt 4 = 4)); have q13 := (gc_le zc9); have q14 := (gc_nle zc12); have q15 := (g_eq0 zx23.1); omega) (Nat.le_of_lt_succ hm36))
              · refine g_iload_n cx 3 rfl e_X10_check_78 ?_
                exact hret e_X10_check_79 (Nat.le_of_ble_eq_true rfl) (Nat.le_of_ble_eq_true rfl) rfl ⟨F10, R, rfl, oF10, hA, fF10, (g_fr_rf R), (jv_w p13 (by decide))⟩
            refine g_if_eq cx 64 e_X10_check_49 (by decide) (fun zc24 => ?_) (fun zc24 => ?_)
            · have p25 := gn_eq 0 0 (gc_eq zc24) pr15 (jv_k (x := 0) 0 (by decide)) (by decide)
              refine g_iconst cx 0 (by decide) e_X10_check_64 ?_
              exact J65 0 (jv_w (jv_k (x := 0) 0 (by decide)) (by decide))
            · have p26 := gn_neL 1 1 (gc_ne zc24) pr15 (jv_k (x := 0) 0 (by decide)) (by decide)
              refine g_aload_n cx 0 rfl e_X10_check_52 ?_
              refine g_get cx cl_X10 fl_X10_10 0 (.ref (ad 1)) e_X10_check_53 rfl rfl ?_
              refine g_iload_n cx 2 rfl e_X10_check_56 ?_
              refine g_iconst cx 1 (by decide) e_X10_check_57 ?_
              refine g_cViW cx [.int y11, .int 1] [] (w_X8_side_1 l X ad F10 R oF10 hA y11 1) ml_X10_173 yV_X8_side e_X10_check_58 (by unfold g_rr; decide) (by decide) 1 rfl rfl rfl (Nat.le_of_ble_eq_true rfl) (fun r27 w28 h29 => ?_)
              obtain ⟨rfl, pr27⟩ := h29
              refine g_goto cx 65 e_X10_check_61 (by decide) ?_
              exact J65 r27 pr27
      refine g_lsub [1, 2, 0] [(0, .ref (ad 0)), (1, .int a0), (2, .int 0)] rfl ?_
      exact J36 _ 0 (jv_w (jv_k (x := 0) 0 (by decide)) (by decide)) (Nat.lt_succ_self _)
    · have p30 := gn_lt 0 39 (gc_nle zc9) (g_ok_g hI 1 rfl) zx8.2 (by decide)
      have p31 := gn_gt 1 40 (gc_nle zc9) zx8.2 (g_ok_g hI 1 rfl) (by decide)
      refine g_lsub [] [] rfl ?_
      exact J23  
theorem e_X8_copy_0 : g_dc cX8_copy 0 (.aload_n 1) 1 1 := ⟨by decide +kernel, rfl⟩
theorem e_X8_copy_1 : g_dc cX8_copy 1 (.ifnonnull 4) 3 4 := ⟨by decide +kernel, rfl⟩
theorem e_X8_copy_5 : g_dc cX8_copy 5 (.aload_n 0) 1 6 := ⟨by decide +kernel, rfl⟩
theorem e_X8_copy_6 : g_dc cX8_copy 6 (.aload_n 1) 1 7 := ⟨by decide +kernel, rfl⟩
theorem e_X8_copy_7 : g_dc cX8_copy 7 (.getfield 9) 3 10 := ⟨by decide +kernel, rfl⟩
theorem e_X8_copy_10 : g_dc cX8_copy 10 (.putfield 9) 3 13 := ⟨by decide +kernel, rfl⟩
theorem e_X8_copy_13 : g_dc cX8_copy 13 (.aload_n 0) 1 14 := ⟨by decide +kernel, rfl⟩
theorem e_X8_copy_14 : g_dc cX8_copy 14 (.aload_n 1) 1 15 := ⟨by decide +kernel, rfl⟩
theorem e_X8_copy_15 : g_dc cX8_copy 15 (.getfield 15) 3 18 := ⟨by decide +kernel, rfl⟩
theorem e_X8_copy_18 : g_dc cX8_copy 18 (.putfield 15) 3 21 := ⟨by decide +kernel, rfl⟩
theorem e_X8_copy_21 : g_dc cX8_copy 21 (.aload_n 0) 1 22 := ⟨by decide +kernel, rfl⟩
theorem e_X8_copy_22 : g_dc cX8_copy 22 (.aload_n 1) 1 23 := ⟨by decide +kernel, rfl⟩
theorem e_X8_copy_23 : g_dc cX8_copy 23 (.getfield 18) 3 26 := ⟨by decide +kernel, rfl⟩
theorem e_X8_copy_26 : g_dc cX8_copy 26 (.putfield 18) 3 29 := ⟨by decide +kernel, rfl⟩
theorem e_X8_copy_29 : g_dc cX8_copy 29 (.aload_n 0) 1 30 := ⟨by decide +kernel, rfl⟩
theorem e_X8_copy_30 : g_dc cX8_copy 30 (.aload_n 1) 1 31 := ⟨by decide +kernel, rfl⟩
theorem e_X8_copy_31 : g_dc cX8_copy 31 (.getfield 21) 3 34 := ⟨by decide +kernel, rfl⟩
theorem e_X8_copy_34 : g_dc cX8_copy 34 (.putfield 21) 3 37 := ⟨by decide +kernel, rfl⟩
theorem e_X8_copy_37 : g_dc cX8_copy 37 (.aload_n 0) 1 38 := ⟨by decide +kernel, rfl⟩
theorem e_X8_copy_38 : g_dc cX8_copy 38 (.aload_n 1) 1 39 := ⟨by decide +kernel, rfl⟩
theorem e_X8_copy_39 : g_dc cX8_copy 39 (.getfield 24) 3 42 := ⟨by decide +kernel, rfl⟩
theorem e_X8_copy_42 : g_dc cX8_copy 42 (.putfield 24) 3 45 := ⟨by decide +kernel, rfl⟩
theorem e_X8_copy_45 : g_dc cX8_copy 45 (.aload_n 1) 1 46 := ⟨by decide +kernel, rfl⟩
theorem e_X8_copy_46 : g_dc cX8_copy 46 (.getfield 27) 3 49 := ⟨by decide +kernel, rfl⟩
theorem e_X8_copy_49 : g_dc cX8_copy 49 (.iconst 0) 1 50 := ⟨by decide +kernel, rfl⟩
theorem e_X8_copy_50 : g_dc cX8_copy 50 (.aload_n 0) 1 51 := ⟨by decide +kernel, rfl⟩
theorem e_X8_copy_51 : g_dc cX8_copy 51 (.getfield 27) 3 54 := ⟨by decide +kernel, rfl⟩
theorem e_X8_copy_54 : g_dc cX8_copy 54 (.iconst 0) 1 55 := ⟨by decide +kernel, rfl⟩
theorem e_X8_copy_55 : g_dc cX8_copy 55 (.aload_n 0) 1 56 := ⟨by decide +kernel, rfl⟩
theorem e_X8_copy_56 : g_dc cX8_copy 56 (.getfield 27) 3 59 := ⟨by decide +kernel, rfl⟩
theorem e_X8_copy_59 : g_dc cX8_copy 59 (.arraylength) 1 60 := ⟨by decide +kernel, rfl⟩
theorem e_X8_copy_60 : g_dc cX8_copy 60 (.invokestatic 39) 3 63 := ⟨by decide +kernel, rfl⟩
theorem e_X8_copy_63 : g_dc cX8_copy 63 (.return_) 1 64 := ⟨by decide +kernel, rfl⟩
def md_X8_copy_3_r1 : List Nat := [48, 49, 50, 51, 52]
def mr_X8_copy_3_r1 : List Nat := [4]
set_option maxHeartbeats 4000000 in
set_option maxRecDepth 100000 in
theorem w_X8_copy_3_r1 (l : Launch) (X : gX) (ad : Nat → Nat) (F : Nat → Int32) (R : Nat → Nat → Int32) (hI : g_ok LK_wX F) (hA : g_okR LA_wX R) : g_Cv l X yX8_copy cX8_copy 2 1 0 0 [.ref (ad 3), .ref (ad 1)] (wX X ad F R) (fun w => ∃ (F' : Nat → Int32) (R' : Nat → Nat → Int32), w = wX X ad F' R' ∧ g_ok LK_wX F' ∧ g_okR LA_wX R' ∧ g_fr md_X8_copy_3_r1 F F' ∧ g_fr mr_X8_copy_3_r1 R R') := by
  refine g_mv (by decide +kernel) (Nat.le_of_ble_eq_true rfl) (fun E cx hret => ?_)
  refine g_aload_n cx 1 rfl e_X8_copy_0 ?_
  refine g_ifnonnull cx 5 e_X8_copy_1 (by decide) ?_
  refine g_aload_n cx 0 rfl e_X8_copy_5 ?_
  refine g_aload_n cx 1 rfl e_X8_copy_6 ?_
  refine g_get cx cl_X8 fl_X8_9 1 (.int (F 16)) e_X8_copy_7 rfl rfl ?_
  refine g_put cx cl_X8 fl_X8_9 3 (wX X ad (upd F 48 (F 16)) R) e_X8_copy_10 rfl rfl rfl rfl (Nat.le_of_ble_eq_true rfl) rfl ?_
  obtain ⟨F1, hF1⟩ : ∃ z, z = upd F 48 (F 16) := ⟨_, rfl⟩
  rw [← hF1]
  have oF1 : g_ok LK_wX F1 := by rw [hF1]; exact g_ok_u hI rfl
  have fF1 : g_fr md_X8_copy_3_r1 F F1 := by rw [hF1]; exact g_fr_u (g_fr_rf F) rfl
  refine g_aload_n cx 0 rfl e_X8_copy_13 ?_
  refine g_aload_n cx 1 rfl e_X8_copy_14 ?_
  refine g_get cx cl_X8 fl_X8_15 1 (.int (F1 17)) e_X8_copy_15 rfl rfl ?_
  refine g_toi (F 17) (g_pu2 hF1 rfl) ?_
  refine g_put cx cl_X8 fl_X8_15 3 (wX X ad (upd F1 49 (F 17)) R) e_X8_copy_18 rfl rfl rfl rfl (Nat.le_of_ble_eq_true rfl) rfl ?_
  obtain ⟨F2, hF2⟩ : ∃ z, z = upd F1 49 (F 17) := ⟨_, rfl⟩
  rw [← hF2]
  have oF2 : g_ok LK_wX F2 := by rw [hF2]; exact g_ok_u oF1 rfl
  have fF2 : g_fr md_X8_copy_3_r1 F F2 := by rw [hF2]; exact g_fr_u fF1 rfl
  refine g_aload_n cx 0 rfl e_X8_copy_21 ?_
  refine g_aload_n cx 1 rfl e_X8_copy_22 ?_
  refine g_get cx cl_X8 fl_X8_18 1 (.int (F2 18)) e_X8_copy_23 rfl rfl ?_
  refine g_toi (F 18) ((g_pu2 hF2 rfl).trans (g_pu2 hF1 rfl)) ?_
  refine g_put cx cl_X8 fl_X8_18 3 (wX X ad (upd F2 50 (F 18)) R) e_X8_copy_26 rfl rfl rfl rfl (Nat.le_of_ble_eq_true rfl) rfl ?_
  obtain ⟨F3, hF3⟩ : ∃ z, z = upd F2 50 (F 18) := ⟨_, rfl⟩
  rw [← hF3]
  have oF3 : g_ok LK_wX F3 := by rw [hF3]; exact g_ok_u oF2 rfl
  have fF3 : g_fr md_X8_copy_3_r1 F F3 := by rw [hF3]; exact g_fr_u fF2 rfl
  refine g_aload_n cx 0 rfl e_X8_copy_29 ?_
  refine g_aload_n cx 1 rfl e_X8_copy_30 ?_
  refine g_get cx cl_X8 fl_X8_21 1 (.int (F3 19)) e_X8_copy_31 rfl rfl ?_
  refine g_toi (F 19) (((g_pu2 hF3 rfl).trans (g_pu2 hF2 rfl)).trans (g_pu2 hF1 rfl)) ?_
  refine g_put cx cl_X8 fl_X8_21 3 (wX X ad (upd F3 51 (F 19)) R) e_X8_copy_34 rfl rfl rfl rfl (Nat.le_of_ble_eq_true rfl) rfl ?_
  obtain ⟨F4, hF4⟩ : ∃ z, z = upd F3 51 (F 19) := ⟨_, rfl⟩
  rw [← hF4]
  have oF4 : g_ok LK_wX F4 := by rw [hF4]; exact g_ok_u oF3 rfl
  have fF4 : g_fr md_X8_copy_3_r1 F F4 := by rw [hF4]; exact g_fr_u fF3 rfl
  refine g_aload_n cx 0 rfl e_X8_copy_37 ?_
  refine g_aload_n cx 1 rfl e_X8_copy_38 ?_
  refine g_get cx cl_X8 fl_X8_24 1 (.int (F4 20)) e_X8_copy_39 rfl rfl ?_
  refine g_toi (F 20) ((((g_pu2 hF4 rfl).trans (g_pu2 hF3 rfl)).trans (g_pu2 hF2 rfl)).trans (g_pu2 hF1 rfl)) ?_
  refine g_put cx cl_X8 fl_X8_24 3 (wX X ad (upd F4 52 (F 20)) R) e_X8_copy_42 rfl rfl rfl rfl (Nat.le_of_ble_eq_true rfl) rfl ?_
  obtain ⟨F5, hF5⟩ : ∃ z, z = upd F4 52 (F 20) := ⟨_, rfl⟩
  rw [← hF5]
  have oF5 : g_ok LK_wX F5 := by rw [hF5]; exact g_ok_u oF4 rfl
  have fF5 : g_fr md_X8_copy_3_r1 F F5 := by rw [hF5]; exact g_fr_u fF4 rfl
  refine g_aload_n cx 1 rfl e_X8_copy_45 ?_
  refine g_get cx cl_X8 fl_X8_27 1 (.ref (ad 2)) e_X8_copy_46 rfl rfl ?_
  refine g_iconst cx 0 (by decide) e_X8_copy_49 ?_
  refine g_aload_n cx 0 rfl e_X8_copy_50 ?_
  refine g_get cx cl_X8 fl_X8_27 3 (.ref (ad 4)) e_X8_copy_51 rfl rfl ?_
  refine g_iconst cx 0 (by decide) e_X8_copy_54 ?_
  refine g_aload_n cx 0 rfl e_X8_copy_55 ?_
  refine g_get cx cl_X8 fl_X8_27 3 (.ref (ad 4)) e_X8_copy_56 rfl rfl ?_
  refine g_alen cx 4 80 e_X8_copy_59 rfl (by decide) ?_
  refine g_copy cx 2 4 (wX X ad F5 (g_u R 4 (va_cpy (R 2) (R 4) 0 0 80))) ml_X8_39 e_X8_copy_60 rfl rfl (by decide) (by decide) (by decide) (by decide) rfl ?_
  obtain ⟨R6, hR6⟩ : ∃ z, z = g_u R 4 (va_cpy (R 2) (R 4) 0 0 80) := ⟨_, rfl⟩
  rw [← hR6]
  have oR6 : g_okR LA_wX R6 := by rw [hR6]; exact g_okR_u hA rfl
  have fR6 : g_fr mr_X8_copy_3_r1 R R6 := by rw [hR6]; exact g_fr_r (g_fr_rf R) rfl
  exact hret e_X8_copy_63 (Nat.le_of_ble_eq_true rfl) (Nat.le_of_ble_eq_true rfl) ⟨F5, R6, rfl, oF5, oR6, fF5, fR6⟩
theorem e_X10_keep_0 : g_dc cX10_keep 0 (.aload_n 0) 1 1 := ⟨by decide +kernel, rfl⟩
theorem e_X10_keep_1 : g_dc cX10_keep 1 (.getfield 16) 3 4 := ⟨by decide +kernel, rfl⟩
theorem e_X10_keep_4 : g_dc cX10_keep 4 (.aload_n 0) 1 5 := ⟨by decide +kernel, rfl⟩
theorem e_X10_keep_5 : g_dc cX10_keep 5 (.getfield 10) 3 8 := ⟨by decide +kernel, rfl⟩
theorem e_X10_keep_8 : g_dc cX10_keep 8 (.invokevirtual 264) 3 11 := ⟨by decide +kernel, rfl⟩
theorem e_X10_keep_11 : g_dc cX10_keep 11 (.aload_n 0) 1 12 := ⟨by decide +kernel, rfl⟩
theorem e_X10_keep_12 : g_dc cX10_keep 12 (.iconst 1) 1 13 := ⟨by decide +kernel, rfl⟩
theorem e_X10_keep_13 : g_dc cX10_keep 13 (.putfield 74) 3 16 := ⟨by decide +kernel, rfl⟩
theorem e_X10_keep_16 : g_dc cX10_keep 16 (.aload_n 0) 1 17 := ⟨by decide +kernel, rfl⟩
theorem e_X10_keep_17 : g_dc cX10_keep 17 (.getfield 10) 3 20 := ⟨by decide +kernel, rfl⟩
theorem e_X10_keep_20 : g_dc cX10_keep 20 (.getfield 95) 3 23 := ⟨by decide +kernel, rfl⟩
theorem e_X10_keep_23 : g_dc cX10_keep 23 (.invokestatic 211) 3 26 := ⟨by decide +kernel, rfl⟩
theorem e_X10_keep_26 : g_dc cX10_keep 26 (.ireturn) 1 27 := ⟨by decide +kernel, rfl⟩
def md_X10_keep : List Nat := [11, 48, 49, 50, 51, 52]
def mr_X10_keep : List Nat := [4]
set_option maxHeartbeats 4000000 in
set_option maxRecDepth 100000 in
theorem w_X10_keep (l : Launch) (X : gX) (ad : Nat → Nat) (F : Nat → Int32) (R : Nat → Nat → Int32) (hI : g_ok LK_wX F) (hA : g_okR LA_wX R) : g_Ci l X yX10_keep cX10_keep 1 (some .int) 2 0 0 [.ref (ad 0)] (wX X ad F R) (fun r w => ∃ (F' : Nat → Int32) (R' : Nat → Nat → Int32), w = wX X ad F' R' ∧ g_ok LK_wX F' ∧ g_okR LA_wX R' ∧ g_fr md_X10_keep F F' ∧ g_fr mr_X10_keep R R' ∧ jv (-2147483648) 2147483647 r) := by
  refine g_mi (by decide +kernel) (Nat.le_of_ble_eq_true rfl) (fun E cx hret => ?_)
  refine g_aload_n cx 0 rfl e_X10_keep_0 ?_
  refine g_get cx cl_X10 fl_X10_16 0 (.ref (ad 3)) e_X10_keep_1 rfl rfl ?_
  refine g_aload_n cx 0 rfl e_X10_keep_4 ?_
  refine g_get cx cl_X10 fl_X10_10 0 (.ref (ad 1)) e_X10_keep_5 rfl rfl ?_
  refine g_cVvW cx [.ref (ad 1)] [] (w_X8_copy_3_r1 l X ad F R hI hA) ml_X10_264 yV_X8_copy e_X10_keep_8 (by unfold g_rr; decide) (by decide) 3 rfl rfl rfl (Nat.le_of_ble_eq_true rfl) (fun w2 h3 => ?_)
  obtain ⟨F4, R5, rfl, oF4, oR5, cF4, cR5⟩ := h3
  have fF4 : g_fr md_X10_keep F F4 := g_fr_c (g_fr_rf F) cF4 rfl
  have fR5 : g_fr mr_X10_keep R R5 := g_fr_c (g_fr_rf R) cR5 rfl
  refine g_aload_n cx 0 rfl e_X10_keep_11 ?_
  refine g_iconst cx 1 (by decide) e_X10_keep_12 ?_
  refine g_put cx cl_X10 fl_X10_74 0 (wX X ad (upd F4 11 1) R5) e_X10_keep_13 rfl rfl rfl rfl (Nat.le_of_ble_eq_true rfl) rfl ?_
  obtain ⟨F6, hF6⟩ : ∃ z, z = upd F4 11 1 := ⟨_, rfl⟩
  rw [← hF6]
  have oF6 : g_ok LK_wX F6 := by rw [hF6]; exact g_ok_p oF4 (jv_k (x := 1) 1 (by decide)) rfl
  have fF6 : g_fr md_X10_keep F F6 := by rw [hF6]; exact g_fr_u fF4 rfl
  refine g_aload_n cx 0 rfl e_X10_keep_16 ?_
  refine g_get cx cl_X10 fl_X10_10 0 (.ref (ad 1)) e_X10_keep_17 rfl rfl ?_
  refine g_getN cx cl_X8 fn_X10_95 1 (.int (F6 19)) e_X10_keep_20 rfl rfl ?_
  refine g_toi (F 19) ((g_pu2 hF6 rfl).trans (cF4 19 rfl)) ?_
  refine g_cOiW cx [.int (F 19)] [] (c_J6_bitCount_0f7a4 l X (wX X ad F6 R5) (F 19)) ml_X10_211 yS_J6_bitCount_0f7a4 e_X10_keep_23 (by unfold g_rr; decide) (by decide) rfl (Nat.le_of_ble_eq_true rfl) (fun r7 w8 h9 => ?_)
  obtain ⟨rfl, hr7⟩ := h9
  exact hret e_X10_keep_26 (Nat.le_of_ble_eq_true rfl) (Nat.le_of_ble_eq_true rfl) rfl ⟨F6, R5, rfl, oF6, oR5, fF6, fR5, (jv_t r7)⟩
def md_X8_copy_1_r3 : List Nat := [16, 17, 18, 19, 20]
def mr_X8_copy_1_r3 : List Nat := [2]
set_option maxHeartbeats 4000000 in
set_option maxRecDepth 100000 in
theorem w_X8_copy_1_r3 (l : Launch) (X : gX) (ad : Nat → Nat) (F : Nat → Int32) (R : Nat → Nat → Int32) (hI : g_ok LK_wX F) (hA : g_okR LA_wX R) : g_Cv l X yX8_copy cX8_copy 2 1 0 0 [.ref (ad 1), .ref (ad 3)] (wX X ad F R) (fun w => ∃ (F' : Nat → Int32) (R' : Nat → Nat → Int32), w = wX X ad F' R' ∧ g_ok LK_wX F' ∧ g_okR LA_wX R' ∧ g_fr md_X8_copy_1_r3 F F' ∧ g_fr mr_X8_copy_1_r3 R R') := by
  refine g_mv (by decide +kernel) (Nat.le_of_ble_eq_true rfl) (fun E cx hret => ?_)
  refine g_aload_n cx 1 rfl e_X8_copy_0 ?_
  refine g_ifnonnull cx 5 e_X8_copy_1 (by decide) ?_
  refine g_aload_n cx 0 rfl e_X8_copy_5 ?_
  refine g_aload_n cx 1 rfl e_X8_copy_6 ?_
  refine g_get cx cl_X8 fl_X8_9 3 (.int (F 48)) e_X8_copy_7 rfl rfl ?_
  refine g_put cx cl_X8 fl_X8_9 1 (wX X ad (upd F 16 (F 48)) R) e_X8_copy_10 rfl rfl rfl rfl (Nat.le_of_ble_eq_true rfl) rfl ?_
  obtain ⟨F1, hF1⟩ : ∃ z, z = upd F 16 (F 48) := ⟨_, rfl⟩
  rw [← hF1]
  have oF1 : g_ok LK_wX F1 := by rw [hF1]; exact g_ok_u hI rfl
  have fF1 : g_fr md_X8_copy_1_r3 F F1 := by rw [hF1]; exact g_fr_u (g_fr_rf F) rfl
  refine g_aload_n cx 0 rfl e_X8_copy_13 ?_
  refine g_aload_n cx 1 rfl e_X8_copy_14 ?_
  refine g_get cx cl_X8 fl_X8_15 3 (.int (F1 49)) e_X8_copy_15 rfl rfl ?_
  refine g_toi (F 49) (g_pu2 hF1 rfl) ?_
  refine g_put cx cl_X8 fl_X8_15 1 (wX X ad (upd F1 17 (F 49)) R) e_X8_copy_18 rfl rfl rfl rfl (Nat.le_of_ble_eq_true rfl) rfl ?_
  obtain ⟨F2, hF2⟩ : ∃ z, z = upd F1 17 (F 49) := ⟨_, rfl⟩
  rw [← hF2]
  have oF2 : g_ok LK_wX F2 := by rw [hF2]; exact g_ok_u oF1 rfl
  have fF2 : g_fr md_X8_copy_1_r3 F F2 := by rw [hF2]; exact g_fr_u fF1 rfl
  refine g_aload_n cx 0 rfl e_X8_copy_21 ?_
  refine g_aload_n cx 1 rfl e_X8_copy_22 ?_
  refine g_get cx cl_X8 fl_X8_18 3 (.int (F2 50)) e_X8_copy_23 rfl rfl ?_
  refine g_toi (F 50) ((g_pu2 hF2 rfl).trans (g_pu2 hF1 rfl)) ?_
  refine g_put cx cl_X8 fl_X8_18 1 (wX X ad (upd F2 18 (F 50)) R) e_X8_copy_26 rfl rfl rfl rfl (Nat.le_of_ble_eq_true rfl) rfl ?_
  obtain ⟨F3, hF3⟩ : ∃ z, z = upd F2 18 (F 50) := ⟨_, rfl⟩
  rw [← hF3]
  have oF3 : g_ok LK_wX F3 := by rw [hF3]; exact g_ok_u oF2 rfl
  have fF3 : g_fr md_X8_copy_1_r3 F F3 := by rw [hF3]; exact g_fr_u fF2 rfl
  refine g_aload_n cx 0 rfl e_X8_copy_29 ?_
  refine g_aload_n cx 1 rfl e_X8_copy_30 ?_
  refine g_get cx cl_X8 fl_X8_21 3 (.int (F3 51)) e_X8_copy_31 rfl rfl ?_
  refine g_toi (F 51) (((g_pu2 hF3 rfl).trans (g_pu2 hF2 rfl)).trans (g_pu2 hF1 rfl)) ?_
  refine g_put cx cl_X8 fl_X8_21 1 (wX X ad (upd F3 19 (F 51)) R) e_X8_copy_34 rfl rfl rfl rfl (Nat.le_of_ble_eq_true rfl) rfl ?_
  obtain ⟨F4, hF4⟩ : ∃ z, z = upd F3 19 (F 51) := ⟨_, rfl⟩
  rw [← hF4]
  have oF4 : g_ok LK_wX F4 := by rw [hF4]; exact g_ok_u oF3 rfl
  have fF4 : g_fr md_X8_copy_1_r3 F F4 := by rw [hF4]; exact g_fr_u fF3 rfl
  refine g_aload_n cx 0 rfl e_X8_copy_37 ?_
  refine g_aload_n cx 1 rfl e_X8_copy_38 ?_
  refine g_get cx cl_X8 fl_X8_24 3 (.int (F4 52)) e_X8_copy_39 rfl rfl ?_
  refine g_toi (F 52) ((((g_pu2 hF4 rfl).trans (g_pu2 hF3 rfl)).trans (g_pu2 hF2 rfl)).trans (g_pu2 hF1 rfl)) ?_
  refine g_put cx cl_X8 fl_X8_24 1 (wX X ad (upd F4 20 (F 52)) R) e_X8_copy_42 rfl rfl rfl rfl (Nat.le_of_ble_eq_true rfl) rfl ?_
  obtain ⟨F5, hF5⟩ : ∃ z, z = upd F4 20 (F 52) := ⟨_, rfl⟩
  rw [← hF5]
  have oF5 : g_ok LK_wX F5 := by rw [hF5]; exact g_ok_u oF4 rfl
  have fF5 : g_fr md_X8_copy_1_r3 F F5 := by rw [hF5]; exact g_fr_u fF4 rfl
  refine g_aload_n cx 1 rfl e_X8_copy_45 ?_
  refine g_get cx cl_X8 fl_X8_27 3 (.ref (ad 4)) e_X8_copy_46 rfl rfl ?_
  refine g_iconst cx 0 (by decide) e_X8_copy_49 ?_
  refine g_aload_n cx 0 rfl e_X8_copy_50 ?_
  refine g_get cx cl_X8 fl_X8_27 1 (.ref (ad 2)) e_X8_copy_51 rfl rfl ?_
  refine g_iconst cx 0 (by decide) e_X8_copy_54 ?_
  refine g_aload_n cx 0 rfl e_X8_copy_55 ?_
  refine g_get cx cl_X8 fl_X8_27 1 (.ref (ad 2)) e_X8_copy_56 rfl rfl ?_
  refine g_alen cx 2 80 e_X8_copy_59 rfl (by decide) ?_
  refine g_copy cx 4 2 (wX X ad F5 (g_u R 2 (va_cpy (R 4) (R 2) 0 0 80))) ml_X8_39 e_X8_copy_60 rfl rfl (by decide) (by decide) (by decide) (by decide) rfl ?_
  obtain ⟨R6, hR6⟩ : ∃ z, z = g_u R 2 (va_cpy (R 4) (R 2) 0 0 80) := ⟨_, rfl⟩
  rw [← hR6]
  have oR6 : g_okR LA_wX R6 := by rw [hR6]; exact g_okR_u hA rfl
  have fR6 : g_fr mr_X8_copy_1_r3 R R6 := by rw [hR6]; exact g_fr_r (g_fr_rf R) rfl
  exact hret e_X8_copy_63 (Nat.le_of_ble_eq_true rfl) (Nat.le_of_ble_eq_true rfl) ⟨F5, R6, rfl, oF5, oR6, fF5, fR6⟩
theorem e_X10_undo_0 : g_dc cX10_undo 0 (.aload_n 0) 1 1 := ⟨by decide +kernel, rfl⟩
theorem e_X10_undo_1 : g_dc cX10_undo 1 (.getfield 74) 3 4 := ⟨by decide +kernel, rfl⟩
theorem e_X10_undo_4 : g_dc cX10_undo 4 (.ifCond .ne 5) 3 7 := ⟨by decide +kernel, rfl⟩
theorem e_X10_undo_7 : g_dc cX10_undo 7 (.iconst 0) 1 8 := ⟨by decide +kernel, rfl⟩
theorem e_X10_undo_8 : g_dc cX10_undo 8 (.ireturn) 1 9 := ⟨by decide +kernel, rfl⟩
theorem e_X10_undo_9 : g_dc cX10_undo 9 (.aload_n 0) 1 10 := ⟨by decide +kernel, rfl⟩
theorem e_X10_undo_10 : g_dc cX10_undo 10 (.getfield 10) 3 13 := ⟨by decide +kernel, rfl⟩
theorem e_X10_undo_13 : g_dc cX10_undo 13 (.aload_n 0) 1 14 := ⟨by decide +kernel, rfl⟩
theorem e_X10_undo_14 : g_dc cX10_undo 14 (.getfield 16) 3 17 := ⟨by decide +kernel, rfl⟩
theorem e_X10_undo_17 : g_dc cX10_undo 17 (.invokevirtual 264) 3 20 := ⟨by decide +kernel, rfl⟩
theorem e_X10_undo_20 : g_dc cX10_undo 20 (.iconst 1) 1 21 := ⟨by decide +kernel, rfl⟩
theorem e_X10_undo_21 : g_dc cX10_undo 21 (.ireturn) 1 22 := ⟨by decide +kernel, rfl⟩
def md_X10_undo : List Nat := [16, 17, 18, 19, 20]
def mr_X10_undo : List Nat := [2]
set_option maxHeartbeats 4000000 in
set_option maxRecDepth 100000 in
theorem w_X10_undo (l : Launch) (X : gX) (ad : Nat → Nat) (F : Nat → Int32) (R : Nat → Nat → Int32) (hI : g_ok LK_wX F) (hA : g_okR LA_wX R) : g_Ci l X yX10_undo cX10_undo 1 (some .boolean) 2 0 0 [.ref (ad 0)] (wX X ad F R) (fun r w => ∃ (F' : Nat → Int32) (R' : Nat → Nat → Int32), w = wX X ad F' R' ∧ g_ok LK_wX F' ∧ g_okR LA_wX R' ∧ g_fr md_X10_undo F F' ∧ g_fr mr_X10_undo R R' ∧ jv 0 1 r) := by
  refine g_mi (by decide +kernel) (Nat.le_of_ble_eq_true rfl) (fun E cx hret => ?_)
  refine g_aload_n cx 0 rfl e_X10_undo_0 ?_
  refine g_get cx cl_X10 fl_X10_74 0 (.int (F 11)) e_X10_undo_1 rfl rfl ?_
  refine g_if_ne cx 9 e_X10_undo_4 (by decide) (fun zc1 => ?_) (fun zc1 => ?_)
  · have p2 := gn_neL 1 1 (gc_ne zc1) (g_ok_g hI 0 rfl) (jv_k (x := 0) 0 (by decide)) (by decide)
    refine g_aload_n cx 0 rfl e_X10_undo_9 ?_
    refine g_get cx cl_X10 fl_X10_10 0 (.ref (ad 1)) e_X10_undo_10 rfl rfl ?_
    refine g_aload_n cx 0 rfl e_X10_undo_13 ?_
    refine g_get cx cl_X10 fl_X10_16 0 (.ref (ad 3)) e_X10_undo_14 rfl rfl ?_
    refine g_cVvW cx [.ref (ad 3)] [] (w_X8_copy_1_r3 l X ad F R hI hA) ml_X10_264 yV_X8_copy e_X10_undo_17 (by unfold g_rr; decide) (by decide) 1 rfl rfl rfl (Nat.le_of_ble_eq_true rfl) (fun w4 h5 => ?_)
    obtain ⟨F6, R7, rfl, oF6, oR7, cF6, cR7⟩ := h5
    have fF6 : g_fr md_X10_undo F F6 := g_fr_c (g_fr_rf F) cF6 rfl
    have fR7 : g_fr mr_X10_undo R R7 := g_fr_c (g_fr_rf R) cR7 rfl
    refine g_iconst cx 1 (by decide) e_X10_undo_20 ?_
    exact hret e_X10_undo_21 (Nat.le_of_ble_eq_true rfl) (Nat.le_of_ble_eq_true rfl) rfl ⟨F6, R7, rfl, oF6, oR7, fF6, fR7, (jv_w (jv_k (x := 1) 1 (by decide)) (by decide))⟩
  · have p8 := gn_eq 0 0 (gc_eq zc1) (g_ok_g hI 0 rfl) (jv_k (x := 0) 0 (by decide)) (by decide)
    refine g_iconst cx 0 (by decide) e_X10_undo_7 ?_
    exact hret e_X10_undo_8 (Nat.le_of_ble_eq_true rfl) (Nat.le_of_ble_eq_true rfl) rfl ⟨F, R, rfl, hI, hA, (g_fr_rf F), (g_fr_rf R), (jv_w (jv_k (x := 0) 0 (by decide)) (by decide))⟩
