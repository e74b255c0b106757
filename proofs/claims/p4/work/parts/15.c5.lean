theorem e_X8_foldPlace_0 : g_dc cX8_foldPlace 0 (.iload_n 1) 1 1 := ⟨by decide +kernel, rfl⟩
theorem e_X8_foldPlace_1 : g_dc cX8_foldPlace 1 (.aload_n 0) 1 2 := ⟨by decide +kernel, rfl⟩
theorem e_X8_foldPlace_2 : g_dc cX8_foldPlace 2 (.getfield 9) 3 5 := ⟨by decide +kernel, rfl⟩
theorem e_X8_foldPlace_5 : g_dc cX8_foldPlace 5 (.imul) 1 6 := ⟨by decide +kernel, rfl⟩
theorem e_X8_foldPlace_6 : g_dc cX8_foldPlace 6 (.bipush 6) 2 8 := ⟨by decide +kernel, rfl⟩
theorem e_X8_foldPlace_8 : g_dc cX8_foldPlace 8 (.idiv) 1 9 := ⟨by decide +kernel, rfl⟩
theorem e_X8_foldPlace_9 : g_dc cX8_foldPlace 9 (.ireturn) 1 10 := ⟨by decide +kernel, rfl⟩
set_option maxHeartbeats 4000000 in
set_option maxRecDepth 100000 in
theorem w_X8_foldPlace_5 (l : Launch) (X : gX) (ad : Nat → Nat) (F : Nat → Int32) (R : Nat → Nat → Int32) (hI : g_ok LK_wX F) (hA : g_okR LA_wX R) (a0 : Int32) : g_Ci l X yX8_foldPlace cX8_foldPlace 2 (some .int) 1 0 0 [.ref (ad 5), .int a0] (wX X ad F R) (fun r w => w = wX X ad F R ∧ jv (-2147483648) 2147483647 r) := by
  refine g_mi (by decide +kernel) (Nat.le_of_ble_eq_true rfl) (fun E cx hret => ?_)
  refine g_iload_n cx 1 rfl e_X8_foldPlace_0 ?_
  refine g_aload_n cx 0 rfl e_X8_foldPlace_1 ?_
  refine g_get cx cl_X8 fl_X8_9 5 (.int (F 80)) e_X8_foldPlace_2 rfl rfl ?_
  refine g_imul cx e_X8_foldPlace_5 ?_
  refine g_topi (fun x1 ex1 => ?_)
  refine g_bipush cx 6 (by decide) e_X8_foldPlace_6 ?_
  refine g_idiv cx (by decide) e_X8_foldPlace_8 ?_
  refine g_topi (fun x2 ex2 => ?_)
  exact hret e_X8_foldPlace_9 (Nat.le_of_ble_eq_true rfl) (Nat.le_of_ble_eq_true rfl) rfl ⟨rfl, (jv_t x2)⟩
theorem e_X8_hasFold_0 : g_dc cX8_hasFold 0 (.iload_n 1) 1 1 := ⟨by decide +kernel, rfl⟩
theorem e_X8_hasFold_1 : g_dc cX8_hasFold 1 (.iconst 0) 1 2 := ⟨by decide +kernel, rfl⟩
theorem e_X8_hasFold_2 : g_dc cX8_hasFold 2 (.iconst 5) 1 3 := ⟨by decide +kernel, rfl⟩
theorem e_X8_hasFold_3 : g_dc cX8_hasFold 3 (.invokestatic 31) 3 6 := ⟨by decide +kernel, rfl⟩
theorem e_X8_hasFold_6 : g_dc cX8_hasFold 6 (.ifCond .eq 30) 3 9 := ⟨by decide +kernel, rfl⟩
theorem e_X8_hasFold_9 : g_dc cX8_hasFold 9 (.aload_n 0) 1 10 := ⟨by decide +kernel, rfl⟩
theorem e_X8_hasFold_10 : g_dc cX8_hasFold 10 (.getfield 18) 3 13 := ⟨by decide +kernel, rfl⟩
theorem e_X8_hasFold_13 : g_dc cX8_hasFold 13 (.iconst 1) 1 14 := ⟨by decide +kernel, rfl⟩
theorem e_X8_hasFold_14 : g_dc cX8_hasFold 14 (.iload_n 1) 1 15 := ⟨by decide +kernel, rfl⟩
theorem e_X8_hasFold_15 : g_dc cX8_hasFold 15 (.ishl) 1 16 := ⟨by decide +kernel, rfl⟩
theorem e_X8_hasFold_16 : g_dc cX8_hasFold 16 (.iand) 1 17 := ⟨by decide +kernel, rfl⟩
theorem e_X8_hasFold_17 : g_dc cX8_hasFold 17 (.ifCond .eq 19) 3 20 := ⟨by decide +kernel, rfl⟩
theorem e_X8_hasFold_20 : g_dc cX8_hasFold 20 (.aload_n 0) 1 21 := ⟨by decide +kernel, rfl⟩
theorem e_X8_hasFold_21 : g_dc cX8_hasFold 21 (.iload_n 1) 1 22 := ⟨by decide +kernel, rfl⟩
theorem e_X8_hasFold_22 : g_dc cX8_hasFold 22 (.invokevirtual 35) 3 25 := ⟨by decide +kernel, rfl⟩
theorem e_X8_hasFold_25 : g_dc cX8_hasFold 25 (.aload_n 0) 1 26 := ⟨by decide +kernel, rfl⟩
theorem e_X8_hasFold_26 : g_dc cX8_hasFold 26 (.getfield 15) 3 29 := ⟨by decide +kernel, rfl⟩
theorem e_X8_hasFold_29 : g_dc cX8_hasFold 29 (.if_icmp .ge 7) 3 32 := ⟨by decide +kernel, rfl⟩
theorem e_X8_hasFold_32 : g_dc cX8_hasFold 32 (.iconst 1) 1 33 := ⟨by decide +kernel, rfl⟩
theorem e_X8_hasFold_33 : g_dc cX8_hasFold 33 (.goto 4) 3 36 := ⟨by decide +kernel, rfl⟩
theorem e_X8_hasFold_36 : g_dc cX8_hasFold 36 (.iconst 0) 1 37 := ⟨by decide +kernel, rfl⟩
theorem e_X8_hasFold_37 : g_dc cX8_hasFold 37 (.ireturn) 1 38 := ⟨by decide +kernel, rfl⟩
set_option maxHeartbeats 4000000 in
set_option maxRecDepth 100000 in
theorem w_X8_hasFold_5 (l : Launch) (X : gX) (ad : Nat → Nat) (F : Nat → Int32) (R : Nat → Nat → Int32) (hI : g_ok LK_wX F) (hA : g_okR LA_wX R) (a0 : Int32) : g_Ci l X yX8_hasFold cX8_hasFold 2 (some .boolean) 2 0 0 [.ref (ad 5), .int a0] (wX X ad F R) (fun r w => w = wX X ad F R ∧ jv 0 1 r) := by
  refine g_mi (by decide +kernel) (Nat.le_of_ble_eq_true rfl) (fun E cx hret => ?_)
  refine g_iload_n cx 1 rfl e_X8_hasFold_0 ?_
  refine g_iconst cx 0 (by decide) e_X8_hasFold_1 ?_
  refine g_iconst cx 5 (by decide) e_X8_hasFold_2 ?_
  refine g_cNiW cx [.int a0, .int 0, .int 5] [] (c_X10_within l X (wX X ad F R) a0 0 5) mn_X8_31 yS_X10_within e_X8_hasFold_3 (by unfold g_rr; decide) (by decide) rfl (Nat.le_of_ble_eq_true rfl) (fun r1 w2 h3 => ?_)
  obtain ⟨rfl, hr1⟩ := h3
  have pr1 : jv 0 1 r1 := by rw [hr1]; exact gi_01 _ _ _
  have J37 : ∀ (y4 : Int32), (jv 0 1 y4) → G X E 2 0 0 (wX X ad F R) [] 37 [.int y4] := by
    intro y4 py4
    exact hret e_X8_hasFold_37 (Nat.le_of_ble_eq_true rfl) (Nat.le_of_ble_eq_true rfl) (g_narb py4) ⟨rfl, py4⟩
  have J36 : G X E 2 0 0 (wX X ad F R) [] 36 [] := by
    refine g_iconst cx 0 (by decide) e_X8_hasFold_36 ?_
    exact J37 0 (jv_w (jv_k (x := 0) 0 (by decide)) (by decide))
  refine g_if_eq cx 36 e_X8_hasFold_6 (by decide) (fun zc5 => ?_) (fun zc5 => ?_)
  · have p6 := gn_eq 0 0 (gc_eq zc5) pr1 (jv_k (x := 0) 0 (by decide)) (by decide)
    refine g_lsub [] [] rfl ?_
    exact J36  
  · have p7 := gn_neL 1 1 (gc_ne zc5) pr1 (jv_k (x := 0) 0 (by decide)) (by decide)
    have p8 := jv_i 0 5 (jv_t a0) (gi_in (A := 0) (B := 5) hr1 zc5 (by decide) (by decide)) (by decide)
    refine g_aload_n cx 0 rfl e_X8_hasFold_9 ?_
    refine g_get cx cl_X8 fl_X8_18 5 (.int (F 82)) e_X8_hasFold_10 rfl rfl ?_
    refine g_iconst cx 1 (by decide) e_X8_hasFold_13 ?_
    refine g_iload_n cx 1 rfl e_X8_hasFold_14 ?_
    refine g_ishl cx e_X8_hasFold_15 ?_
    refine g_topi (fun x9 ex9 => ?_)
    refine g_iand cx e_X8_hasFold_16 ?_
    refine g_topi (fun x10 ex10 => ?_)
    refine g_if_eq cx 36 e_X8_hasFold_17 (by decide) (fun zc11 => ?_) (fun zc11 => ?_)
    · have p12 := gn_eq 0 0 (gc_eq zc11) (jv_t x10) (jv_k (x := 0) 0 (by decide)) (by decide)
      refine g_lsub [] [] rfl ?_
      exact J36  
    · refine g_aload_n cx 0 rfl e_X8_hasFold_20 ?_
      refine g_iload_n cx 1 rfl e_X8_hasFold_21 ?_
      refine g_cViW cx [.int a0] [] (w_X8_foldPlace_5 l X ad F R hI hA a0) ml_X8_35 yV_X8_foldPlace e_X8_hasFold_22 (by unfold g_rr; decide) (by decide) 5 rfl rfl rfl (Nat.le_of_ble_eq_true rfl) (fun r13 w14 h15 => ?_)
      obtain ⟨rfl, pr13⟩ := h15
      refine g_aload_n cx 0 rfl e_X8_hasFold_25 ?_
      refine g_get cx cl_X8 fl_X8_15 5 (.int (F 81)) e_X8_hasFold_26 rfl rfl ?_
      refine g_icmp_ge cx 36 e_X8_hasFold_29 (by decide) (fun zc16 => ?_) (fun zc16 => ?_)
      · refine g_lsub [] [] rfl ?_
        exact J36  
      · have p17 := gn_lt (-2147483648) 2147483646 (gc_nle zc16) pr13 (jv_t (F 81)) (by decide)
        have p18 := gn_gt (-2147483647) 2147483647 (gc_nle zc16) (jv_t (F 81)) pr13 (by decide)
        refine g_iconst cx 1 (by decide) e_X8_hasFold_32 ?_
        refine g_goto cx 37 e_X8_hasFold_33 (by decide) ?_
        refine g_lsub [] [] rfl ?_
        exact J37 1 (jv_w (jv_k (x := 1) 1 (by decide)) (by decide))
theorem e_X0_begin_0 : g_dc cX0_begin 0 (.aload_n 0) 1 1 := ⟨by decide +kernel, rfl⟩
theorem e_X0_begin_1 : g_dc cX0_begin 1 (.getfield 35) 3 4 := ⟨by decide +kernel, rfl⟩
theorem e_X0_begin_4 : g_dc cX0_begin 4 (.aload_n 0) 1 5 := ⟨by decide +kernel, rfl⟩
theorem e_X0_begin_5 : g_dc cX0_begin 5 (.getfield 12) 3 8 := ⟨by decide +kernel, rfl⟩
theorem e_X0_begin_8 : g_dc cX0_begin 8 (.invokevirtual 90) 3 11 := ⟨by decide +kernel, rfl⟩
theorem e_X0_begin_11 : g_dc cX0_begin 11 (.aload_n 0) 1 12 := ⟨by decide +kernel, rfl⟩
theorem e_X0_begin_12 : g_dc cX0_begin 12 (.iconst 0) 1 13 := ⟨by decide +kernel, rfl⟩
theorem e_X0_begin_13 : g_dc cX0_begin 13 (.putfield 59) 3 16 := ⟨by decide +kernel, rfl⟩
theorem e_X0_begin_16 : g_dc cX0_begin 16 (.iconst 0) 1 17 := ⟨by decide +kernel, rfl⟩
theorem e_X0_begin_17 : g_dc cX0_begin 17 (.istore_n 1) 1 18 := ⟨by decide +kernel, rfl⟩
theorem e_X0_begin_18 : g_dc cX0_begin 18 (.iload_n 1) 1 19 := ⟨by decide +kernel, rfl⟩
theorem e_X0_begin_19 : g_dc cX0_begin 19 (.bipush 10) 2 21 := ⟨by decide +kernel, rfl⟩
theorem e_X0_begin_21 : g_dc cX0_begin 21 (.if_icmp .ge 16) 3 24 := ⟨by decide +kernel, rfl⟩
theorem e_X0_begin_24 : g_dc cX0_begin 24 (.aload_n 0) 1 25 := ⟨by decide +kernel, rfl⟩
theorem e_X0_begin_25 : g_dc cX0_begin 25 (.getfield 39) 3 28 := ⟨by decide +kernel, rfl⟩
theorem e_X0_begin_28 : g_dc cX0_begin 28 (.iload_n 1) 1 29 := ⟨by decide +kernel, rfl⟩
theorem e_X0_begin_29 : g_dc cX0_begin 29 (.iconst 0) 1 30 := ⟨by decide +kernel, rfl⟩
theorem e_X0_begin_30 : g_dc cX0_begin 30 (.iastore) 1 31 := ⟨by decide +kernel, rfl⟩
theorem e_X0_begin_31 : g_dc cX0_begin 31 (.iinc 1 1) 3 34 := ⟨by decide +kernel, rfl⟩
theorem e_X0_begin_34 : g_dc cX0_begin 34 (.goto (-16)) 3 37 := ⟨by decide +kernel, rfl⟩
theorem e_X0_begin_37 : g_dc cX0_begin 37 (.aload_n 0) 1 38 := ⟨by decide +kernel, rfl⟩
theorem e_X0_begin_38 : g_dc cX0_begin 38 (.iconst 0) 1 39 := ⟨by decide +kernel, rfl⟩
theorem e_X0_begin_39 : g_dc cX0_begin 39 (.putfield 52) 3 42 := ⟨by decide +kernel, rfl⟩
theorem e_X0_begin_42 : g_dc cX0_begin 42 (.iconst 0) 1 43 := ⟨by decide +kernel, rfl⟩
theorem e_X0_begin_43 : g_dc cX0_begin 43 (.istore_n 1) 1 44 := ⟨by decide +kernel, rfl⟩
theorem e_X0_begin_44 : g_dc cX0_begin 44 (.iload_n 1) 1 45 := ⟨by decide +kernel, rfl⟩
theorem e_X0_begin_45 : g_dc cX0_begin 45 (.bipush 6) 2 47 := ⟨by decide +kernel, rfl⟩
theorem e_X0_begin_47 : g_dc cX0_begin 47 (.if_icmp .ge 47) 3 50 := ⟨by decide +kernel, rfl⟩
theorem e_X0_begin_50 : g_dc cX0_begin 50 (.aload_n 0) 1 51 := ⟨by decide +kernel, rfl⟩
theorem e_X0_begin_51 : g_dc cX0_begin 51 (.getfield 12) 3 54 := ⟨by decide +kernel, rfl⟩
theorem e_X0_begin_54 : g_dc cX0_begin 54 (.iload_n 1) 1 55 := ⟨by decide +kernel, rfl⟩
theorem e_X0_begin_55 : g_dc cX0_begin 55 (.invokevirtual 93) 3 58 := ⟨by decide +kernel, rfl⟩
theorem e_X0_begin_58 : g_dc cX0_begin 58 (.ifCond .eq 30) 3 61 := ⟨by decide +kernel, rfl⟩
theorem e_X0_begin_61 : g_dc cX0_begin 61 (.aload_n 0) 1 62 := ⟨by decide +kernel, rfl⟩
theorem e_X0_begin_62 : g_dc cX0_begin 62 (.getfield 49) 3 65 := ⟨by decide +kernel, rfl⟩
theorem e_X0_begin_65 : g_dc cX0_begin 65 (.aload_n 0) 1 66 := ⟨by decide +kernel, rfl⟩
theorem e_X0_begin_66 : g_dc cX0_begin 66 (.getfield 52) 3 69 := ⟨by decide +kernel, rfl⟩
theorem e_X0_begin_69 : g_dc cX0_begin 69 (.aload_n 0) 1 70 := ⟨by decide +kernel, rfl⟩
theorem e_X0_begin_70 : g_dc cX0_begin 70 (.getfield 12) 3 73 := ⟨by decide +kernel, rfl⟩
theorem e_X0_begin_73 : g_dc cX0_begin 73 (.iload_n 1) 1 74 := ⟨by decide +kernel, rfl⟩
theorem e_X0_begin_74 : g_dc cX0_begin 74 (.invokevirtual 97) 3 77 := ⟨by decide +kernel, rfl⟩
theorem e_X0_begin_77 : g_dc cX0_begin 77 (.iastore) 1 78 := ⟨by decide +kernel, rfl⟩
theorem e_X0_begin_78 : g_dc cX0_begin 78 (.aload_n 0) 1 79 := ⟨by decide +kernel, rfl⟩
theorem e_X0_begin_79 : g_dc cX0_begin 79 (.dup) 1 80 := ⟨by decide +kernel, rfl⟩
theorem e_X0_begin_80 : g_dc cX0_begin 80 (.getfield 52) 3 83 := ⟨by decide +kernel, rfl⟩
theorem e_X0_begin_83 : g_dc cX0_begin 83 (.iconst 1) 1 84 := ⟨by decide +kernel, rfl⟩
theorem e_X0_begin_84 : g_dc cX0_begin 84 (.iadd) 1 85 := ⟨by decide +kernel, rfl⟩
theorem e_X0_begin_85 : g_dc cX0_begin 85 (.putfield 52) 3 88 := ⟨by decide +kernel, rfl⟩
theorem e_X0_begin_88 : g_dc cX0_begin 88 (.iinc 1 1) 3 91 := ⟨by decide +kernel, rfl⟩
theorem e_X0_begin_91 : g_dc cX0_begin 91 (.goto (-47)) 3 94 := ⟨by decide +kernel, rfl⟩
theorem e_X0_begin_94 : g_dc cX0_begin 94 (.return_) 1 95 := ⟨by decide +kernel, rfl⟩
def md_X0_begin : List Nat := [601, 603, 691, 692, 693, 694, 695, 696, 697, 698]
def mr_X0_begin : List Nat := [38, 41, 44, 45, 46]
set_option maxHeartbeats 4000000 in
set_option maxRecDepth 100000 in
theorem w_X0_begin (l : Launch) (X : gX) (ad : Nat → Nat) (F : Nat → Int32) (R : Nat → Nat → Int32) (hI : g_ok LK_wX F) (hA : g_okR LA_wX R) : g_Cv l X yX0_begin cX0_begin 2 4 0 0 [.ref (ad 37)] (wX X ad F R) (fun w => ∃ (F' : Nat → Int32) (R' : Nat → Nat → Int32), w = wX X ad F' R' ∧ g_ok LK_wX F' ∧ g_okR LA_wX R' ∧ g_fr md_X0_begin F F' ∧ g_fr mr_X0_begin R R') := by
  refine g_mv (by decide +kernel) (Nat.le_of_ble_eq_true rfl) (fun E cx hret => ?_)
  refine g_aload_n cx 0 rfl e_X0_begin_0 ?_
  refine g_get cx cl_X0 fl_X0_35 37 (.ref (ad 43)) e_X0_begin_1 rfl rfl ?_
  refine g_aload_n cx 0 rfl e_X0_begin_4 ?_
  refine g_get cx cl_X0 fl_X0_12 37 (.ref (ad 5)) e_X0_begin_5 rfl rfl ?_
  refine g_cVvW cx [.ref (ad 5)] [] (w_X4_begin_r5 l X ad F R hI hA) ml_X0_90 yV_X4_begin e_X0_begin_8 (by unfold g_rr; decide) (by decide) 43 rfl rfl rfl (Nat.le_of_ble_eq_true rfl) (fun w2 h3 => ?_)
  obtain ⟨F4, R5, rfl, oF4, oR5, cF4, cR5⟩ := h3
  have fF4 : g_fr md_X0_begin F F4 := g_fr_c (g_fr_rf F) cF4 rfl
  have fR5 : g_fr mr_X0_begin R R5 := g_fr_c (g_fr_rf R) cR5 rfl
  refine g_aload_n cx 0 rfl e_X0_begin_11 ?_
  refine g_iconst cx 0 (by decide) e_X0_begin_12 ?_
  refine g_put cx cl_X0 fl_X0_59 37 (wX X ad (upd F4 603 0) R5) e_X0_begin_13 rfl rfl rfl rfl (Nat.le_of_ble_eq_true rfl) rfl ?_
  obtain ⟨F6, hF6⟩ : ∃ z, z = upd F4 603 0 := ⟨_, rfl⟩
  rw [← hF6]
  have oF6 : g_ok LK_wX F6 := by rw [hF6]; exact g_ok_u oF4 rfl
  have fF6 : g_fr md_X0_begin F F6 := by rw [hF6]; exact g_fr_u fF4 rfl
  refine g_iconst cx 0 (by decide) e_X0_begin_16 ?_
  refine g_istore_n cx [(1, .int 0), (0, .ref (ad 37))] e_X0_begin_17 (by decide) rfl ?_
  have J18 : ∀ (N : Nat) (R8 : Nat → Nat → Int32) (y7 : Int32), (g_okR LA_wX R8) → (g_fr mr_X0_begin R R8) → (jv 0 10 y7) → (2147483647 - y7.toInt).toNat < N → G X E 2 0 0 (wX X ad F6 R8) [(0, .ref (ad 37)), (1, .int y7)] 18 [] := by
    intro N
    induction N with
    | zero => intro R8 y7 oR8 fR8 py7 hm; exact absurd hm (Nat.not_lt_zero _)
    | succ N ih18 =>
      intro R8 y7 oR8 fR8 py7 hm18
      refine g_iload_n cx 1 rfl e_X0_begin_18 ?_
      refine g_bipush cx 10 (by decide) e_X0_begin_19 ?_
      refine g_icmp_ge cx 37 e_X0_begin_21 (by decide) (fun zc9 => ?_) (fun zc9 => ?_)
      · have p10 := gn_ge 10 10 (gc_le zc9) py7 (jv_k (x := 10) 10 (by decide)) (by decide)
        refine g_aload_n cx 0 rfl e_X0_begin_37 ?_
        refine g_iconst cx 0 (by decide) e_X0_begin_38 ?_
        refine g_put cx cl_X0 fl_X0_52 37 (wX X ad (upd F6 601 0) R8) e_X0_begin_39 rfl rfl rfl rfl (Nat.le_of_ble_eq_true rfl) rfl ?_
        obtain ⟨F11, hF11⟩ : ∃ z, z = upd F6 601 0 := ⟨_, rfl⟩
        rw [← hF11]
        have oF11 : g_ok LK_wX F11 := by rw [hF11]; exact g_ok_u oF6 rfl
        have fF11 : g_fr md_X0_begin F F11 := by rw [hF11]; exact g_fr_u fF6 rfl
        refine g_iconst cx 0 (by decide) e_X0_begin_42 ?_
        refine g_istore_n cx [(1, .int 0), (0, .ref (ad 37))] e_X0_begin_43 (by decide) rfl ?_
        have J44 : ∀ (N : Nat) (F13 : Nat → Int32) (R14 : Nat → Nat → Int32) (y12 : Int32), (g_ok LK_wX F13) → (g_fr md_X0_begin F F13) → (g_okR LA_wX R14) → (g_fr mr_X0_begin R R14) → (jv 0 6 y12) → (0 ≤ (F13 601).toInt ∧ (F13 601).toInt ≤ y12.toInt) → (2147483647 - y12.toInt).toNat < N → G X E 2 0 0 (wX X ad F13 R14) [(0, .ref (ad 37)), (1, .int y12)] 44 [] := by
          intro N
          induction N with
          | zero => intro F13 R14 y12 oF13 fF13 oR14 fR14 py12 zi44_0 hm; exact absurd hm (Nat.not_lt_zero _)
          | succ N ih44 =>
            intro F13 R14 y12 oF13 fF13 oR14 fR14 py12 zi44_0 hm44
            have p15 : jv 0 6 (F13 601) := ⟨by have q0 := (jv_t (F13 601)).1; have q1 := (jv_t (F13 601)).2; have q2 := py12.1; have q3 := py12.2; have q4 := zi44_0; omega, by have q0 := (jv_t (F13 601)).1; have q1 := (jv_t (F13 601)).2; have q2 := py12.1; have q3 := py12.2; have q4 := zi44_0; omega⟩
            refine g_iload_n cx 1 rfl e_X0_begin_44 ?_
            refine g_bipush cx 6 (by decide) e_X0_begin_45 ?_
            refine g_icmp_ge cx 94 e_X0_begin_47 (by decide) (fun zc16 => ?_) (fun zc16 => ?_)
            · have p17 := gn_ge 6 6 (gc_le zc16) py12 (jv_k (x := 6) 6 (by decide)) (by decide)
              exact hret e_X0_begin_94 (Nat.le_of_ble_eq_true rfl) (Nat.le_of_ble_eq_true rfl) ⟨F13, R14, rfl, oF13, oR14, fF13, fR14⟩
            · have p18 := gn_lt 0 5 (gc_nle zc16) py12 (jv_k (x := 6) 6 (by decide)) (by decide)
              refine g_aload_n cx 0 rfl e_X0_begin_50 ?_
              refine g_get cx cl_X0 fl_X0_12 37 (.ref (ad 5)) e_X0_begin_51 rfl rfl ?_
              refine g_iload_n cx 1 rfl e_X0_begin_54 ?_
              refine g_cViW cx [.int y12] [] (w_X8_hasFold_5 l X ad F13 R14 oF13 oR14 y12) ml_X0_93 yV_X8_hasFold e_X0_begin_55 (by unfold g_rr; decide) (by decide) 5 rfl rfl rfl (Nat.le_of_ble_eq_true rfl) (fun r19 w20 h21 => ?_)
              obtain ⟨rfl, pr19⟩ := h21
              have J88 : ∀ (F22 : Nat → Int32) (R23 : Nat → Nat → Int32), (g_ok LK_wX F22) → (g_fr md_X0_begin F F22) → (g_okR LA_wX R23) → (g_fr mr_X0_begin R R23) → (0 ≤ (F22 601).toInt ∧ (F22 601).toInt ≤ y12.toInt + 1) → G X E 2 0 0 (wX X ad F22 R23) [(0, .ref (ad 37)), (1, .int y12)] 88 [] := by
                intro F22 R23 oF22 fF22 oR23 fR23 zi88_0
                have p24 : jv 0 7 (F22 601) := ⟨by have q0 := (jv_k (x := 6) 6 (by decide)).1; have q1 := (jv_k (x := 6) 6 (by decide)).2; have q2 := p15.1; have q3 := p15.2; have q4 := (jv_t (F22 601)).1; have q5 := (jv_t (F22 601)).2; have q6 := p18.1; have q7 := p18.2; have q8 := zi44_0; have q9 := (gc_nle zc16); have q10 := zi88_0; omega, by have q0 := (jv_k (x := 6) 6 (by decide)).1; have q1 := (jv_k (x := 6) 6 (by decide)).2; have q2 := p15.1; have q3 := p15.2; have q4 := (jv_t (F22 601)).1; have q5 := (jv_t (F22 601)).2; have q6 := p18.1; have q7 := p18.2; have q8 := zi44_0; have q9 := (gc_nle zc16); have q10 := zi88_0; omega⟩
                obtain ⟨x25, ex25⟩ : ∃ z : Int32, z = y12 + Int32.ofInt 1 := ⟨_, rfl⟩
                refine g_iinc cx x25 [(1, .int x25), (0, .ref (ad 37))] 1 e_X0_begin_88 rfl ex25.symm (by decide) rfl ?_
                have zx25 := jv_add 1 6 (show x25 = y12 + 1 from ex25) p18 (jv_k (x := 1) 1 (by decide)) (by decide)
                refine g_goto cx 44 e_X0_begin_91 (by decide) ?_
                refine g_lsub [1, 0] [(0, .ref (ad 37)), (1, .int x25)] rfl ?_
                exact ih44 F22 R23 x25 oF22 fF22 oR23 fR23 (jv_w zx25.2 (by decide)) (by have q0 := (jv_k (x := 1) 1 (by decide)).1; have q1 := (jv_k (x := 1) 1 (by decide)).2; have q2 := (jv_k (x := 6) 6 (by decide)).1; have q3 := (jv_k (x := 6) 6 (by decide)).2; have q4 := p15.1; have q5 := p15.2; have q6 := p24.1; have q7 := p24.2; have q8 := zx25.2.1; have q9 := zx25.2.2; have q10 := p18.1; have q11 := p18.2; have q12 := zi44_0; have q13 := (gc_nle zc16); have q14 := zi88_0; have q15 := (g_eq0 zx25.1); omega) (Nat.lt_of_lt_of_le (show (2147483647 - x25.toInt).toNat < (2147483647 - y12.toInt).toNat from by have q0 := (jv_k (x := 1) 1 (by decide)).1; have q1 := (jv_k (x := 1) 1 (by decide)).2; have q2 := (jv_k (x := 6) 6 (by decide)).1; have q3 := (jv_k (x := 6) 6 (by decide)).2; have q4 := p15.1; have q5 := p15.2; have q6 := p24.1; have q7 := p24.2; have q8 := zx25.2.1; have q9 := zx25.2.2; have q10 := p18.1; have q11 := p18.2; have q12 := zi44_0; have q13 := (gc_nle zc16); have q14 := zi88_0; have q15 := (g_eq0 zx25.1); omega) (Nat.le_of_lt_succ hm44))
              refine g_if_eq cx 88 e_X0_begin_58 (by decide) (fun zc26 => ?_) (fun zc26 => ?_)
              · have p27 := gn_eq 0 0 (gc_eq zc26) pr19 (jv_k (x := 0) 0 (by decide)) (by decide)
                exact J88 F13 R14 oF13 fF13 oR14 fR14 (by have q0 := (jv_k (x := 6) 6 (by decide)).1; have q1 := (jv_k (x := 6) 6 (by decide)).2; have q2 := p15.1; have q3 := p15.2; have q4 := p18.1; have q5 := p18.2; have q6 := zi44_0; have q7 := (gc_nle zc16); omega)
              · have p28 := gn_neL 1 1 (gc_ne zc26) pr19 (jv_k (x := 0) 0 (by decide)) (by decide)
                refine g_aload_n cx 0 rfl e_X0_begin_61 ?_
                refine g_get cx cl_X0 fl_X0_49 37 (.ref (ad 41)) e_X0_begin_62 rfl rfl ?_
                refine g_aload_n cx 0 rfl e_X0_begin_65 ?_
                refine g_get cx cl_X0 fl_X0_52 37 (.int (F13 601)) e_X0_begin_66 rfl rfl ?_
                refine g_aload_n cx 0 rfl e_X0_begin_69 ?_
                refine g_get cx cl_X0 fl_X0_12 37 (.ref (ad 5)) e_X0_begin_70 rfl rfl ?_
                refine g_iload_n cx 1 rfl e_X0_begin_73 ?_
                refine g_cViW cx [.int y12] [.int (F13 601), .ref (ad 41)] (w_X8_foldPlace_5 l X ad F13 R14 oF13 oR14 y12) ml_X0_97 yV_X8_foldPlace e_X0_begin_74 (by unfold g_rr; decide) (by decide) 5 rfl rfl rfl (Nat.le_of_ble_eq_true rfl) (fun r29 w30 h31 => ?_)
                obtain ⟨rfl, pr29⟩ := h31
                refine g_iast cx 41 (wX X ad F13 (g_u R14 41 (upd (R14 41) (Int32.toNatClampNeg (F13 601)) r29))) e_X0_begin_77 rfl (vp_in_iff.mpr ⟨by have q0 := (jv_k (x := 6) 6 (by decide)).1; have q1 := (jv_k (x := 6) 6 (by decide)).2; have q2 := p15.1; have q3 := p15.2; have q4 := p18.1; have q5 := p18.2; have q6 := zi44_0; have q7 := (gc_nle zc16); omega, by have q0 := (jv_k (x := 6) 6 (by decide)).1; have q1 := (jv_k (x := 6) 6 (by decide)).2; have q2 := p15.1; have q3 := p15.2; have q4 := p18.1; have q5 := p18.2; have q6 := zi44_0; have q7 := (gc_nle zc16); omega⟩) rfl ?_
                obtain ⟨R32, hR32⟩ : ∃ z, z = g_u R14 41 (upd (R14 41) (Int32.toNatClampNeg (F13 601)) r29) := ⟨_, rfl⟩
                rw [← hR32]
                have oR32 : g_okR LA_wX R32 := by rw [hR32]; exact g_okR_u oR14 rfl
                have fR32 : g_fr mr_X0_begin R R32 := by rw [hR32]; exact g_fr_r fR14 rfl
                refine g_aload_n cx 0 rfl e_X0_begin_78 ?_
                refine g_dup cx rfl e_X0_begin_79 ?_
                refine g_get cx cl_X0 fl_X0_52 37 (.int (F13 601)) e_X0_begin_80 rfl rfl ?_
                refine g_iconst cx 1 (by decide) e_X0_begin_83 ?_
                refine g_iadd cx e_X0_begin_84 ?_
                refine g_topi (fun x33 ex33 => ?_)
                have zx33 := jv_add 1 7 ex33 p15 (jv_k (x := 1) 1 (by decide)) (by decide)
                refine g_put cx cl_X0 fl_X0_52 37 (wX X ad (upd F13 601 x33) R32) e_X0_begin_85 rfl rfl rfl rfl (Nat.le_of_ble_eq_true rfl) rfl ?_
                obtain ⟨F34, hF34⟩ : ∃ z, z = upd F13 601 x33 := ⟨_, rfl⟩
                rw [← hF34]
                have oF34 : g_ok LK_wX F34 := by rw [hF34]; exact g_ok_u oF13 rfl
                have fF34 : g_fr md_X0_begin F F34 := by rw [hF34]; exact g_fr_u fF13 rfl
                exact J88 F34 R32 oF34 fF34 oR32 fR32 (by have q0 := (jv_k (x := 1) 1 (by decide)).1; have q1 := (jv_k (x := 1) 1 (by decide)).2; have q2 := (jv_k (x := 6) 6 (by decide)).1; have q3 := (jv_k (x := 6) 6 (by decide)).2; have q4 := p15.1; have q5 := p15.2; have q6 := (jv_t (F34 601)).1; have q7 := (jv_t (F34 601)).2; have q8 := zx33.2.1; have q9 := zx33.2.2; have q10 := p18.1; have q11 := p18.2; have q12 := zi44_0; have q13 := (gc_nle zc16); have q14 := (g_eq0 zx33.1); have q15 := (congrArg Int32.toInt (show F34 601 = x33 from (g_pu1 hF34))); omega)
        refine g_lsub [1, 0] [(0, .ref (ad 37)), (1, .int 0)] rfl ?_
        exact J44 _ F11 R8 0 oF11 fF11 oR8 fR8 (jv_w (jv_k (x := 0) 0 (by decide)) (by decide)) (by have q0 := (jv_k (x := 0) 0 (by decide)).1; have q1 := (jv_k (x := 0) 0 (by decide)).2; have q2 := (jv_t (F11 601)).1; have q3 := (jv_t (F11 601)).2; have q4 := (congrArg Int32.toInt (show F11 601 = 0 from (g_pu1 hF11))); omega) (Nat.lt_succ_self _)
      · have p35 := gn_lt 0 9 (gc_nle zc9) py7 (jv_k (x := 10) 10 (by decide)) (by decide)
        refine g_aload_n cx 0 rfl e_X0_begin_24 ?_
        refine g_get cx cl_X0 fl_X0_39 37 (.ref (ad 38)) e_X0_begin_25 rfl rfl ?_
        refine g_iload_n cx 1 rfl e_X0_begin_28 ?_
        refine g_iconst cx 0 (by decide) e_X0_begin_29 ?_
        refine g_iast cx 38 (wX X ad F6 (g_u R8 38 (upd (R8 38) (Int32.toNatClampNeg y7) 0))) e_X0_begin_30 rfl (jv_ix 10 p35 (by decide)) rfl ?_
        obtain ⟨R36, hR36⟩ : ∃ z, z = g_u R8 38 (upd (R8 38) (Int32.toNatClampNeg y7) 0) := ⟨_, rfl⟩
        rw [← hR36]
        have oR36 : g_okR LA_wX R36 := by rw [hR36]; exact g_okR_u oR8 rfl
        have fR36 : g_fr mr_X0_begin R R36 := by rw [hR36]; exact g_fr_r fR8 rfl
        obtain ⟨x37, ex37⟩ : ∃ z : Int32, z = y7 + Int32.ofInt 1 := ⟨_, rfl⟩
        refine g_iinc cx x37 [(1, .int x37), (0, .ref (ad 37))] 1 e_X0_begin_31 rfl ex37.symm (by decide) rfl ?_
        have zx37 := jv_add 1 10 (show x37 = y7 + 1 from ex37) p35 (jv_k (x := 1) 1 (by decide)) (by decide)
        refine g_goto cx 18 e_X0_begin_34 (by decide) ?_
        refine g_lsub [1, 0] [(0, .ref (ad 37)), (1, .int x37)] rfl ?_
        exact ih18 R36 x37 oR36 fR36 (jv_w zx37.2 (by decide)) (Nat.lt_of_lt_of_le (show (2147483647 - x37.toInt).toNat < (2147483647 - y7.toInt).toNat from by have q0 := (jv_k (x := 1) 1 (by decide)).1; have q1 := (jv_k (x := 1) 1 (by decide)).2; have q2 := (jv_k (x := 10) 10 (by decide)).1; have q3 := (jv_k (x := 10) 10 (by decide)).2; have q4 := zx37.2.1; have q5 := zx37.2.2; have q6 := p35.1; have q7 := p35.2; have q8 := (gc_nle zc9); have q9 := (g_eq0 zx37.1); omega) (Nat.le_of_lt_succ hm18))
  refine g_lsub [1, 0] [(0, .ref (ad 37)), (1, .int 0)] rfl ?_
  exact J18 _ R5 0 oR5 fR5 (jv_w (jv_k (x := 0) 0 (by decide)) (by decide)) (Nat.lt_succ_self _)
set_option maxHeartbeats 4000000 in
set_option maxRecDepth 100000 in
theorem w_X5_paceAt_15 (l : Launch) (X : gX) (ad : Nat → Nat) (F : Nat → Int32) (R : Nat → Nat → Int32) (hI : g_ok LK_wX F) (hA : g_okR LA_wX R) (a0 : Int32) : g_Ci l X yX5_paceAt cX5_paceAt 2 (some .int) 1 0 0 [.ref (ad 15), .int a0] (wX X ad F R) (fun r w => w = wX X ad F R ∧ jv (-2147483648) 2147483647 r) := by
  refine g_mi (by decide +kernel) (Nat.le_of_ble_eq_true rfl) (fun E cx hret => ?_)
  refine g_iload_n cx 1 rfl e_X5_paceAt_0 ?_
  have J28 : ∀ (y1 : Int32), (jv (-2147483648) 2147483647 y1) → G X E 2 0 0 (wX X ad F R) [] 28 [.int y1] := by
    intro y1 py1
    exact hret e_X5_paceAt_28 (Nat.le_of_ble_eq_true rfl) (Nat.le_of_ble_eq_true rfl) rfl ⟨rfl, py1⟩
  have J27 : G X E 2 0 0 (wX X ad F R) [] 27 [] := by
    refine g_iconst cx 0 (by decide) e_X5_paceAt_27 ?_
    exact J28 0 (jv_w (jv_k (x := 0) 0 (by decide)) (by decide))
  refine g_if_lt cx 27 e_X5_paceAt_1 (by decide) (fun zc2 => ?_) (fun zc2 => ?_)
  · have p3 := gn_lt (-2147483648) (-1) (gc_lt zc2) (jv_t a0) (jv_k (x := 0) 0 (by decide)) (by decide)
    refine g_lsub [] [] rfl ?_
    exact J27  
  · have p4 := gn_ge 0 2147483647 (gc_nlt zc2) (jv_t a0) (jv_k (x := 0) 0 (by decide)) (by decide)
    refine g_iload_n cx 1 rfl e_X5_paceAt_4 ?_
    refine g_aload_n cx 0 rfl e_X5_paceAt_5 ?_
    refine g_get cx cl_X5 fl_X5_15 15 (.int (F 241)) e_X5_paceAt_6 rfl rfl ?_
    refine g_icmp_ge cx 27 e_X5_paceAt_9 (by decide) (fun zc5 => ?_) (fun zc5 => ?_)
    · refine g_lsub [] [] rfl ?_
      exact J27  
    · have p6 := gn_lt 0 59 (gc_nle zc5) p4 (g_ok_g hI 4 rfl) (by decide)
      have p7 := gn_gt 1 60 (gc_nle zc5) (g_ok_g hI 4 rfl) p4 (by decide)
      refine g_iload_n cx 1 rfl e_X5_paceAt_12 ?_
      refine g_bipush cx 60 (by decide) e_X5_paceAt_13 ?_
      refine g_icmp_ge cx 27 e_X5_paceAt_15 (by decide) (fun zc8 => ?_) (fun zc8 => ?_)
      · exact (gf_le (gc_le zc8) (jv_k (x := 60) 60 (by decide)) p6 (by decide)).elim
      · refine g_aload_n cx 0 rfl e_X5_paceAt_18 ?_
        refine g_get cx cl_X5 fl_X5_9 15 (.ref (ad 16)) e_X5_paceAt_19 rfl rfl ?_
        refine g_iload_n cx 1 rfl e_X5_paceAt_22 ?_
        refine g_iald cx 16 e_X5_paceAt_23 rfl (jv_ix 60 p6 (by decide)) ?_
        refine g_topi (fun x9 ex9 => ?_)
        refine g_goto cx 28 e_X5_paceAt_24 (by decide) ?_
        refine g_lsub [] [] rfl ?_
        exact J28 x9 (jv_t x9)
theorem e_X0_pullCloth_0 : g_dc cX0_pullCloth 0 (.aload_n 0) 1 1 := ⟨by decide +kernel, rfl⟩
theorem e_X0_pullCloth_1 : g_dc cX0_pullCloth 1 (.getfield 21) 3 4 := ⟨by decide +kernel, rfl⟩
theorem e_X0_pullCloth_4 : g_dc cX0_pullCloth 4 (.iload_n 1) 1 5 := ⟨by decide +kernel, rfl⟩
theorem e_X0_pullCloth_5 : g_dc cX0_pullCloth 5 (.invokevirtual 135) 3 8 := ⟨by decide +kernel, rfl⟩
theorem e_X0_pullCloth_8 : g_dc cX0_pullCloth 8 (.istore_n 2) 1 9 := ⟨by decide +kernel, rfl⟩
theorem e_X0_pullCloth_9 : g_dc cX0_pullCloth 9 (.iload_n 1) 1 10 := ⟨by decide +kernel, rfl⟩
theorem e_X0_pullCloth_10 : g_dc cX0_pullCloth 10 (.aload_n 0) 1 11 := ⟨by decide +kernel, rfl⟩
theorem e_X0_pullCloth_11 : g_dc cX0_pullCloth 11 (.getfield 21) 3 14 := ⟨by decide +kernel, rfl⟩
theorem e_X0_pullCloth_14 : g_dc cX0_pullCloth 14 (.getfield 78) 3 17 := ⟨by decide +kernel, rfl⟩
theorem e_X0_pullCloth_17 : g_dc cX0_pullCloth 17 (.if_icmp .ge 14) 3 20 := ⟨by decide +kernel, rfl⟩
theorem e_X0_pullCloth_20 : g_dc cX0_pullCloth 20 (.aload_n 0) 1 21 := ⟨by decide +kernel, rfl⟩
theorem e_X0_pullCloth_21 : g_dc cX0_pullCloth 21 (.getfield 28) 3 24 := ⟨by decide +kernel, rfl⟩
theorem e_X0_pullCloth_24 : g_dc cX0_pullCloth 24 (.iload_n 1) 1 25 := ⟨by decide +kernel, rfl⟩
theorem e_X0_pullCloth_25 : g_dc cX0_pullCloth 25 (.invokevirtual 138) 3 28 := ⟨by decide +kernel, rfl⟩
theorem e_X0_pullCloth_28 : g_dc cX0_pullCloth 28 (.goto 4) 3 31 := ⟨by decide +kernel, rfl⟩
theorem e_X0_pullCloth_31 : g_dc cX0_pullCloth 31 (.iconst (-1)) 1 32 := ⟨by decide +kernel, rfl⟩
theorem e_X0_pullCloth_32 : g_dc cX0_pullCloth 32 (.istore_n 3) 1 33 := ⟨by decide +kernel, rfl⟩
theorem e_X0_pullCloth_33 : g_dc cX0_pullCloth 33 (.iconst 0) 1 34 := ⟨by decide +kernel, rfl⟩
theorem e_X0_pullCloth_34 : g_dc cX0_pullCloth 34 (.istore 4) 2 36 := ⟨by decide +kernel, rfl⟩
theorem e_X0_pullCloth_36 : g_dc cX0_pullCloth 36 (.aload_n 0) 1 37 := ⟨by decide +kernel, rfl⟩
theorem e_X0_pullCloth_37 : g_dc cX0_pullCloth 37 (.getfield 71) 3 40 := ⟨by decide +kernel, rfl⟩
theorem e_X0_pullCloth_40 : g_dc cX0_pullCloth 40 (.invokevirtual 141) 3 43 := ⟨by decide +kernel, rfl⟩
theorem e_X0_pullCloth_43 : g_dc cX0_pullCloth 43 (.aload_n 0) 1 44 := ⟨by decide +kernel, rfl⟩
theorem e_X0_pullCloth_44 : g_dc cX0_pullCloth 44 (.getfield 71) 3 47 := ⟨by decide +kernel, rfl⟩
theorem e_X0_pullCloth_47 : g_dc cX0_pullCloth 47 (.getfield 146) 3 50 := ⟨by decide +kernel, rfl⟩
theorem e_X0_pullCloth_50 : g_dc cX0_pullCloth 50 (.iconst 0) 1 51 := ⟨by decide +kernel, rfl⟩
theorem e_X0_pullCloth_51 : g_dc cX0_pullCloth 51 (.iload_n 1) 1 52 := ⟨by decide +kernel, rfl⟩
theorem e_X0_pullCloth_52 : g_dc cX0_pullCloth 52 (.iastore) 1 53 := ⟨by decide +kernel, rfl⟩
theorem e_X0_pullCloth_53 : g_dc cX0_pullCloth 53 (.aload_n 0) 1 54 := ⟨by decide +kernel, rfl⟩
theorem e_X0_pullCloth_54 : g_dc cX0_pullCloth 54 (.getfield 71) 3 57 := ⟨by decide +kernel, rfl⟩
theorem e_X0_pullCloth_57 : g_dc cX0_pullCloth 57 (.getfield 146) 3 60 := ⟨by decide +kernel, rfl⟩
theorem e_X0_pullCloth_60 : g_dc cX0_pullCloth 60 (.iconst 1) 1 61 := ⟨by decide +kernel, rfl⟩
theorem e_X0_pullCloth_61 : g_dc cX0_pullCloth 61 (.iload_n 2) 1 62 := ⟨by decide +kernel, rfl⟩
theorem e_X0_pullCloth_62 : g_dc cX0_pullCloth 62 (.iastore) 1 63 := ⟨by decide +kernel, rfl⟩
theorem e_X0_pullCloth_63 : g_dc cX0_pullCloth 63 (.iload_n 3) 1 64 := ⟨by decide +kernel, rfl⟩
theorem e_X0_pullCloth_64 : g_dc cX0_pullCloth 64 (.iconst (-1)) 1 65 := ⟨by decide +kernel, rfl⟩
theorem e_X0_pullCloth_65 : g_dc cX0_pullCloth 65 (.if_icmp .eq 33) 3 68 := ⟨by decide +kernel, rfl⟩
theorem e_X0_pullCloth_68 : g_dc cX0_pullCloth 68 (.aload_n 0) 1 69 := ⟨by decide +kernel, rfl⟩
theorem e_X0_pullCloth_69 : g_dc cX0_pullCloth 69 (.getfield 71) 3 72 := ⟨by decide +kernel, rfl⟩
theorem e_X0_pullCloth_72 : g_dc cX0_pullCloth 72 (.getfield 146) 3 75 := ⟨by decide +kernel, rfl⟩
theorem e_X0_pullCloth_75 : g_dc cX0_pullCloth 75 (.iconst 2) 1 76 := ⟨by decide +kernel, rfl⟩
theorem e_X0_pullCloth_76 : g_dc cX0_pullCloth 76 (.iload_n 3) 1 77 := ⟨by decide +kernel, rfl⟩
theorem e_X0_pullCloth_77 : g_dc cX0_pullCloth 77 (.iastore) 1 78 := ⟨by decide +kernel, rfl⟩
theorem e_X0_pullCloth_78 : g_dc cX0_pullCloth 78 (.aload_n 0) 1 79 := ⟨by decide +kernel, rfl⟩
theorem e_X0_pullCloth_79 : g_dc cX0_pullCloth 79 (.getfield 71) 3 82 := ⟨by decide +kernel, rfl⟩
theorem e_X0_pullCloth_82 : g_dc cX0_pullCloth 82 (.iconst 2) 1 83 := ⟨by decide +kernel, rfl⟩
theorem e_X0_pullCloth_83 : g_dc cX0_pullCloth 83 (.invokevirtual 149) 3 86 := ⟨by decide +kernel, rfl⟩
theorem e_X0_pullCloth_86 : g_dc cX0_pullCloth 86 (.istore 4) 2 88 := ⟨by decide +kernel, rfl⟩
theorem e_X0_pullCloth_88 : g_dc cX0_pullCloth 88 (.aload_n 0) 1 89 := ⟨by decide +kernel, rfl⟩
theorem e_X0_pullCloth_89 : g_dc cX0_pullCloth 89 (.getfield 71) 3 92 := ⟨by decide +kernel, rfl⟩
theorem e_X0_pullCloth_92 : g_dc cX0_pullCloth 92 (.getfield 146) 3 95 := ⟨by decide +kernel, rfl⟩
theorem e_X0_pullCloth_95 : g_dc cX0_pullCloth 95 (.iconst 2) 1 96 := ⟨by decide +kernel, rfl⟩
theorem e_X0_pullCloth_96 : g_dc cX0_pullCloth 96 (.iconst 0) 1 97 := ⟨by decide +kernel, rfl⟩
theorem e_X0_pullCloth_97 : g_dc cX0_pullCloth 97 (.iastore) 1 98 := ⟨by decide +kernel, rfl⟩
theorem e_X0_pullCloth_98 : g_dc cX0_pullCloth 98 (.aload_n 0) 1 99 := ⟨by decide +kernel, rfl⟩
theorem e_X0_pullCloth_99 : g_dc cX0_pullCloth 99 (.iconst 0) 1 100 := ⟨by decide +kernel, rfl⟩
theorem e_X0_pullCloth_100 : g_dc cX0_pullCloth 100 (.iload_n 2) 1 101 := ⟨by decide +kernel, rfl⟩
theorem e_X0_pullCloth_101 : g_dc cX0_pullCloth 101 (.iload 4) 2 103 := ⟨by decide +kernel, rfl⟩
theorem e_X0_pullCloth_103 : g_dc cX0_pullCloth 103 (.isub) 1 104 := ⟨by decide +kernel, rfl⟩
theorem e_X0_pullCloth_104 : g_dc cX0_pullCloth 104 (.invokestatic 152) 3 107 := ⟨by decide +kernel, rfl⟩
theorem e_X0_pullCloth_107 : g_dc cX0_pullCloth 107 (.putfield 62) 3 110 := ⟨by decide +kernel, rfl⟩
theorem e_X0_pullCloth_110 : g_dc cX0_pullCloth 110 (.aload_n 0) 1 111 := ⟨by decide +kernel, rfl⟩
theorem e_X0_pullCloth_111 : g_dc cX0_pullCloth 111 (.dup) 1 112 := ⟨by decide +kernel, rfl⟩
theorem e_X0_pullCloth_112 : g_dc cX0_pullCloth 112 (.getfield 59) 3 115 := ⟨by decide +kernel, rfl⟩
theorem e_X0_pullCloth_115 : g_dc cX0_pullCloth 115 (.aload_n 0) 1 116 := ⟨by decide +kernel, rfl⟩
theorem e_X0_pullCloth_116 : g_dc cX0_pullCloth 116 (.getfield 62) 3 119 := ⟨by decide +kernel, rfl⟩
theorem e_X0_pullCloth_119 : g_dc cX0_pullCloth 119 (.iadd) 1 120 := ⟨by decide +kernel, rfl⟩
theorem e_X0_pullCloth_120 : g_dc cX0_pullCloth 120 (.putfield 59) 3 123 := ⟨by decide +kernel, rfl⟩
theorem e_X0_pullCloth_123 : g_dc cX0_pullCloth 123 (.aload_n 0) 1 124 := ⟨by decide +kernel, rfl⟩
theorem e_X0_pullCloth_124 : g_dc cX0_pullCloth 124 (.getfield 35) 3 127 := ⟨by decide +kernel, rfl⟩
theorem e_X0_pullCloth_127 : g_dc cX0_pullCloth 127 (.iconst 0) 1 128 := ⟨by decide +kernel, rfl⟩
theorem e_X0_pullCloth_128 : g_dc cX0_pullCloth 128 (.aload_n 0) 1 129 := ⟨by decide +kernel, rfl⟩
theorem e_X0_pullCloth_129 : g_dc cX0_pullCloth 129 (.getfield 35) 3 132 := ⟨by decide +kernel, rfl⟩
theorem e_X0_pullCloth_132 : g_dc cX0_pullCloth 132 (.getfield 156) 3 135 := ⟨by decide +kernel, rfl⟩
theorem e_X0_pullCloth_135 : g_dc cX0_pullCloth 135 (.aload_n 0) 1 136 := ⟨by decide +kernel, rfl⟩
theorem e_X0_pullCloth_136 : g_dc cX0_pullCloth 136 (.getfield 62) 3 139 := ⟨by decide +kernel, rfl⟩
theorem e_X0_pullCloth_139 : g_dc cX0_pullCloth 139 (.isub) 1 140 := ⟨by decide +kernel, rfl⟩
theorem e_X0_pullCloth_140 : g_dc cX0_pullCloth 140 (.invokestatic 152) 3 143 := ⟨by decide +kernel, rfl⟩
theorem e_X0_pullCloth_143 : g_dc cX0_pullCloth 143 (.putfield 156) 3 146 := ⟨by decide +kernel, rfl⟩
theorem e_X0_pullCloth_146 : g_dc cX0_pullCloth 146 (.return_) 1 147 := ⟨by decide +kernel, rfl⟩
def md_X0_pullCloth : List Nat := [603, 604, 673, 675, 698]
def mr_X0_pullCloth : List Nat := [23, 24]
set_option maxHeartbeats 4000000 in
set_option maxRecDepth 100000 in
theorem w_X0_pullCloth (l : Launch) (X : gX) (ad : Nat → Nat) (F : Nat → Int32) (R : Nat → Nat → Int32) (hI : g_ok LK_wX F) (hA : g_okR LA_wX R) (a0 : Int32) : g_Cv l X yX0_pullCloth cX0_pullCloth 5 4 0 0 [.ref (ad 37), .int a0] (wX X ad F R) (fun w => ∃ (F' : Nat → Int32) (R' : Nat → Nat → Int32), w = wX X ad F' R' ∧ g_ok LK_wX F' ∧ g_okR LA_wX R' ∧ g_fr md_X0_pullCloth F F' ∧ g_fr mr_X0_pullCloth R R') := by
  refine g_mv (by decide +kernel) (Nat.le_of_ble_eq_true rfl) (fun E cx hret => ?_)
  refine g_aload_n cx 0 rfl e_X0_pullCloth_0 ?_
  refine g_get cx cl_X0 fl_X0_21 37 (.ref (ad 15)) e_X0_pullCloth_1 rfl rfl ?_
  refine g_iload_n cx 1 rfl e_X0_pullCloth_4 ?_
  refine g_cViW cx [.int a0] [] (w_X5_paceAt_15 l X ad F R hI hA a0) ml_X0_135 yV_X5_paceAt e_X0_pullCloth_5 (by unfold g_rr; decide) (by decide) 15 rfl rfl rfl (Nat.le_of_ble_eq_true rfl) (fun r1 w2 h3 => ?_)
  obtain ⟨rfl, pr1⟩ := h3
  refine g_istore_n cx [(2, .int r1), (0, .ref (ad 37)), (1, .int a0)] e_X0_pullCloth_8 (by decide) rfl ?_
  refine g_iload_n cx 2 rfl e_X0_pullCloth_9 ?_
  refine g_aload_n cx 1 rfl e_X0_pullCloth_10 ?_
  refine g_get cx cl_X0 fl_X0_21 37 (.ref (ad 15)) e_X0_pullCloth_11 rfl rfl ?_
  refine g_getN cx cl_X5 fn_X0_78 15 (.int (F 241)) e_X0_pullCloth_14 rfl rfl ?_
  have J32 : ∀ (F5 : Nat → Int32) (R6 : Nat → Nat → Int32) (y4 : Int32), (g_ok LK_wX F5) → (g_fr md_X0_pullCloth F F5) → (g_okR LA_wX R6) → (g_fr mr_X0_pullCloth R R6) → (jv (-2147483648) 2147483647 y4) → G X E 5 0 0 (wX X ad F5 R6) [(0, .ref (ad 37)), (1, .int a0), (2, .int r1)] 32 [.int y4] := by
    intro F5 R6 y4 oF5 fF5 oR6 fR6 py4
    refine g_istore_n cx [(3, .int y4), (0, .ref (ad 37)), (1, .int a0), (2, .int r1)] e_X0_pullCloth_32 (by decide) rfl ?_
    refine g_iconst cx 0 (by decide) e_X0_pullCloth_33 ?_
    refine g_istore cx [(4, .int 0), (3, .int y4), (0, .ref (ad 37)), (1, .int a0), (2, .int r1)] e_X0_pullCloth_34 (by decide) rfl ?_
    refine g_aload_n cx 2 rfl e_X0_pullCloth_36 ?_
    refine g_get cx cl_X0 fl_X0_71 37 (.ref (ad 17)) e_X0_pullCloth_37 rfl rfl ?_
    refine g_cVvW cx [] [] (w_X2_forget_17 l X ad F5 R6 oF5 oR6) ml_X0_141 yV_X2_forget e_X0_pullCloth_40 (by unfold g_rr; decide) (by decide) 17 rfl rfl rfl (Nat.le_of_ble_eq_true rfl) (fun w8 h9 => ?_)
    obtain ⟨F10, R11, rfl, oF10, oR11, cF10, cR11⟩ := h9
    have fF10 : g_fr md_X0_pullCloth F F10 := g_fr_c fF5 cF10 rfl
    have fR11 : g_fr mr_X0_pullCloth R R11 := g_fr_c fR6 cR11 rfl
    refine g_aload_n cx 2 rfl e_X0_pullCloth_43 ?_
    refine g_get cx cl_X0 fl_X0_71 37 (.ref (ad 17)) e_X0_pullCloth_44 rfl rfl ?_
    refine g_getN cx cl_X2 fn_X0_146 17 (.ref (ad 23)) e_X0_pullCloth_47 rfl rfl ?_
    refine g_iconst cx 0 (by decide) e_X0_pullCloth_50 ?_
    refine g_iload_n cx 3 rfl e_X0_pullCloth_51 ?_
    refine g_iast cx 23 (wX X ad F10 (g_u R11 23 (upd (R11 23) 0 a0))) e_X0_pullCloth_52 rfl (jv_ix 12 (jv_k (x := 0) 0 (by decide)) (by decide)) rfl ?_
    obtain ⟨R12, hR12⟩ : ∃ z, z = g_u R11 23 (upd (R11 23) 0 a0) := ⟨_, rfl⟩
    rw [← hR12]
    have oR12 : g_okR LA_wX R12 := by rw [hR12]; exact g_okR_u oR11 rfl
    have fR12 : g_fr mr_X0_pullCloth R R12 := by rw [hR12]; exact g_fr_r fR11 rfl
    refine g_aload_n cx 2 rfl e_X0_pullCloth_53 ?_
    refine g_get cx cl_X0 fl_X0_71 37 (.ref (ad 17)) e_X0_pullCloth_54 rfl rfl ?_
    refine g_getN cx cl_X2 fn_X0_146 17 (.ref (ad 23)) e_X0_pullCloth_57 rfl rfl ?_
    refine g_iconst cx 1 (by decide) e_X0_pullCloth_60 ?_
    refine g_iload_n cx 4 rfl e_X0_pullCloth_61 ?_
    refine g_iast cx 23 (wX X ad F10 (g_u R12 23 (upd (R12 23) 1 r1))) e_X0_pullCloth_62 rfl (jv_ix 12 (jv_k (x := 1) 1 (by decide)) (by decide)) rfl ?_
    obtain ⟨R13, hR13⟩ : ∃ z, z = g_u R12 23 (upd (R12 23) 1 r1) := ⟨_, rfl⟩
    rw [← hR13]
    have oR13 : g_okR LA_wX R13 := by rw [hR13]; exact g_okR_u oR12 rfl
    have fR13 : g_fr mr_X0_pullCloth R R13 := by rw [hR13]; exact g_fr_r fR12 rfl
    refine g_iload_n cx 1 rfl e_X0_pullCloth_63 ?_
    refine g_iconst cx (-1) (by decide) e_X0_pullCloth_64 ?_
    have J98 : ∀ (F15 : Nat → Int32) (R16 : Nat → Nat → Int32) (y14 : Int32), (g_ok LK_wX F15) → (g_fr md_X0_pullCloth F F15) → (g_okR LA_wX R16) → (g_fr mr_X0_pullCloth R R16) → (jv 0 2147483647 y14) → G X E 5 0 0 (wX X ad F15 R16) [(0, .ref (ad 37)), (2, .int r1), (4, .int y14)] 98 [] := by
      intro F15 R16 y14 oF15 fF15 oR16 fR16 py14
      refine g_aload_n cx 0 rfl e_X0_pullCloth_98 ?_
      refine g_iconst cx 0 (by decide) e_X0_pullCloth_99 ?_
      refine g_iload_n cx 1 rfl e_X0_pullCloth_100 ?_
      refine g_iload cx 2 rfl e_X0_pullCloth_101 ?_
      refine g_isub cx e_X0_pullCloth_103 ?_
      refine g_topi (fun x17 ex17 => ?_)
      refine g_mmax cx ml_X0_152 e_X0_pullCloth_104 ⟨Nat.le_of_ble_eq_true rfl, Nat.le_of_ble_eq_true rfl⟩ (by decide) ?_
      refine g_topi (fun x18 ex18 => ?_)
      have px18 := jv_max 0 2147483647 ex18 (jv_k (x := 0) 0 (by decide)) (jv_t x17) (by decide)
      refine g_put cx cl_X0 fl_X0_62 37 (wX X ad (upd F15 604 x18) R16) e_X0_pullCloth_107 rfl rfl rfl rfl (Nat.le_of_ble_eq_true rfl) rfl ?_
      obtain ⟨F19, hF19⟩ : ∃ z, z = upd F15 604 x18 := ⟨_, rfl⟩
      rw [← hF19]
      have oF19 : g_ok LK_wX F19 := by rw [hF19]; exact g_ok_u oF15 rfl
      have fF19 : g_fr md_X0_pullCloth F F19 := by rw [hF19]; exact g_fr_u fF15 rfl
      refine g_aload_n cx 0 rfl e_X0_pullCloth_110 ?_
      refine g_dup cx rfl e_X0_pullCloth_111 ?_
      refine g_get cx cl_X0 fl_X0_59 37 (.int (F19 603)) e_X0_pullCloth_112 rfl rfl ?_
      refine g_toi (F15 603) (g_pu2 hF19 rfl) ?_
      refine g_aload_n cx 0 rfl e_X0_pullCloth_115 ?_
      refine g_get cx cl_X0 fl_X0_62 37 (.int (F19 604)) e_X0_pullCloth_116 rfl rfl ?_
      refine g_toi x18 (g_pu1 hF19) ?_
      refine g_iadd cx e_X0_pullCloth_119 ?_
      refine g_topi (fun x20 ex20 => ?_)
      refine g_put cx cl_X0 fl_X0_59 37 (wX X ad (upd F19 603 x20) R16) e_X0_pullCloth_120 rfl rfl rfl rfl (Nat.le_of_ble_eq_true rfl) rfl ?_
      obtain ⟨F21, hF21⟩ : ∃ z, z = upd F19 603 x20 := ⟨_, rfl⟩
      rw [← hF21]
      have oF21 : g_ok LK_wX F21 := by rw [hF21]; exact g_ok_u oF19 rfl
      have fF21 : g_fr md_X0_pullCloth F F21 := by rw [hF21]; exact g_fr_u fF19 rfl
      refine g_aload_n cx 0 rfl e_X0_pullCloth_123 ?_
      refine g_get cx cl_X0 fl_X0_35 37 (.ref (ad 43)) e_X0_pullCloth_124 rfl rfl ?_
      refine g_iconst cx 0 (by decide) e_X0_pullCloth_127 ?_
      refine g_aload_n cx 0 rfl e_X0_pullCloth_128 ?_
      refine g_get cx cl_X0 fl_X0_35 37 (.ref (ad 43)) e_X0_pullCloth_129 rfl rfl ?_
      refine g_getN cx cl_X4 fn_X0_156 43 (.int (F21 698)) e_X0_pullCloth_132 rfl rfl ?_
      refine g_toi (F15 698) ((g_pu2 hF21 rfl).trans (g_pu2 hF19 rfl)) ?_
      refine g_aload_n cx 0 rfl e_X0_pullCloth_135 ?_
      refine g_get cx cl_X0 fl_X0_62 37 (.int (F21 604)) e_X0_pullCloth_136 rfl rfl ?_
      refine g_toi x18 ((g_pu2 hF21 rfl).trans (g_pu1 hF19)) ?_
      refine g_isub cx e_X0_pullCloth_139 ?_
      refine g_topi (fun x22 ex22 => ?_)
      refine g_mmax cx ml_X0_152 e_X0_pullCloth_140 ⟨Nat.le_of_ble_eq_true rfl, Nat.le_of_ble_eq_true rfl⟩ (by decide) ?_
      refine g_topi (fun x23 ex23 => ?_)
      have px23 := jv_max 0 2147483647 ex23 (jv_k (x := 0) 0 (by decide)) (jv_t x22) (by decide)
      refine g_putN cx cl_X4 fn_X0_156 43 (wX X ad (upd F21 698 x23) R16) e_X0_pullCloth_143 rfl rfl rfl rfl (Nat.le_of_ble_eq_true rfl) rfl ?_
      obtain ⟨F24, hF24⟩ : ∃ z, z = upd F21 698 x23 := ⟨_, rfl⟩
      rw [← hF24]
      have oF24 : g_ok LK_wX F24 := by rw [hF24]; exact g_ok_u oF21 rfl
      have fF24 : g_fr md_X0_pullCloth F F24 := by rw [hF24]; exact g_fr_u fF21 rfl
      exact hret e_X0_pullCloth_146 (Nat.le_of_ble_eq_true rfl) (Nat.le_of_ble_eq_true rfl) ⟨F24, R16, rfl, oF24, oR16, fF24, fR16⟩
    refine g_icmp_eq cx 98 e_X0_pullCloth_65 (by decide) (fun zc25 => ?_) (fun zc25 => ?_)
    · have p26 := gn_eq (-1) (-1) (gc_eq zc25) py4 (jv_k (x := (-1)) (-1) (by decide)) (by decide)
      refine g_lsub [2, 4, 0] [(0, .ref (ad 37)), (2, .int r1), (4, .int 0)] rfl ?_
      exact J98 F10 R13 0 oF10 fF10 oR13 fR13 (jv_w (jv_k (x := 0) 0 (by decide)) (by decide))
    · refine g_aload_n cx 2 rfl e_X0_pullCloth_68 ?_
      refine g_get cx cl_X0 fl_X0_71 37 (.ref (ad 17)) e_X0_pullCloth_69 rfl rfl ?_
      refine g_getN cx cl_X2 fn_X0_146 17 (.ref (ad 23)) e_X0_pullCloth_72 rfl rfl ?_
      refine g_iconst cx 2 (by decide) e_X0_pullCloth_75 ?_
      refine g_iload_n cx 1 rfl e_X0_pullCloth_76 ?_
      refine g_iast cx 23 (wX X ad F10 (g_u R13 23 (upd (R13 23) 2 y4))) e_X0_pullCloth_77 rfl (jv_ix 12 (jv_k (x := 2) 2 (by decide)) (by decide)) rfl ?_
      obtain ⟨R27, hR27⟩ : ∃ z, z = g_u R13 23 (upd (R13 23) 2 y4) := ⟨_, rfl⟩
      rw [← hR27]
      have oR27 : g_okR LA_wX R27 := by rw [hR27]; exact g_okR_u oR13 rfl
      have fR27 : g_fr mr_X0_pullCloth R R27 := by rw [hR27]; exact g_fr_r fR13 rfl
      refine g_aload_n cx 2 rfl e_X0_pullCloth_78 ?_
      refine g_get cx cl_X0 fl_X0_71 37 (.ref (ad 17)) e_X0_pullCloth_79 rfl rfl ?_
      refine g_iconst cx 2 (by decide) e_X0_pullCloth_82 ?_
      refine g_cViW cx [.int 2] [] (w_X2_ask_17 l X ad F10 R27 oF10 oR27 2) ml_X0_149 yV_X2_ask e_X0_pullCloth_83 (by unfold g_rr; decide) (by decide) 17 rfl rfl rfl (Nat.le_of_ble_eq_true rfl) (fun r28 w29 h30 => ?_)
      obtain ⟨F31, R32, rfl, oF31, oR32, cF31, cR32, pr28⟩ := h30
      have fF31 : g_fr md_X0_pullCloth F F31 := g_fr_c fF10 cF31 rfl
      have fR32 : g_fr mr_X0_pullCloth R R32 := g_fr_c fR27 cR32 rfl
      refine g_istore cx [(4, .int r28), (3, .int y4), (0, .ref (ad 37)), (1, .int a0), (2, .int r1)] e_X0_pullCloth_86 (by decide) rfl ?_
      refine g_aload_n cx 2 rfl e_X0_pullCloth_88 ?_
      refine g_get cx cl_X0 fl_X0_71 37 (.ref (ad 17)) e_X0_pullCloth_89 rfl rfl ?_
      refine g_getN cx cl_X2 fn_X0_146 17 (.ref (ad 23)) e_X0_pullCloth_92 rfl rfl ?_
      refine g_iconst cx 2 (by decide) e_X0_pullCloth_95 ?_
      refine g_iconst cx 0 (by decide) e_X0_pullCloth_96 ?_
      refine g_iast cx 23 (wX X ad F31 (g_u R32 23 (upd (R32 23) 2 0))) e_X0_pullCloth_97 rfl (jv_ix 12 (jv_k (x := 2) 2 (by decide)) (by decide)) rfl ?_
      obtain ⟨R33, hR33⟩ : ∃ z, z = g_u R32 23 (upd (R32 23) 2 0) := ⟨_, rfl⟩
      rw [← hR33]
      have oR33 : g_okR LA_wX R33 := by rw [hR33]; exact g_okR_u oR32 rfl
      have fR33 : g_fr mr_X0_pullCloth R R33 := by rw [hR33]; exact g_fr_r fR32 rfl
      refine g_lsub [2, 4, 0] [(0, .ref (ad 37)), (2, .int r1), (4, .int r28)] rfl ?_
      exact J98 F31 R33 r28 oF31 fF31 oR33 fR33 (jv_w pr28 (by decide))
  refine g_icmp_ge cx 31 e_X0_pullCloth_17 (by decide) (fun zc34 => ?_) (fun zc34 => ?_)
  · have p35 := gn_ge 0 2147483647 (gc_le zc34) (jv_t a0) (g_ok_g hI 4 rfl) (by decide)
    refine g_iconst cx (-1) (by decide) e_X0_pullCloth_31 ?_
    refine g_lsub [1, 2, 0] [(0, .ref (ad 37)), (1, .int a0), (2, .int r1)] rfl ?_
    exact J32 F R (-1) hI (g_fr_rf F) hA (g_fr_rf R) (jv_w (jv_k (x := (-1)) (-1) (by decide)) (by decide))
  · have p36 := gn_lt (-2147483648) 59 (gc_nle zc34) (jv_t a0) (g_ok_g hI 4 rfl) (by decide)
    refine g_aload_n cx 1 rfl e_X0_pullCloth_20 ?_
    refine g_get cx cl_X0 fl_X0_28 37 (.ref (ad 42)) e_X0_pullCloth_21 rfl rfl ?_
    refine g_iload_n cx 2 rfl e_X0_pullCloth_24 ?_
    refine g_cViW cx [.int a0] [] (w_X1_draw l X ad F R hI hA a0) ml_X0_138 yV_X1_draw e_X0_pullCloth_25 (by unfold g_rr; decide) (by decide) 42 rfl rfl rfl (Nat.le_of_ble_eq_true rfl) (fun r37 w38 h39 => ?_)
    obtain ⟨F40, R41, rfl, oF40, oR41, cF40, cR41, pr37⟩ := h39
    have fF40 : g_fr md_X0_pullCloth F F40 := g_fr_c (g_fr_rf F) cF40 rfl
    have fR41 : g_fr mr_X0_pullCloth R R41 := g_fr_c (g_fr_rf R) cR41 rfl
    refine g_goto cx 32 e_X0_pullCloth_28 (by decide) ?_
    refine g_lsub [1, 2, 0] [(0, .ref (ad 37)), (1, .int a0), (2, .int r1)] rfl ?_
    exact J32 F40 R41 r37 oF40 fF40 oR41 fR41 pr37
theorem e_X0_describe_0 : g_dc cX0_describe 0 (.aload_n 0) 1 1 := ⟨by decide +kernel, rfl⟩
theorem e_X0_describe_1 : g_dc cX0_describe 1 (.getfield 71) 3 4 := ⟨by decide +kernel, rfl⟩
theorem e_X0_describe_4 : g_dc cX0_describe 4 (.getfield 146) 3 7 := ⟨by decide +kernel, rfl⟩
theorem e_X0_describe_7 : g_dc cX0_describe 7 (.iconst 3) 1 8 := ⟨by decide +kernel, rfl⟩
theorem e_X0_describe_8 : g_dc cX0_describe 8 (.iload_n 1) 1 9 := ⟨by decide +kernel, rfl⟩
theorem e_X0_describe_9 : g_dc cX0_describe 9 (.iastore) 1 10 := ⟨by decide +kernel, rfl⟩
theorem e_X0_describe_10 : g_dc cX0_describe 10 (.aload_n 0) 1 11 := ⟨by decide +kernel, rfl⟩
theorem e_X0_describe_11 : g_dc cX0_describe 11 (.getfield 71) 3 14 := ⟨by decide +kernel, rfl⟩
theorem e_X0_describe_14 : g_dc cX0_describe 14 (.getfield 146) 3 17 := ⟨by decide +kernel, rfl⟩
theorem e_X0_describe_17 : g_dc cX0_describe 17 (.iconst 4) 1 18 := ⟨by decide +kernel, rfl⟩
theorem e_X0_describe_18 : g_dc cX0_describe 18 (.aload_n 0) 1 19 := ⟨by decide +kernel, rfl⟩
theorem e_X0_describe_19 : g_dc cX0_describe 19 (.getfield 12) 3 22 := ⟨by decide +kernel, rfl⟩
theorem e_X0_describe_22 : g_dc cX0_describe 22 (.iload_n 1) 1 23 := ⟨by decide +kernel, rfl⟩
theorem e_X0_describe_23 : g_dc cX0_describe 23 (.iconst 0) 1 24 := ⟨by decide +kernel, rfl⟩
theorem e_X0_describe_24 : g_dc cX0_describe 24 (.invokevirtual 171) 3 27 := ⟨by decide +kernel, rfl⟩
theorem e_X0_describe_27 : g_dc cX0_describe 27 (.iastore) 1 28 := ⟨by decide +kernel, rfl⟩
theorem e_X0_describe_28 : g_dc cX0_describe 28 (.aload_n 0) 1 29 := ⟨by decide +kernel, rfl⟩
theorem e_X0_describe_29 : g_dc cX0_describe 29 (.getfield 71) 3 32 := ⟨by decide +kernel, rfl⟩
theorem e_X0_describe_32 : g_dc cX0_describe 32 (.getfield 146) 3 35 := ⟨by decide +kernel, rfl⟩
theorem e_X0_describe_35 : g_dc cX0_describe 35 (.iconst 5) 1 36 := ⟨by decide +kernel, rfl⟩
theorem e_X0_describe_36 : g_dc cX0_describe 36 (.aload_n 0) 1 37 := ⟨by decide +kernel, rfl⟩
theorem e_X0_describe_37 : g_dc cX0_describe 37 (.getfield 35) 3 40 := ⟨by decide +kernel, rfl⟩
theorem e_X0_describe_40 : g_dc cX0_describe 40 (.getfield 159) 3 43 := ⟨by decide +kernel, rfl⟩
theorem e_X0_describe_43 : g_dc cX0_describe 43 (.iload_n 1) 1 44 := ⟨by decide +kernel, rfl⟩
theorem e_X0_describe_44 : g_dc cX0_describe 44 (.iaload) 1 45 := ⟨by decide +kernel, rfl⟩
theorem e_X0_describe_45 : g_dc cX0_describe 45 (.iastore) 1 46 := ⟨by decide +kernel, rfl⟩
theorem e_X0_describe_46 : g_dc cX0_describe 46 (.aload_n 0) 1 47 := ⟨by decide +kernel, rfl⟩
theorem e_X0_describe_47 : g_dc cX0_describe 47 (.getfield 71) 3 50 := ⟨by decide +kernel, rfl⟩
theorem e_X0_describe_50 : g_dc cX0_describe 50 (.getfield 146) 3 53 := ⟨by decide +kernel, rfl⟩
theorem e_X0_describe_53 : g_dc cX0_describe 53 (.bipush 6) 2 55 := ⟨by decide +kernel, rfl⟩
theorem e_X0_describe_55 : g_dc cX0_describe 55 (.aload_n 0) 1 56 := ⟨by decide +kernel, rfl⟩
theorem e_X0_describe_56 : g_dc cX0_describe 56 (.getfield 12) 3 59 := ⟨by decide +kernel, rfl⟩
theorem e_X0_describe_59 : g_dc cX0_describe 59 (.iload_n 1) 1 60 := ⟨by decide +kernel, rfl⟩
theorem e_X0_describe_60 : g_dc cX0_describe 60 (.iconst 2) 1 61 := ⟨by decide +kernel, rfl⟩
theorem e_X0_describe_61 : g_dc cX0_describe 61 (.invokevirtual 171) 3 64 := ⟨by decide +kernel, rfl⟩
theorem e_X0_describe_64 : g_dc cX0_describe 64 (.iastore) 1 65 := ⟨by decide +kernel, rfl⟩
theorem e_X0_describe_65 : g_dc cX0_describe 65 (.aload_n 0) 1 66 := ⟨by decide +kernel, rfl⟩
theorem e_X0_describe_66 : g_dc cX0_describe 66 (.getfield 71) 3 69 := ⟨by decide +kernel, rfl⟩
theorem e_X0_describe_69 : g_dc cX0_describe 69 (.getfield 146) 3 72 := ⟨by decide +kernel, rfl⟩
theorem e_X0_describe_72 : g_dc cX0_describe 72 (.bipush 7) 2 74 := ⟨by decide +kernel, rfl⟩
theorem e_X0_describe_74 : g_dc cX0_describe 74 (.aload_n 0) 1 75 := ⟨by decide +kernel, rfl⟩
theorem e_X0_describe_75 : g_dc cX0_describe 75 (.getfield 12) 3 78 := ⟨by decide +kernel, rfl⟩
theorem e_X0_describe_78 : g_dc cX0_describe 78 (.iload_n 1) 1 79 := ⟨by decide +kernel, rfl⟩
theorem e_X0_describe_79 : g_dc cX0_describe 79 (.iconst 4) 1 80 := ⟨by decide +kernel, rfl⟩
theorem e_X0_describe_80 : g_dc cX0_describe 80 (.invokevirtual 171) 3 83 := ⟨by decide +kernel, rfl⟩
theorem e_X0_describe_83 : g_dc cX0_describe 83 (.iastore) 1 84 := ⟨by decide +kernel, rfl⟩
theorem e_X0_describe_84 : g_dc cX0_describe 84 (.aload_n 0) 1 85 := ⟨by decide +kernel, rfl⟩
theorem e_X0_describe_85 : g_dc cX0_describe 85 (.getfield 71) 3 88 := ⟨by decide +kernel, rfl⟩
theorem e_X0_describe_88 : g_dc cX0_describe 88 (.getfield 146) 3 91 := ⟨by decide +kernel, rfl⟩
theorem e_X0_describe_91 : g_dc cX0_describe 91 (.bipush 8) 2 93 := ⟨by decide +kernel, rfl⟩
theorem e_X0_describe_93 : g_dc cX0_describe 93 (.aload_n 0) 1 94 := ⟨by decide +kernel, rfl⟩
theorem e_X0_describe_94 : g_dc cX0_describe 94 (.getfield 12) 3 97 := ⟨by decide +kernel, rfl⟩
theorem e_X0_describe_97 : g_dc cX0_describe 97 (.iload_n 1) 1 98 := ⟨by decide +kernel, rfl⟩
theorem e_X0_describe_98 : g_dc cX0_describe 98 (.iconst 5) 1 99 := ⟨by decide +kernel, rfl⟩
theorem e_X0_describe_99 : g_dc cX0_describe 99 (.invokevirtual 171) 3 102 := ⟨by decide +kernel, rfl⟩
theorem e_X0_describe_102 : g_dc cX0_describe 102 (.iastore) 1 103 := ⟨by decide +kernel, rfl⟩
theorem e_X0_describe_103 : g_dc cX0_describe 103 (.aload_n 0) 1 104 := ⟨by decide +kernel, rfl⟩
theorem e_X0_describe_104 : g_dc cX0_describe 104 (.getfield 71) 3 107 := ⟨by decide +kernel, rfl⟩
theorem e_X0_describe_107 : g_dc cX0_describe 107 (.getfield 146) 3 110 := ⟨by decide +kernel, rfl⟩
theorem e_X0_describe_110 : g_dc cX0_describe 110 (.bipush 9) 2 112 := ⟨by decide +kernel, rfl⟩
theorem e_X0_describe_112 : g_dc cX0_describe 112 (.aload_n 0) 1 113 := ⟨by decide +kernel, rfl⟩
theorem e_X0_describe_113 : g_dc cX0_describe 113 (.getfield 35) 3 116 := ⟨by decide +kernel, rfl⟩
theorem e_X0_describe_116 : g_dc cX0_describe 116 (.getfield 174) 3 119 := ⟨by decide +kernel, rfl⟩
theorem e_X0_describe_119 : g_dc cX0_describe 119 (.iload_n 1) 1 120 := ⟨by decide +kernel, rfl⟩
theorem e_X0_describe_120 : g_dc cX0_describe 120 (.iaload) 1 121 := ⟨by decide +kernel, rfl⟩
theorem e_X0_describe_121 : g_dc cX0_describe 121 (.iastore) 1 122 := ⟨by decide +kernel, rfl⟩
theorem e_X0_describe_122 : g_dc cX0_describe 122 (.aload_n 0) 1 123 := ⟨by decide +kernel, rfl⟩
theorem e_X0_describe_123 : g_dc cX0_describe 123 (.getfield 71) 3 126 := ⟨by decide +kernel, rfl⟩
theorem e_X0_describe_126 : g_dc cX0_describe 126 (.getfield 146) 3 129 := ⟨by decide +kernel, rfl⟩
theorem e_X0_describe_129 : g_dc cX0_describe 129 (.bipush 10) 2 131 := ⟨by decide +kernel, rfl⟩
theorem e_X0_describe_131 : g_dc cX0_describe 131 (.aload_n 0) 1 132 := ⟨by decide +kernel, rfl⟩
theorem e_X0_describe_132 : g_dc cX0_describe 132 (.getfield 39) 3 135 := ⟨by decide +kernel, rfl⟩
theorem e_X0_describe_135 : g_dc cX0_describe 135 (.iload_n 1) 1 136 := ⟨by decide +kernel, rfl⟩
theorem e_X0_describe_136 : g_dc cX0_describe 136 (.iaload) 1 137 := ⟨by decide +kernel, rfl⟩
theorem e_X0_describe_137 : g_dc cX0_describe 137 (.iastore) 1 138 := ⟨by decide +kernel, rfl⟩
theorem e_X0_describe_138 : g_dc cX0_describe 138 (.aload_n 0) 1 139 := ⟨by decide +kernel, rfl⟩
theorem e_X0_describe_139 : g_dc cX0_describe 139 (.getfield 71) 3 142 := ⟨by decide +kernel, rfl⟩
theorem e_X0_describe_142 : g_dc cX0_describe 142 (.getfield 146) 3 145 := ⟨by decide +kernel, rfl⟩
theorem e_X0_describe_145 : g_dc cX0_describe 145 (.bipush 11) 2 147 := ⟨by decide +kernel, rfl⟩
theorem e_X0_describe_147 : g_dc cX0_describe 147 (.aload_n 0) 1 148 := ⟨by decide +kernel, rfl⟩
theorem e_X0_describe_148 : g_dc cX0_describe 148 (.getfield 62) 3 151 := ⟨by decide +kernel, rfl⟩
theorem e_X0_describe_151 : g_dc cX0_describe 151 (.iastore) 1 152 := ⟨by decide +kernel, rfl⟩
theorem e_X0_describe_152 : g_dc cX0_describe 152 (.return_) 1 153 := ⟨by decide +kernel, rfl⟩
def md_X0_describe : List Nat := []
def mr_X0_describe : List Nat := [23]
set_option maxHeartbeats 4000000 in
set_option maxRecDepth 100000 in
theorem w_X0_describe (l : Launch) (X : gX) (ad : Nat → Nat) (F : Nat → Int32) (R : Nat → Nat → Int32) (hI : g_ok LK_wX F) (hA : g_okR LA_wX R) (a0 : Int32) (pa0 : jv 0 9 a0) : g_Cv l X yX0_describe cX0_describe 2 3 0 0 [.ref (ad 37), .int a0] (wX X ad F R) (fun w => ∃ (F' : Nat → Int32) (R' : Nat → Nat → Int32), w = wX X ad F' R' ∧ g_ok LK_wX F' ∧ g_okR LA_wX R' ∧ g_fr md_X0_describe F F' ∧ g_fr mr_X0_describe R R') := by
  refine g_mv (by decide +kernel) (Nat.le_of_ble_eq_true rfl) (fun E cx hret => ?_)
  refine g_aload_n cx 0 rfl e_X0_describe_0 ?_
  refine g_get cx cl_X0 fl_X0_71 37 (.ref (ad 17)) e_X0_describe_1 rfl rfl ?_
  refine g_getN cx cl_X2 fn_X0_146 17 (.ref (ad 23)) e_X0_describe_4 rfl rfl ?_
  refine g_iconst cx 3 (by decide) e_X0_describe_7 ?_
  refine g_iload_n cx 1 rfl e_X0_describe_8 ?_
  refine g_iast cx 23 (wX X ad F (g_u R 23 (upd (R 23) 3 a0))) e_X0_describe_9 rfl (jv_ix 12 (jv_k (x := 3) 3 (by decide)) (by decide)) rfl ?_
  obtain ⟨R1, hR1⟩ : ∃ z, z = g_u R 23 (upd (R 23) 3 a0) := ⟨_, rfl⟩
  rw [← hR1]
  have oR1 : g_okR LA_wX R1 := by rw [hR1]; exact g_okR_u hA rfl
  have fR1 : g_fr mr_X0_describe R R1 := by rw [hR1]; exact g_fr_r (g_fr_rf R) rfl
  refine g_aload_n cx 0 rfl e_X0_describe_10 ?_
  refine g_get cx cl_X0 fl_X0_71 37 (.ref (ad 17)) e_X0_describe_11 rfl rfl ?_
  refine g_getN cx cl_X2 fn_X0_146 17 (.ref (ad 23)) e_X0_describe_14 rfl rfl ?_
  refine g_iconst cx 4 (by decide) e_X0_describe_17 ?_
  refine g_aload_n cx 0 rfl e_X0_describe_18 ?_
  refine g_get cx cl_X0 fl_X0_12 37 (.ref (ad 5)) e_X0_describe_19 rfl rfl ?_
  refine g_iload_n cx 1 rfl e_X0_describe_22 ?_
  refine g_iconst cx 0 (by decide) e_X0_describe_23 ?_
  refine g_cViW cx [.int a0, .int 0] [.int 4, .ref (ad 23)] (w_X8_side_5 l X ad F R1 hI oR1 a0 0) ml_X0_171 yV_X8_side e_X0_describe_24 (by unfold g_rr; decide) (by decide) 5 rfl rfl rfl (Nat.le_of_ble_eq_true rfl) (fun r2 w3 h4 => ?_)
  obtain ⟨rfl, pr2⟩ := h4
  refine g_iast cx 23 (wX X ad F (g_u R1 23 (upd (R1 23) 4 r2))) e_X0_describe_27 rfl (jv_ix 12 (jv_k (x := 4) 4 (by decide)) (by decide)) rfl ?_
  obtain ⟨R5, hR5⟩ : ∃ z, z = g_u R1 23 (upd (R1 23) 4 r2) := ⟨_, rfl⟩
  rw [← hR5]
  have oR5 : g_okR LA_wX R5 := by rw [hR5]; exact g_okR_u oR1 rfl
  have fR5 : g_fr mr_X0_describe R R5 := by rw [hR5]; exact g_fr_r fR1 rfl
  refine g_aload_n cx 0 rfl e_X0_describe_28 ?_
  refine g_get cx cl_X0 fl_X0_71 37 (.ref (ad 17)) e_X0_describe_29 rfl rfl ?_
  refine g_getN cx cl_X2 fn_X0_146 17 (.ref (ad 23)) e_X0_describe_32 rfl rfl ?_
  refine g_iconst cx 5 (by decide) e_X0_describe_35 ?_
  refine g_aload_n cx 0 rfl e_X0_describe_36 ?_
  refine g_get cx cl_X0 fl_X0_35 37 (.ref (ad 43)) e_X0_describe_37 rfl rfl ?_
  refine g_getN cx cl_X4 fn_X0_159 43 (.ref (ad 44)) e_X0_describe_40 rfl rfl ?_
  refine g_iload_n cx 1 rfl e_X0_describe_43 ?_
  refine g_iald cx 44 e_X0_describe_44 rfl (jv_ix 10 pa0 (by decide)) ?_
  refine g_topi (fun x6 ex6 => ?_)
  refine g_iast cx 23 (wX X ad F (g_u R5 23 (upd (R5 23) 5 x6))) e_X0_describe_45 rfl (jv_ix 12 (jv_k (x := 5) 5 (by decide)) (by decide)) rfl ?_
  obtain ⟨R7, hR7⟩ : ∃ z, z = g_u R5 23 (upd (R5 23) 5 x6) := ⟨_, rfl⟩
  rw [← hR7]
  have oR7 : g_okR LA_wX R7 := by rw [hR7]; exact g_okR_u oR5 rfl
  have fR7 : g_fr mr_X0_describe R R7 := by rw [hR7]; exact g_fr_r fR5 rfl
  refine g_aload_n cx 0 rfl e_X0_describe_46 ?_
  refine g_get cx cl_X0 fl_X0_71 37 (.ref (ad 17)) e_X0_describe_47 rfl rfl ?_
  refine g_getN cx cl_X2 fn_X0_146 17 (.ref (ad 23)) e_X0_describe_50 rfl rfl ?_
  refine g_bipush cx 6 (by decide) e_X0_describe_53 ?_
  refine g_aload_n cx 0 rfl e_X0_describe_55 ?_
  refine g_get cx cl_X0 fl_X0_12 37 (.ref (ad 5)) e_X0_describe_56 rfl rfl ?_
  refine g_iload_n cx 1 rfl e_X0_describe_59 ?_
  refine g_iconst cx 2 (by decide) e_X0_describe_60 ?_
  refine g_cViW cx [.int a0, .int 2] [.int 6, .ref (ad 23)] (w_X8_side_5 l X ad F R7 hI oR7 a0 2) ml_X0_171 yV_X8_side e_X0_describe_61 (by unfold g_rr; decide) (by decide) 5 rfl rfl rfl (Nat.le_of_ble_eq_true rfl) (fun r8 w9 h10 => ?_)
  obtain ⟨rfl, pr8⟩ := h10
  refine g_iast cx 23 (wX X ad F (g_u R7 23 (upd (R7 23) 6 r8))) e_X0_describe_64 rfl (jv_ix 12 (jv_k (x := 6) 6 (by decide)) (by decide)) rfl ?_
  obtain ⟨R11, hR11⟩ : ∃ z, z = g_u R7 23 (upd (R7 23) 6 r8) := ⟨_, rfl⟩
  rw [← hR11]
  have oR11 : g_okR LA_wX R11 := by rw [hR11]; exact g_okR_u oR7 rfl
  have fR11 : g_fr mr_X0_describe R R11 := by rw [hR11]; exact g_fr_r fR7 rfl
  refine g_aload_n cx 0 rfl e_X0_describe_65 ?_
  refine g_get cx cl_X0 fl_X0_71 37 (.ref (ad 17)) e_X0_describe_66 rfl rfl ?_
  refine g_getN cx cl_X2 fn_X0_146 17 (.ref (ad 23)) e_X0_describe_69 rfl rfl ?_
  refine g_bipush cx 7 (by decide) e_X0_describe_72 ?_
  refine g_aload_n cx 0 rfl e_X0_describe_74 ?_
  refine g_get cx cl_X0 fl_X0_12 37 (.ref (ad 5)) e_X0_describe_75 rfl rfl ?_
  refine g_iload_n cx 1 rfl e_X0_describe_78 ?_
  refine g_iconst cx 4 (by decide) e_X0_describe_79 ?_
  refine g_cViW cx [.int a0, .int 4] [.int 7, .ref (ad 23)] (w_X8_side_5 l X ad F R11 hI oR11 a0 4) ml_X0_171 yV_X8_side e_X0_describe_80 (by unfold g_rr; decide) (by decide) 5 rfl rfl rfl (Nat.le_of_ble_eq_true rfl) (fun r12 w13 h14 => ?_)
  obtain ⟨rfl, pr12⟩ := h14
  refine g_iast cx 23 (wX X ad F (g_u R11 23 (upd (R11 23) 7 r12))) e_X0_describe_83 rfl (jv_ix 12 (jv_k (x := 7) 7 (by decide)) (by decide)) rfl ?_
  obtain ⟨R15, hR15⟩ : ∃ z, z = g_u R11 23 (upd (R11 23) 7 r12) := ⟨_, rfl⟩
  rw [← hR15]
  have oR15 : g_okR LA_wX R15 := by rw [hR15]; exact g_okR_u oR11 rfl
  have fR15 : g_fr mr_X0_describe R R15 := by rw [hR15]; exact g_fr_r fR11 rfl
  refine g_aload_n cx 0 rfl e_X0_describe_84 ?_
  refine g_get cx cl_X0 fl_X0_71 37 (.ref (ad 17)) e_X0_describe_85 rfl rfl ?_
  refine g_getN cx cl_X2 fn_X0_146 17 (.ref (ad 23)) e_X0_describe_88 rfl rfl ?_
  refine g_bipush cx 8 (by decide) e_X0_describe_91 ?_
  refine g_aload_n cx 0 rfl e_X0_describe_93 ?_
  refine g_get cx cl_X0 fl_X0_12 37 (.ref (ad 5)) e_X0_describe_94 rfl rfl ?_
  refine g_iload_n cx 1 rfl e_X0_describe_97 ?_
  refine g_iconst cx 5 (by decide) e_X0_describe_98 ?_
  refine g_cViW cx [.int a0, .int 5] [.int 8, .ref (ad 23)] (w_X8_side_5 l X ad F R15 hI oR15 a0 5) ml_X0_171 yV_X8_side e_X0_describe_99 (by unfold g_rr; decide) (by decide) 5 rfl rfl rfl (Nat.le_of_ble_eq_true rfl) (fun r16 w17 h18 => ?_)
  obtain ⟨rfl, pr16⟩ := h18
  refine g_iast cx 23 (wX X ad F (g_u R15 23 (upd (R15 23) 8 r16))) e_X0_describe_102 rfl (jv_ix 12 (jv_k (x := 8) 8 (by decide)) (by decide)) rfl ?_
  obtain ⟨R19, hR19⟩ : ∃ z, z = g_u R15 23 (upd (R15 23) 8 r16) := ⟨_, rfl⟩
  rw [← hR19]
  have oR19 : g_okR LA_wX R19 := by rw [hR19]; exact g_okR_u oR15 rfl
  have fR19 : g_fr mr_X0_describe R R19 := by rw [hR19]; exact g_fr_r fR15 rfl
  refine g_aload_n cx 0 rfl e_X0_describe_103 ?_
  refine g_get cx cl_X0 fl_X0_71 37 (.ref (ad 17)) e_X0_describe_104 rfl rfl ?_
  refine g_getN cx cl_X2 fn_X0_146 17 (.ref (ad 23)) e_X0_describe_107 rfl rfl ?_
  refine g_bipush cx 9 (by decide) e_X0_describe_110 ?_
  refine g_aload_n cx 0 rfl e_X0_describe_112 ?_
  refine g_get cx cl_X0 fl_X0_35 37 (.ref (ad 43)) e_X0_describe_113 rfl rfl ?_
  refine g_getN cx cl_X4 fn_X0_174 43 (.ref (ad 45)) e_X0_describe_116 rfl rfl ?_
  refine g_iload_n cx 1 rfl e_X0_describe_119 ?_
  refine g_iald cx 45 e_X0_describe_120 rfl (jv_ix 10 pa0 (by decide)) ?_
  refine g_topi (fun x20 ex20 => ?_)
  refine g_iast cx 23 (wX X ad F (g_u R19 23 (upd (R19 23) 9 x20))) e_X0_describe_121 rfl (jv_ix 12 (jv_k (x := 9) 9 (by decide)) (by decide)) rfl ?_
  obtain ⟨R21, hR21⟩ : ∃ z, z = g_u R19 23 (upd (R19 23) 9 x20) := ⟨_, rfl⟩
  rw [← hR21]
  have oR21 : g_okR LA_wX R21 := by rw [hR21]; exact g_okR_u oR19 rfl
  have fR21 : g_fr mr_X0_describe R R21 := by rw [hR21]; exact g_fr_r fR19 rfl
  refine g_aload_n cx 0 rfl e_X0_describe_122 ?_
  refine g_get cx cl_X0 fl_X0_71 37 (.ref (ad 17)) e_X0_describe_123 rfl rfl ?_
  refine g_getN cx cl_X2 fn_X0_146 17 (.ref (ad 23)) e_X0_describe_126 rfl rfl ?_
  refine g_bipush cx 10 (by decide) e_X0_describe_129 ?_
  refine g_aload_n cx 0 rfl e_X0_describe_131 ?_
  refine g_get cx cl_X0 fl_X0_39 37 (.ref (ad 38)) e_X0_describe_132 rfl rfl ?_
  refine g_iload_n cx 1 rfl e_X0_describe_135 ?_
  refine g_iald cx 38 e_X0_describe_136 rfl (jv_ix 10 pa0 (by decide)) ?_
  refine g_topi (fun x22 ex22 => ?_)
  refine g_iast cx 23 (wX X ad F (g_u R21 23 (upd (R21 23) 10 x22))) e_X0_describe_137 rfl (jv_ix 12 (jv_k (x := 10) 10 (by decide)) (by decide)) rfl ?_
  obtain ⟨R23, hR23⟩ : ∃ z, z = g_u R21 23 (upd (R21 23) 10 x22) := ⟨_, rfl⟩
  rw [← hR23]
  have oR23 : g_okR LA_wX R23 := by rw [hR23]; exact g_okR_u oR21 rfl
  have fR23 : g_fr mr_X0_describe R R23 := by rw [hR23]; exact g_fr_r fR21 rfl
  refine g_aload_n cx 0 rfl e_X0_describe_138 ?_
  refine g_get cx cl_X0 fl_X0_71 37 (.ref (ad 17)) e_X0_describe_139 rfl rfl ?_
  refine g_getN cx cl_X2 fn_X0_146 17 (.ref (ad 23)) e_X0_describe_142 rfl rfl ?_
  refine g_bipush cx 11 (by decide) e_X0_describe_145 ?_
  refine g_aload_n cx 0 rfl e_X0_describe_147 ?_
  refine g_get cx cl_X0 fl_X0_62 37 (.int (F 604)) e_X0_describe_148 rfl rfl ?_
  refine g_iast cx 23 (wX X ad F (g_u R23 23 (upd (R23 23) 11 (F 604)))) e_X0_describe_151 rfl (jv_ix 12 (jv_k (x := 11) 11 (by decide)) (by decide)) rfl ?_
  obtain ⟨R24, hR24⟩ : ∃ z, z = g_u R23 23 (upd (R23 23) 11 (F 604)) := ⟨_, rfl⟩
  rw [← hR24]
  have oR24 : g_okR LA_wX R24 := by rw [hR24]; exact g_okR_u oR23 rfl
  have fR24 : g_fr mr_X0_describe R R24 := by rw [hR24]; exact g_fr_r fR23 rfl
  exact hret e_X0_describe_152 (Nat.le_of_ble_eq_true rfl) (Nat.le_of_ble_eq_true rfl) ⟨F, R24, rfl, hI, oR24, (g_fr_rf F), fR24⟩
theorem e_X0_foldPassed_0 : g_dc cX0_foldPassed 0 (.iconst 0) 1 1 := ⟨by decide +kernel, rfl⟩
theorem e_X0_foldPassed_1 : g_dc cX0_foldPassed 1 (.istore_n 2) 1 2 := ⟨by decide +kernel, rfl⟩
theorem e_X0_foldPassed_2 : g_dc cX0_foldPassed 2 (.iload_n 2) 1 3 := ⟨by decide +kernel, rfl⟩
theorem e_X0_foldPassed_3 : g_dc cX0_foldPassed 3 (.aload_n 0) 1 4 := ⟨by decide +kernel, rfl⟩
theorem e_X0_foldPassed_4 : g_dc cX0_foldPassed 4 (.getfield 52) 3 7 := ⟨by decide +kernel, rfl⟩
theorem e_X0_foldPassed_7 : g_dc cX0_foldPassed 7 (.if_icmp .ge 44) 3 10 := ⟨by decide +kernel, rfl⟩
theorem e_X0_foldPassed_10 : g_dc cX0_foldPassed 10 (.iload_n 2) 1 11 := ⟨by decide +kernel, rfl⟩
theorem e_X0_foldPassed_11 : g_dc cX0_foldPassed 11 (.bipush 6) 2 13 := ⟨by decide +kernel, rfl⟩
theorem e_X0_foldPassed_13 : g_dc cX0_foldPassed 13 (.if_icmp .ge 38) 3 16 := ⟨by decide +kernel, rfl⟩
theorem e_X0_foldPassed_16 : g_dc cX0_foldPassed 16 (.aload_n 0) 1 17 := ⟨by decide +kernel, rfl⟩
theorem e_X0_foldPassed_17 : g_dc cX0_foldPassed 17 (.getfield 49) 3 20 := ⟨by decide +kernel, rfl⟩
theorem e_X0_foldPassed_20 : g_dc cX0_foldPassed 20 (.iload_n 2) 1 21 := ⟨by decide +kernel, rfl⟩
theorem e_X0_foldPassed_21 : g_dc cX0_foldPassed 21 (.iaload) 1 22 := ⟨by decide +kernel, rfl⟩
theorem e_X0_foldPassed_22 : g_dc cX0_foldPassed 22 (.aload_n 0) 1 23 := ⟨by decide +kernel, rfl⟩
theorem e_X0_foldPassed_23 : g_dc cX0_foldPassed 23 (.getfield 59) 3 26 := ⟨by decide +kernel, rfl⟩
theorem e_X0_foldPassed_26 : g_dc cX0_foldPassed 26 (.isub) 1 27 := ⟨by decide +kernel, rfl⟩
theorem e_X0_foldPassed_27 : g_dc cX0_foldPassed 27 (.istore_n 3) 1 28 := ⟨by decide +kernel, rfl⟩
theorem e_X0_foldPassed_28 : g_dc cX0_foldPassed 28 (.iload_n 3) 1 29 := ⟨by decide +kernel, rfl⟩
theorem e_X0_foldPassed_29 : g_dc cX0_foldPassed 29 (.iload_n 1) 1 30 := ⟨by decide +kernel, rfl⟩
theorem e_X0_foldPassed_30 : g_dc cX0_foldPassed 30 (.if_icmp .ge 15) 3 33 := ⟨by decide +kernel, rfl⟩
theorem e_X0_foldPassed_33 : g_dc cX0_foldPassed 33 (.iload_n 3) 1 34 := ⟨by decide +kernel, rfl⟩
theorem e_X0_foldPassed_34 : g_dc cX0_foldPassed 34 (.aload_n 0) 1 35 := ⟨by decide +kernel, rfl⟩
theorem e_X0_foldPassed_35 : g_dc cX0_foldPassed 35 (.getfield 62) 3 38 := ⟨by decide +kernel, rfl⟩
theorem e_X0_foldPassed_38 : g_dc cX0_foldPassed 38 (.iadd) 1 39 := ⟨by decide +kernel, rfl⟩
theorem e_X0_foldPassed_39 : g_dc cX0_foldPassed 39 (.iload_n 1) 1 40 := ⟨by decide +kernel, rfl⟩
theorem e_X0_foldPassed_40 : g_dc cX0_foldPassed 40 (.if_icmp .lt 5) 3 43 := ⟨by decide +kernel, rfl⟩
theorem e_X0_foldPassed_43 : g_dc cX0_foldPassed 43 (.iconst 1) 1 44 := ⟨by decide +kernel, rfl⟩
theorem e_X0_foldPassed_44 : g_dc cX0_foldPassed 44 (.ireturn) 1 45 := ⟨by decide +kernel, rfl⟩
theorem e_X0_foldPassed_45 : g_dc cX0_foldPassed 45 (.iinc 2 1) 3 48 := ⟨by decide +kernel, rfl⟩
theorem e_X0_foldPassed_48 : g_dc cX0_foldPassed 48 (.goto (-46)) 3 51 := ⟨by decide +kernel, rfl⟩
theorem e_X0_foldPassed_51 : g_dc cX0_foldPassed 51 (.iconst 0) 1 52 := ⟨by decide +kernel, rfl⟩
theorem e_X0_foldPassed_52 : g_dc cX0_foldPassed 52 (.ireturn) 1 53 := ⟨by decide +kernel, rfl⟩
set_option maxHeartbeats 4000000 in
set_option maxRecDepth 100000 in
theorem w_X0_foldPassed (l : Launch) (X : gX) (ad : Nat → Nat) (F : Nat → Int32) (R : Nat → Nat → Int32) (hI : g_ok LK_wX F) (hA : g_okR LA_wX R) (a0 : Int32) : g_Ci l X yX0_foldPassed cX0_foldPassed 4 (some .boolean) 1 0 0 [.ref (ad 37), .int a0] (wX X ad F R) (fun r w => w = wX X ad F R ∧ jv 0 1 r) := by
  refine g_mi (by decide +kernel) (Nat.le_of_ble_eq_true rfl) (fun E cx hret => ?_)
  refine g_iconst cx 0 (by decide) e_X0_foldPassed_0 ?_
  refine g_istore_n cx [(2, .int 0), (0, .ref (ad 37)), (1, .int a0)] e_X0_foldPassed_1 (by decide) rfl ?_
  have J2 : ∀ (N : Nat) (y1 : Int32), (jv 0 6 y1) → (2147483647 - y1.toInt).toNat < N → G X E 4 0 0 (wX X ad F R) [(0, .ref (ad 37)), (1, .int a0), (2, .int y1)] 2 [] := by
    intro N
    induction N with
    | zero => intro y1 py1 hm; exact absurd hm (Nat.not_lt_zero _)
    | succ N ih2 =>
      intro y1 py1 hm2
      refine g_iload_n cx 2 rfl e_X0_foldPassed_2 ?_
      refine g_aload_n cx 0 rfl e_X0_foldPassed_3 ?_
      refine g_get cx cl_X0 fl_X0_52 37 (.int (F 601)) e_X0_foldPassed_4 rfl rfl ?_
      have J51 : G X E 4 0 0 (wX X ad F R) [] 51 [] := by
        refine g_iconst cx 0 (by decide) e_X0_foldPassed_51 ?_
        exact hret e_X0_foldPassed_52 (Nat.le_of_ble_eq_true rfl) (Nat.le_of_ble_eq_true rfl) rfl ⟨rfl, (jv_w (jv_k (x := 0) 0 (by decide)) (by decide))⟩
      refine g_icmp_ge cx 51 e_X0_foldPassed_7 (by decide) (fun zc2 => ?_) (fun zc2 => ?_)
      · have p3 := gn_le (-2147483648) 6 (gc_le zc2) (jv_t (F 601)) py1 (by decide)
        refine g_lsub [] [] rfl ?_
        exact J51  
      · have p4 := gn_gt 1 2147483647 (gc_nle zc2) (jv_t (F 601)) py1 (by decide)
        refine g_iload_n cx 2 rfl e_X0_foldPassed_10 ?_
        refine g_bipush cx 6 (by decide) e_X0_foldPassed_11 ?_
        refine g_icmp_ge cx 51 e_X0_foldPassed_13 (by decide) (fun zc5 => ?_) (fun zc5 => ?_)
        · have p6 := gn_ge 6 6 (gc_le zc5) py1 (jv_k (x := 6) 6 (by decide)) (by decide)
          refine g_lsub [] [] rfl ?_
          exact J51  
        · have p7 := gn_lt 0 5 (gc_nle zc5) py1 (jv_k (x := 6) 6 (by decide)) (by decide)
          refine g_aload_n cx 0 rfl e_X0_foldPassed_16 ?_
          refine g_get cx cl_X0 fl_X0_49 37 (.ref (ad 41)) e_X0_foldPassed_17 rfl rfl ?_
          refine g_iload_n cx 2 rfl e_X0_foldPassed_20 ?_
          refine g_iald cx 41 e_X0_foldPassed_21 rfl (jv_ix 6 p7 (by decide)) ?_
          refine g_topi (fun x8 ex8 => ?_)
          refine g_aload_n cx 0 rfl e_X0_foldPassed_22 ?_
          refine g_get cx cl_X0 fl_X0_59 37 (.int (F 603)) e_X0_foldPassed_23 rfl rfl ?_
          refine g_isub cx e_X0_foldPassed_26 ?_
          refine g_topi (fun x9 ex9 => ?_)
          refine g_istore_n cx [(3, .int x9), (0, .ref (ad 37)), (1, .int a0), (2, .int y1)] e_X0_foldPassed_27 (by decide) rfl ?_
          refine g_iload_n cx 0 rfl e_X0_foldPassed_28 ?_
          refine g_iload_n cx 2 rfl e_X0_foldPassed_29 ?_
          have J45 : G X E 4 0 0 (wX X ad F R) [(0, .ref (ad 37)), (1, .int a0), (2, .int y1)] 45 [] := by
            obtain ⟨x10, ex10⟩ : ∃ z : Int32, z = y1 + Int32.ofInt 1 := ⟨_, rfl⟩
            refine g_iinc cx x10 [(2, .int x10), (0, .ref (ad 37)), (1, .int a0)] 2 e_X0_foldPassed_45 rfl ex10.symm (by decide) rfl ?_
            have zx10 := jv_add 1 6 (show x10 = y1 + 1 from ex10) p7 (jv_k (x := 1) 1 (by decide)) (by decide)
            refine g_goto cx 2 e_X0_foldPassed_48 (by decide) ?_
            refine g_lsub [1, 2, 0] [(0, .ref (ad 37)), (1, .int a0), (2, .int x10)] rfl ?_
            exact ih2 x10 (jv_w zx10.2 (by decide)) (Nat.lt_of_lt_of_le (show (2147483647 - x10.toInt).toNat < (2147483647 - y1.toInt).toNat from by have q0 := (jv_k (x := 1) 1 (by decide)).1; have q1 := (jv_k (x := 1) 1 (by decide)).2; have q2 := (jv_k (x := 6) 6 (by decide)).1; have q3 := (jv_k (x := 6) 6 (by decide)).2; have q4 := p4.1; have q5 := p4.2; have q6 := zx10.2.1; have q7 := zx10.2.2; have q8 := p7.1; have q9 := p7.2; have q10 := (gc_nle zc2); have q11 := (gc_nle zc5); have q12 := (g_eq0 zx10.1); omega) (Nat.le_of_lt_succ hm2))
          refine g_icmp_ge cx 45 e_X0_foldPassed_30 (by decide) (fun zc11 => ?_) (fun zc11 => ?_)
          · refine g_lsub [1, 2, 3] [(0, .ref (ad 37)), (1, .int a0), (2, .int y1)] rfl ?_
            exact J45  
          · have p12 := gn_lt (-2147483648) 2147483646 (gc_nle zc11) (jv_t x9) (jv_t a0) (by decide)
            have p13 := gn_gt (-2147483647) 2147483647 (gc_nle zc11) (jv_t a0) (jv_t x9) (by decide)
            refine g_iload_n cx 0 rfl e_X0_foldPassed_33 ?_
            refine g_aload_n cx 1 rfl e_X0_foldPassed_34 ?_
            refine g_get cx cl_X0 fl_X0_62 37 (.int (F 604)) e_X0_foldPassed_35 rfl rfl ?_
            refine g_iadd cx e_X0_foldPassed_38 ?_
            refine g_topi (fun x14 ex14 => ?_)
            refine g_iload_n cx 2 rfl e_X0_foldPassed_39 ?_
            refine g_icmp_lt cx 45 e_X0_foldPassed_40 (by decide) (fun zc15 => ?_) (fun zc15 => ?_)
            · have p16 := gn_lt (-2147483648) 2147483646 (gc_lt zc15) (jv_t x14) p13 (by decide)
              refine g_lsub [1, 2, 3] [(0, .ref (ad 37)), (1, .int a0), (2, .int y1)] rfl ?_
              exact J45  
            · have p17 := gn_ge (-2147483647) 2147483647 (gc_nlt zc15) (jv_t x14) p13 (by decide)
              refine g_iconst cx 1 (by decide) e_X0_foldPassed_43 ?_
              exact hret e_X0_foldPassed_44 (Nat.le_of_ble_eq_true rfl) (Nat.le_of_ble_eq_true rfl) rfl ⟨rfl, (jv_w (jv_k (x := 1) 1 (by decide)) (by decide))⟩
  refine g_lsub [1, 2, 0] [(0, .ref (ad 37)), (1, .int a0), (2, .int 0)] rfl ?_
  exact J2 _ 0 (jv_w (jv_k (x := 0) 0 (by decide)) (by decide)) (Nat.lt_succ_self _)
theorem e_X0_feelCloth_0 : g_dc cX0_feelCloth 0 (.aload_n 0) 1 1 := ⟨by decide +kernel, rfl⟩
theorem e_X0_feelCloth_1 : g_dc cX0_feelCloth 1 (.getfield 39) 3 4 := ⟨by decide +kernel, rfl⟩
theorem e_X0_feelCloth_4 : g_dc cX0_feelCloth 4 (.iload_n 1) 1 5 := ⟨by decide +kernel, rfl⟩
theorem e_X0_feelCloth_5 : g_dc cX0_feelCloth 5 (.iaload) 1 6 := ⟨by decide +kernel, rfl⟩
theorem e_X0_feelCloth_6 : g_dc cX0_feelCloth 6 (.istore_n 2) 1 7 := ⟨by decide +kernel, rfl⟩
theorem e_X0_feelCloth_7 : g_dc cX0_feelCloth 7 (.aload_n 0) 1 8 := ⟨by decide +kernel, rfl⟩
theorem e_X0_feelCloth_8 : g_dc cX0_feelCloth 8 (.getfield 35) 3 11 := ⟨by decide +kernel, rfl⟩
theorem e_X0_feelCloth_11 : g_dc cX0_feelCloth 11 (.getfield 159) 3 14 := ⟨by decide +kernel, rfl⟩
theorem e_X0_feelCloth_14 : g_dc cX0_feelCloth 14 (.iload_n 1) 1 15 := ⟨by decide +kernel, rfl⟩
theorem e_X0_feelCloth_15 : g_dc cX0_feelCloth 15 (.iaload) 1 16 := ⟨by decide +kernel, rfl⟩
theorem e_X0_feelCloth_16 : g_dc cX0_feelCloth 16 (.aload_n 0) 1 17 := ⟨by decide +kernel, rfl⟩
theorem e_X0_feelCloth_17 : g_dc cX0_feelCloth 17 (.getfield 35) 3 20 := ⟨by decide +kernel, rfl⟩
theorem e_X0_feelCloth_20 : g_dc cX0_feelCloth 20 (.getfield 156) 3 23 := ⟨by decide +kernel, rfl⟩
theorem e_X0_feelCloth_23 : g_dc cX0_feelCloth 23 (.if_icmp .ge 7) 3 26 := ⟨by decide +kernel, rfl⟩
theorem e_X0_feelCloth_26 : g_dc cX0_feelCloth 26 (.iconst 1) 1 27 := ⟨by decide +kernel, rfl⟩
theorem e_X0_feelCloth_27 : g_dc cX0_feelCloth 27 (.goto 4) 3 30 := ⟨by decide +kernel, rfl⟩
theorem e_X0_feelCloth_30 : g_dc cX0_feelCloth 30 (.iconst 0) 1 31 := ⟨by decide +kernel, rfl⟩
theorem e_X0_feelCloth_31 : g_dc cX0_feelCloth 31 (.istore_n 3) 1 32 := ⟨by decide +kernel, rfl⟩
theorem e_X0_feelCloth_32 : g_dc cX0_feelCloth 32 (.iload_n 3) 1 33 := ⟨by decide +kernel, rfl⟩
theorem e_X0_feelCloth_33 : g_dc cX0_feelCloth 33 (.ifCond .eq 23) 3 36 := ⟨by decide +kernel, rfl⟩
theorem e_X0_feelCloth_36 : g_dc cX0_feelCloth 36 (.aload_n 0) 1 37 := ⟨by decide +kernel, rfl⟩
theorem e_X0_feelCloth_37 : g_dc cX0_feelCloth 37 (.aload_n 0) 1 38 := ⟨by decide +kernel, rfl⟩
theorem e_X0_feelCloth_38 : g_dc cX0_feelCloth 38 (.getfield 35) 3 41 := ⟨by decide +kernel, rfl⟩
theorem e_X0_feelCloth_41 : g_dc cX0_feelCloth 41 (.getfield 159) 3 44 := ⟨by decide +kernel, rfl⟩
theorem e_X0_feelCloth_44 : g_dc cX0_feelCloth 44 (.iload_n 1) 1 45 := ⟨by decide +kernel, rfl⟩
theorem e_X0_feelCloth_45 : g_dc cX0_feelCloth 45 (.iaload) 1 46 := ⟨by decide +kernel, rfl⟩
theorem e_X0_feelCloth_46 : g_dc cX0_feelCloth 46 (.invokevirtual 162) 3 49 := ⟨by decide +kernel, rfl⟩
theorem e_X0_feelCloth_49 : g_dc cX0_feelCloth 49 (.ifCond .eq 7) 3 52 := ⟨by decide +kernel, rfl⟩
theorem e_X0_feelCloth_52 : g_dc cX0_feelCloth 52 (.iconst 1) 1 53 := ⟨by decide +kernel, rfl⟩
theorem e_X0_feelCloth_53 : g_dc cX0_feelCloth 53 (.goto 4) 3 56 := ⟨by decide +kernel, rfl⟩
theorem e_X0_feelCloth_56 : g_dc cX0_feelCloth 56 (.iconst 0) 1 57 := ⟨by decide +kernel, rfl⟩
theorem e_X0_feelCloth_57 : g_dc cX0_feelCloth 57 (.istore 4) 2 59 := ⟨by decide +kernel, rfl⟩
theorem e_X0_feelCloth_59 : g_dc cX0_feelCloth 59 (.aload_n 0) 1 60 := ⟨by decide +kernel, rfl⟩
theorem e_X0_feelCloth_60 : g_dc cX0_feelCloth 60 (.dup) 1 61 := ⟨by decide +kernel, rfl⟩
theorem e_X0_feelCloth_61 : g_dc cX0_feelCloth 61 (.getfield 65) 3 64 := ⟨by decide +kernel, rfl⟩
theorem e_X0_feelCloth_64 : g_dc cX0_feelCloth 64 (.iload_n 3) 1 65 := ⟨by decide +kernel, rfl⟩
theorem e_X0_feelCloth_65 : g_dc cX0_feelCloth 65 (.ifCond .eq 9) 3 68 := ⟨by decide +kernel, rfl⟩
theorem e_X0_feelCloth_68 : g_dc cX0_feelCloth 68 (.iconst 1) 1 69 := ⟨by decide +kernel, rfl⟩
theorem e_X0_feelCloth_69 : g_dc cX0_feelCloth 69 (.iload_n 1) 1 70 := ⟨by decide +kernel, rfl⟩
theorem e_X0_feelCloth_70 : g_dc cX0_feelCloth 70 (.ishl) 1 71 := ⟨by decide +kernel, rfl⟩
theorem e_X0_feelCloth_71 : g_dc cX0_feelCloth 71 (.goto 4) 3 74 := ⟨by decide +kernel, rfl⟩
theorem e_X0_feelCloth_74 : g_dc cX0_feelCloth 74 (.iconst 0) 1 75 := ⟨by decide +kernel, rfl⟩
theorem e_X0_feelCloth_75 : g_dc cX0_feelCloth 75 (.ior) 1 76 := ⟨by decide +kernel, rfl⟩
theorem e_X0_feelCloth_76 : g_dc cX0_feelCloth 76 (.putfield 65) 3 79 := ⟨by decide +kernel, rfl⟩
theorem e_X0_feelCloth_79 : g_dc cX0_feelCloth 79 (.iload_n 2) 1 80 := ⟨by decide +kernel, rfl⟩
theorem e_X0_feelCloth_80 : g_dc cX0_feelCloth 80 (.iload_n 3) 1 81 := ⟨by decide +kernel, rfl⟩
theorem e_X0_feelCloth_81 : g_dc cX0_feelCloth 81 (.ifCond .eq 10) 3 84 := ⟨by decide +kernel, rfl⟩
theorem e_X0_feelCloth_84 : g_dc cX0_feelCloth 84 (.aload_n 0) 1 85 := ⟨by decide +kernel, rfl⟩
theorem e_X0_feelCloth_85 : g_dc cX0_feelCloth 85 (.getfield 62) 3 88 := ⟨by decide +kernel, rfl⟩
theorem e_X0_feelCloth_88 : g_dc cX0_feelCloth 88 (.goto 4) 3 91 := ⟨by decide +kernel, rfl⟩
theorem e_X0_feelCloth_91 : g_dc cX0_feelCloth 91 (.iconst 0) 1 92 := ⟨by decide +kernel, rfl⟩
theorem e_X0_feelCloth_92 : g_dc cX0_feelCloth 92 (.if_icmp .ne 9) 3 95 := ⟨by decide +kernel, rfl⟩
theorem e_X0_feelCloth_95 : g_dc cX0_feelCloth 95 (.iload 4) 2 97 := ⟨by decide +kernel, rfl⟩
theorem e_X0_feelCloth_97 : g_dc cX0_feelCloth 97 (.ifCond .ne 4) 3 100 := ⟨by decide +kernel, rfl⟩
theorem e_X0_feelCloth_100 : g_dc cX0_feelCloth 100 (.return_) 1 101 := ⟨by decide +kernel, rfl⟩
theorem e_X0_feelCloth_101 : g_dc cX0_feelCloth 101 (.aload_n 0) 1 102 := ⟨by decide +kernel, rfl⟩
theorem e_X0_feelCloth_102 : g_dc cX0_feelCloth 102 (.iload_n 1) 1 103 := ⟨by decide +kernel, rfl⟩
theorem e_X0_feelCloth_103 : g_dc cX0_feelCloth 103 (.invokevirtual 165) 3 106 := ⟨by decide +kernel, rfl⟩
theorem e_X0_feelCloth_106 : g_dc cX0_feelCloth 106 (.iload_n 3) 1 107 := ⟨by decide +kernel, rfl⟩
theorem e_X0_feelCloth_107 : g_dc cX0_feelCloth 107 (.ifCond .ne 26) 3 110 := ⟨by decide +kernel, rfl⟩
theorem e_X0_feelCloth_110 : g_dc cX0_feelCloth 110 (.aload_n 0) 1 111 := ⟨by decide +kernel, rfl⟩
theorem e_X0_feelCloth_111 : g_dc cX0_feelCloth 111 (.getfield 39) 3 114 := ⟨by decide +kernel, rfl⟩
theorem e_X0_feelCloth_114 : g_dc cX0_feelCloth 114 (.iload_n 1) 1 115 := ⟨by decide +kernel, rfl⟩
theorem e_X0_feelCloth_115 : g_dc cX0_feelCloth 115 (.iconst 0) 1 116 := ⟨by decide +kernel, rfl⟩
theorem e_X0_feelCloth_116 : g_dc cX0_feelCloth 116 (.iload_n 2) 1 117 := ⟨by decide +kernel, rfl⟩
theorem e_X0_feelCloth_117 : g_dc cX0_feelCloth 117 (.aload_n 0) 1 118 := ⟨by decide +kernel, rfl⟩
theorem e_X0_feelCloth_118 : g_dc cX0_feelCloth 118 (.getfield 71) 3 121 := ⟨by decide +kernel, rfl⟩
theorem e_X0_feelCloth_121 : g_dc cX0_feelCloth 121 (.iconst 1) 1 122 := ⟨by decide +kernel, rfl⟩
theorem e_X0_feelCloth_122 : g_dc cX0_feelCloth 122 (.invokevirtual 149) 3 125 := ⟨by decide +kernel, rfl⟩
theorem e_X0_feelCloth_125 : g_dc cX0_feelCloth 125 (.isub) 1 126 := ⟨by decide +kernel, rfl⟩
theorem e_X0_feelCloth_126 : g_dc cX0_feelCloth 126 (.invokestatic 152) 3 129 := ⟨by decide +kernel, rfl⟩
theorem e_X0_feelCloth_129 : g_dc cX0_feelCloth 129 (.iastore) 1 130 := ⟨by decide +kernel, rfl⟩
theorem e_X0_feelCloth_130 : g_dc cX0_feelCloth 130 (.goto 46) 3 133 := ⟨by decide +kernel, rfl⟩
theorem e_X0_feelCloth_133 : g_dc cX0_feelCloth 133 (.iload_n 2) 1 134 := ⟨by decide +kernel, rfl⟩
theorem e_X0_feelCloth_134 : g_dc cX0_feelCloth 134 (.aload_n 0) 1 135 := ⟨by decide +kernel, rfl⟩
theorem e_X0_feelCloth_135 : g_dc cX0_feelCloth 135 (.getfield 62) 3 138 := ⟨by decide +kernel, rfl⟩
theorem e_X0_feelCloth_138 : g_dc cX0_feelCloth 138 (.if_icmp .le 15) 3 141 := ⟨by decide +kernel, rfl⟩
theorem e_X0_feelCloth_141 : g_dc cX0_feelCloth 141 (.aload_n 0) 1 142 := ⟨by decide +kernel, rfl⟩
theorem e_X0_feelCloth_142 : g_dc cX0_feelCloth 142 (.getfield 39) 3 145 := ⟨by decide +kernel, rfl⟩
theorem e_X0_feelCloth_145 : g_dc cX0_feelCloth 145 (.iload_n 1) 1 146 := ⟨by decide +kernel, rfl⟩
theorem e_X0_feelCloth_146 : g_dc cX0_feelCloth 146 (.iload_n 2) 1 147 := ⟨by decide +kernel, rfl⟩
theorem e_X0_feelCloth_147 : g_dc cX0_feelCloth 147 (.iconst 1) 1 148 := ⟨by decide +kernel, rfl⟩
theorem e_X0_feelCloth_148 : g_dc cX0_feelCloth 148 (.isub) 1 149 := ⟨by decide +kernel, rfl⟩
theorem e_X0_feelCloth_149 : g_dc cX0_feelCloth 149 (.iastore) 1 150 := ⟨by decide +kernel, rfl⟩
theorem e_X0_feelCloth_150 : g_dc cX0_feelCloth 150 (.goto 26) 3 153 := ⟨by decide +kernel, rfl⟩
theorem e_X0_feelCloth_153 : g_dc cX0_feelCloth 153 (.aload_n 0) 1 154 := ⟨by decide +kernel, rfl⟩
theorem e_X0_feelCloth_154 : g_dc cX0_feelCloth 154 (.getfield 39) 3 157 := ⟨by decide +kernel, rfl⟩
theorem e_X0_feelCloth_157 : g_dc cX0_feelCloth 157 (.iload_n 1) 1 158 := ⟨by decide +kernel, rfl⟩
theorem e_X0_feelCloth_158 : g_dc cX0_feelCloth 158 (.iload_n 2) 1 159 := ⟨by decide +kernel, rfl⟩
theorem e_X0_feelCloth_159 : g_dc cX0_feelCloth 159 (.aload_n 0) 1 160 := ⟨by decide +kernel, rfl⟩
theorem e_X0_feelCloth_160 : g_dc cX0_feelCloth 160 (.getfield 71) 3 163 := ⟨by decide +kernel, rfl⟩
theorem e_X0_feelCloth_163 : g_dc cX0_feelCloth 163 (.iconst 0) 1 164 := ⟨by decide +kernel, rfl⟩
theorem e_X0_feelCloth_164 : g_dc cX0_feelCloth 164 (.invokevirtual 149) 3 167 := ⟨by decide +kernel, rfl⟩
theorem e_X0_feelCloth_167 : g_dc cX0_feelCloth 167 (.iadd) 1 168 := ⟨by decide +kernel, rfl⟩
theorem e_X0_feelCloth_168 : g_dc cX0_feelCloth 168 (.aload_n 0) 1 169 := ⟨by decide +kernel, rfl⟩
theorem e_X0_feelCloth_169 : g_dc cX0_feelCloth 169 (.getfield 62) 3 172 := ⟨by decide +kernel, rfl⟩
theorem e_X0_feelCloth_172 : g_dc cX0_feelCloth 172 (.invokestatic 168) 3 175 := ⟨by decide +kernel, rfl⟩
theorem e_X0_feelCloth_175 : g_dc cX0_feelCloth 175 (.iastore) 1 176 := ⟨by decide +kernel, rfl⟩
theorem e_X0_feelCloth_176 : g_dc cX0_feelCloth 176 (.iload 4) 2 178 := ⟨by decide +kernel, rfl⟩
theorem e_X0_feelCloth_178 : g_dc cX0_feelCloth 178 (.ifCond .eq 20) 3 181 := ⟨by decide +kernel, rfl⟩
theorem e_X0_feelCloth_181 : g_dc cX0_feelCloth 181 (.aload_n 0) 1 182 := ⟨by decide +kernel, rfl⟩
theorem e_X0_feelCloth_182 : g_dc cX0_feelCloth 182 (.getfield 39) 3 185 := ⟨by decide +kernel, rfl⟩
theorem e_X0_feelCloth_185 : g_dc cX0_feelCloth 185 (.iload_n 1) 1 186 := ⟨by decide +kernel, rfl⟩
theorem e_X0_feelCloth_186 : g_dc cX0_feelCloth 186 (.dup2) 1 187 := ⟨by decide +kernel, rfl⟩
theorem e_X0_feelCloth_187 : g_dc cX0_feelCloth 187 (.iaload) 1 188 := ⟨by decide +kernel, rfl⟩
theorem e_X0_feelCloth_188 : g_dc cX0_feelCloth 188 (.aload_n 0) 1 189 := ⟨by decide +kernel, rfl⟩
theorem e_X0_feelCloth_189 : g_dc cX0_feelCloth 189 (.getfield 71) 3 192 := ⟨by decide +kernel, rfl⟩
theorem e_X0_feelCloth_192 : g_dc cX0_feelCloth 192 (.iconst 3) 1 193 := ⟨by decide +kernel, rfl⟩
theorem e_X0_feelCloth_193 : g_dc cX0_feelCloth 193 (.invokevirtual 149) 3 196 := ⟨by decide +kernel, rfl⟩
theorem e_X0_feelCloth_196 : g_dc cX0_feelCloth 196 (.iadd) 1 197 := ⟨by decide +kernel, rfl⟩
theorem e_X0_feelCloth_197 : g_dc cX0_feelCloth 197 (.iastore) 1 198 := ⟨by decide +kernel, rfl⟩
theorem e_X0_feelCloth_198 : g_dc cX0_feelCloth 198 (.return_) 1 199 := ⟨by decide +kernel, rfl⟩
def md_X0_feelCloth : List Nat := [605]
def mr_X0_feelCloth : List Nat := [23, 24, 38]
set_option maxHeartbeats 4000000 in
set_option maxRecDepth 100000 in
theorem w_X0_feelCloth (l : Launch) (X : gX) (ad : Nat → Nat) (F : Nat → Int32) (R : Nat → Nat → Int32) (hI : g_ok LK_wX F) (hA : g_okR LA_wX R) (a0 : Int32) (pa0 : jv 0 9 a0) : g_Cv l X yX0_feelCloth cX0_feelCloth 5 4 0 0 [.ref (ad 37), .int a0] (wX X ad F R) (fun w => ∃ (F' : Nat → Int32) (R' : Nat → Nat → Int32), w = wX X ad F' R' ∧ g_ok LK_wX F' ∧ g_okR LA_wX R' ∧ g_fr md_X0_feelCloth F F' ∧ g_fr mr_X0_feelCloth R R') := by
  refine g_mv (by decide +kernel) (Nat.le_of_ble_eq_true rfl) (fun E cx hret => ?_)
  refine g_aload_n cx 0 rfl e_X0_feelCloth_0 ?_
  refine g_get cx cl_X0 fl_X0_39 37 (.ref (ad 38)) e_X0_feelCloth_1 rfl rfl ?_
  refine g_iload_n cx 1 rfl e_X0_feelCloth_4 ?_
  refine g_iald cx 38 e_X0_feelCloth_5 rfl (jv_ix 10 pa0 (by decide)) ?_
  refine g_topi (fun x1 ex1 => ?_)
  refine g_istore_n cx [(2, .int x1), (0, .ref (ad 37)), (1, .int a0)] e_X0_feelCloth_6 (by decide) rfl ?_
  refine g_aload_n cx 1 rfl e_X0_feelCloth_7 ?_
  refine g_get cx cl_X0 fl_X0_35 37 (.ref (ad 43)) e_X0_feelCloth_8 rfl rfl ?_
  refine g_getN cx cl_X4 fn_X0_159 43 (.ref (ad 44)) e_X0_feelCloth_11 rfl rfl ?_
  refine g_iload_n cx 2 rfl e_X0_feelCloth_14 ?_
  refine g_iald cx 44 e_X0_feelCloth_15 rfl (jv_ix 10 pa0 (by decide)) ?_
  refine g_topi (fun x2 ex2 => ?_)
  refine g_aload_n cx 1 rfl e_X0_feelCloth_16 ?_
  refine g_get cx cl_X0 fl_X0_35 37 (.ref (ad 43)) e_X0_feelCloth_17 rfl rfl ?_
  refine g_getN cx cl_X4 fn_X0_156 43 (.int (F 698)) e_X0_feelCloth_20 rfl rfl ?_
  have J31 : ∀ (y3 : Int32), (jv 0 1 y3) → G X E 5 0 0 (wX X ad F R) [(0, .ref (ad 37)), (1, .int a0), (2, .int x1)] 31 [.int y3] := by
    intro y3 py3
    refine g_istore_n cx [(3, .int y3), (0, .ref (ad 37)), (1, .int a0), (2, .int x1)] e_X0_feelCloth_31 (by decide) rfl ?_
    refine g_iload_n cx 0 rfl e_X0_feelCloth_32 ?_
    have J57 : ∀ (y4 : Int32), (jv 0 1 y4) → G X E 5 0 0 (wX X ad F R) [(0, .ref (ad 37)), (1, .int a0), (2, .int x1), (3, .int y3)] 57 [.int y4] := by
      intro y4 py4
      refine g_istore cx [(4, .int y4), (0, .ref (ad 37)), (1, .int a0), (2, .int x1), (3, .int y3)] e_X0_feelCloth_57 (by decide) rfl ?_
      refine g_aload_n cx 1 rfl e_X0_feelCloth_59 ?_
      refine g_dup cx rfl e_X0_feelCloth_60 ?_
      refine g_get cx cl_X0 fl_X0_65 37 (.int (F 605)) e_X0_feelCloth_61 rfl rfl ?_
      refine g_iload_n cx 4 rfl e_X0_feelCloth_64 ?_
      have J75 : ∀ (y5 : Int32), (jv (-2147483648) 2147483647 y5) → G X E 5 0 0 (wX X ad F R) [(0, .ref (ad 37)), (1, .int a0), (2, .int x1), (3, .int y3), (4, .int y4)] 75 [.int y5, .int (F 605), .ref (ad 37)] := by
        intro y5 py5
        refine g_ior cx e_X0_feelCloth_75 ?_
        refine g_topi (fun x6 ex6 => ?_)
        refine g_put cx cl_X0 fl_X0_65 37 (wX X ad (upd F 605 x6) R) e_X0_feelCloth_76 rfl rfl rfl rfl (Nat.le_of_ble_eq_true rfl) rfl ?_
        obtain ⟨F7, hF7⟩ : ∃ z, z = upd F 605 x6 := ⟨_, rfl⟩
        rw [← hF7]
        have oF7 : g_ok LK_wX F7 := by rw [hF7]; exact g_ok_u hI rfl
        have fF7 : g_fr md_X0_feelCloth F F7 := by rw [hF7]; exact g_fr_u (g_fr_rf F) rfl
        refine g_iload_n cx 2 rfl e_X0_feelCloth_79 ?_
        refine g_iload_n cx 3 rfl e_X0_feelCloth_80 ?_
        have J92 : ∀ (y8 : Int32), (jv (-2147483648) 2147483647 y8) → G X E 5 0 0 (wX X ad F7 R) [(0, .ref (ad 37)), (1, .int a0), (2, .int x1), (3, .int y3), (4, .int y4)] 92 [.int y8, .int x1] := by
          intro y8 py8
          have J101 : G X E 5 0 0 (wX X ad F7 R) [(0, .ref (ad 37)), (1, .int a0), (2, .int x1), (3, .int y3), (4, .int y4)] 101 [] := by
            refine g_aload_n cx 0 rfl e_X0_feelCloth_101 ?_
            refine g_iload_n cx 1 rfl e_X0_feelCloth_102 ?_
            refine g_cVvW cx [.int a0] [] (w_X0_describe l X ad F7 R oF7 hA a0 pa0) ml_X0_165 yV_X0_describe e_X0_feelCloth_103 (by unfold g_rr; decide) (by decide) 37 rfl rfl rfl (Nat.le_of_ble_eq_true rfl) (fun w10 h11 => ?_)
            obtain ⟨F12, R13, rfl, oF12, oR13, cF12, cR13⟩ := h11
            have fF12 : g_fr md_X0_feelCloth F F12 := g_fr_c fF7 cF12 rfl
            have fR13 : g_fr mr_X0_feelCloth R R13 := g_fr_c (g_fr_rf R) cR13 rfl
            refine g_iload_n cx 3 rfl e_X0_feelCloth_106 ?_
            have J176 : ∀ (F14 : Nat → Int32) (R15 : Nat → Nat → Int32), (g_ok LK_wX F14) → (g_fr md_X0_feelCloth F F14) → (g_okR LA_wX R15) → (g_fr mr_X0_feelCloth R R15) → G X E 5 0 0 (wX X ad F14 R15) [(0, .ref (ad 37)), (1, .int a0), (4, .int y4)] 176 [] := by
              intro F14 R15 oF14 fF14 oR15 fR15
              refine g_iload cx 2 rfl e_X0_feelCloth_176 ?_
              have J198 : ∀ (F16 : Nat → Int32) (R17 : Nat → Nat → Int32), (g_ok LK_wX F16) → (g_fr md_X0_feelCloth F F16) → (g_okR LA_wX R17) → (g_fr mr_X0_feelCloth R R17) → G X E 5 0 0 (wX X ad F16 R17) [] 198 [] := by
                intro F16 R17 oF16 fF16 oR17 fR17
                exact hret e_X0_feelCloth_198 (Nat.le_of_ble_eq_true rfl) (Nat.le_of_ble_eq_true rfl) ⟨F16, R17, rfl, oF16, oR17, fF16, fR17⟩
              refine g_if_eq cx 198 e_X0_feelCloth_178 (by decide) (fun zc18 => ?_) (fun zc18 => ?_)
              · have p19 := gn_eq 0 0 (gc_eq zc18) py4 (jv_k (x := 0) 0 (by decide)) (by decide)
                refine g_lsub [] [] rfl ?_
                exact J198 F14 R15 oF14 fF14 oR15 fR15
              · have p20 := gn_neL 1 1 (gc_ne zc18) py4 (jv_k (x := 0) 0 (by decide)) (by decide)
                refine g_aload_n cx 0 rfl e_X0_feelCloth_181 ?_
                refine g_get cx cl_X0 fl_X0_39 37 (.ref (ad 38)) e_X0_feelCloth_182 rfl rfl ?_
                refine g_iload_n cx 1 rfl e_X0_feelCloth_185 ?_
                refine g_dup2 cx rfl rfl e_X0_feelCloth_186 ?_
                refine g_iald cx 38 e_X0_feelCloth_187 rfl (jv_ix 10 pa0 (by decide)) ?_
                refine g_topi (fun x21 ex21 => ?_)
                refine g_aload_n cx 0 rfl e_X0_feelCloth_188 ?_
                refine g_get cx cl_X0 fl_X0_71 37 (.ref (ad 17)) e_X0_feelCloth_189 rfl rfl ?_
                refine g_iconst cx 3 (by decide) e_X0_feelCloth_192 ?_
                refine g_cViW cx [.int 3] [.int x21, .int a0, .ref (ad 38)] (w_X2_ask_17 l X ad F14 R15 oF14 oR15 3) ml_X0_149 yV_X2_ask e_X0_feelCloth_193 (by unfold g_rr; decide) (by decide) 17 rfl rfl rfl (Nat.le_of_ble_eq_true rfl) (fun r22 w23 h24 => ?_)
                obtain ⟨F25, R26, rfl, oF25, oR26, cF25, cR26, pr22⟩ := h24
                have fF25 : g_fr md_X0_feelCloth F F25 := g_fr_c fF14 cF25 rfl
                have fR26 : g_fr mr_X0_feelCloth R R26 := g_fr_c fR15 cR26 rfl
                refine g_iadd cx e_X0_feelCloth_196 ?_
                refine g_topi (fun x27 ex27 => ?_)
                refine g_iast cx 38 (wX X ad F25 (g_u R26 38 (upd (R26 38) (Int32.toNatClampNeg a0) x27))) e_X0_feelCloth_197 rfl (jv_ix 10 pa0 (by decide)) rfl ?_
                obtain ⟨R28, hR28⟩ : ∃ z, z = g_u R26 38 (upd (R26 38) (Int32.toNatClampNeg a0) x27) := ⟨_, rfl⟩
                rw [← hR28]
                have oR28 : g_okR LA_wX R28 := by rw [hR28]; exact g_okR_u oR26 rfl
                have fR28 : g_fr mr_X0_feelCloth R R28 := by rw [hR28]; exact g_fr_r fR26 rfl
                refine g_lsub [] [] rfl ?_
                exact J198 F25 R28 oF25 fF25 oR28 fR28
            refine g_if_ne cx 133 e_X0_feelCloth_107 (by decide) (fun zc29 => ?_) (fun zc29 => ?_)
            · have p30 := gn_neL 1 1 (gc_ne zc29) py3 (jv_k (x := 0) 0 (by decide)) (by decide)
              refine g_iload_n cx 2 rfl e_X0_feelCloth_133 ?_
              refine g_aload_n cx 0 rfl e_X0_feelCloth_134 ?_
              refine g_get cx cl_X0 fl_X0_62 37 (.int (F12 604)) e_X0_feelCloth_135 rfl rfl ?_
              refine g_toi (F 604) ((cF12 604 rfl).trans (g_pu2 hF7 rfl)) ?_
              refine g_icmp_le cx 153 e_X0_feelCloth_138 (by decide) (fun zc31 => ?_) (fun zc31 => ?_)
              · refine g_aload_n cx 0 rfl e_X0_feelCloth_153 ?_
                refine g_get cx cl_X0 fl_X0_39 37 (.ref (ad 38)) e_X0_feelCloth_154 rfl rfl ?_
                refine g_iload_n cx 1 rfl e_X0_feelCloth_157 ?_
                refine g_iload_n cx 2 rfl e_X0_feelCloth_158 ?_
                refine g_aload_n cx 0 rfl e_X0_feelCloth_159 ?_
                refine g_get cx cl_X0 fl_X0_71 37 (.ref (ad 17)) e_X0_feelCloth_160 rfl rfl ?_
                refine g_iconst cx 0 (by decide) e_X0_feelCloth_163 ?_
                refine g_cViW cx [.int 0] [.int x1, .int a0, .ref (ad 38)] (w_X2_ask_17 l X ad F12 R13 oF12 oR13 0) ml_X0_149 yV_X2_ask e_X0_feelCloth_164 (by unfold g_rr; decide) (by decide) 17 rfl rfl rfl (Nat.le_of_ble_eq_true rfl) (fun r32 w33 h34 => ?_)
                obtain ⟨F35, R36, rfl, oF35, oR36, cF35, cR36, pr32⟩ := h34
                have fF35 : g_fr md_X0_feelCloth F F35 := g_fr_c fF12 cF35 rfl
                have fR36 : g_fr mr_X0_feelCloth R R36 := g_fr_c fR13 cR36 rfl
                refine g_iadd cx e_X0_feelCloth_167 ?_
                refine g_topi (fun x37 ex37 => ?_)
                refine g_aload_n cx 0 rfl e_X0_feelCloth_168 ?_
                refine g_get cx cl_X0 fl_X0_62 37 (.int (F35 604)) e_X0_feelCloth_169 rfl rfl ?_
                refine g_toi (F 604) (((cF35 604 rfl).trans (cF12 604 rfl)).trans (g_pu2 hF7 rfl)) ?_
                refine g_mmin cx ml_X0_168 e_X0_feelCloth_172 ⟨Nat.le_of_ble_eq_true rfl, Nat.le_of_ble_eq_true rfl⟩ (by decide) ?_
                refine g_topi (fun x38 ex38 => ?_)
                refine g_iast cx 38 (wX X ad F35 (g_u R36 38 (upd (R36 38) (Int32.toNatClampNeg a0) x38))) e_X0_feelCloth_175 rfl (jv_ix 10 pa0 (by decide)) rfl ?_
                obtain ⟨R39, hR39⟩ : ∃ z, z = g_u R36 38 (upd (R36 38) (Int32.toNatClampNeg a0) x38) := ⟨_, rfl⟩
                rw [← hR39]
                have oR39 : g_okR LA_wX R39 := by rw [hR39]; exact g_okR_u oR36 rfl
                have fR39 : g_fr mr_X0_feelCloth R R39 := by rw [hR39]; exact g_fr_r fR36 rfl
                refine g_lsub [0, 1, 4] [(0, .ref (ad 37)), (1, .int a0), (4, .int y4)] rfl ?_
                exact J176 F35 R39 oF35 fF35 oR39 fR39
              · have p40 := gn_lt (-2147483648) 2147483646 (gc_nle zc31) (jv_t (F 604)) (jv_t x1) (by decide)
                have p41 := gn_gt (-2147483647) 2147483647 (gc_nle zc31) (jv_t x1) (jv_t (F 604)) (by decide)
                refine g_aload_n cx 0 rfl e_X0_feelCloth_141 ?_
                refine g_get cx cl_X0 fl_X0_39 37 (.ref (ad 38)) e_X0_feelCloth_142 rfl rfl ?_
                refine g_iload_n cx 1 rfl e_X0_feelCloth_145 ?_
                refine g_iload_n cx 2 rfl e_X0_feelCloth_146 ?_
                refine g_iconst cx 1 (by decide) e_X0_feelCloth_147 ?_
                refine g_isub cx e_X0_feelCloth_148 ?_
                refine g_topi (fun x42 ex42 => ?_)
                have zx42 := jv_sub (-2147483648) 2147483646 ex42 p41 (jv_k (x := 1) 1 (by decide)) (by decide)
                refine g_iast cx 38 (wX X ad F12 (g_u R13 38 (upd (R13 38) (Int32.toNatClampNeg a0) x42))) e_X0_feelCloth_149 rfl (jv_ix 10 pa0 (by decide)) rfl ?_
                obtain ⟨R43, hR43⟩ : ∃ z, z = g_u R13 38 (upd (R13 38) (Int32.toNatClampNeg a0) x42) := ⟨_, rfl⟩
                rw [← hR43]
                have oR43 : g_okR LA_wX R43 := by rw [hR43]; exact g_okR_u oR13 rfl
                have fR43 : g_fr mr_X0_feelCloth R R43 := by rw [hR43]; exact g_fr_r fR13 rfl
                refine g_goto cx 176 e_X0_feelCloth_150 (by decide) ?_
                refine g_lsub [0, 1, 4] [(0, .ref (ad 37)), (1, .int a0), (4, .int y4)] rfl ?_
                exact J176 F12 R43 oF12 fF12 oR43 fR43
            · have p44 := gn_eq 0 0 (gc_eq zc29) py3 (jv_k (x := 0) 0 (by decide)) (by decide)
              refine g_aload_n cx 0 rfl e_X0_feelCloth_110 ?_
              refine g_get cx cl_X0 fl_X0_39 37 (.ref (ad 38)) e_X0_feelCloth_111 rfl rfl ?_
              refine g_iload_n cx 1 rfl e_X0_feelCloth_114 ?_
              refine g_iconst cx 0 (by decide) e_X0_feelCloth_115 ?_
              refine g_iload_n cx 2 rfl e_X0_feelCloth_116 ?_
              refine g_aload_n cx 0 rfl e_X0_feelCloth_117 ?_
              refine g_get cx cl_X0 fl_X0_71 37 (.ref (ad 17)) e_X0_feelCloth_118 rfl rfl ?_
              refine g_iconst cx 1 (by decide) e_X0_feelCloth_121 ?_
              refine g_cViW cx [.int 1] [.int x1, .int 0, .int a0, .ref (ad 38)] (w_X2_ask_17 l X ad F12 R13 oF12 oR13 1) ml_X0_149 yV_X2_ask e_X0_feelCloth_122 (by unfold g_rr; decide) (by decide) 17 rfl rfl rfl (Nat.le_of_ble_eq_true rfl) (fun r45 w46 h47 => ?_)
              obtain ⟨F48, R49, rfl, oF48, oR49, cF48, cR49, pr45⟩ := h47
              have fF48 : g_fr md_X0_feelCloth F F48 := g_fr_c fF12 cF48 rfl
              have fR49 : g_fr mr_X0_feelCloth R R49 := g_fr_c fR13 cR49 rfl
              refine g_isub cx e_X0_feelCloth_125 ?_
              refine g_topi (fun x50 ex50 => ?_)
              refine g_mmax cx ml_X0_152 e_X0_feelCloth_126 ⟨Nat.le_of_ble_eq_true rfl, Nat.le_of_ble_eq_true rfl⟩ (by decide) ?_
              refine g_topi (fun x51 ex51 => ?_)
              have px51 := jv_max 0 2147483647 ex51 (jv_k (x := 0) 0 (by decide)) (jv_t x50) (by decide)
              refine g_iast cx 38 (wX X ad F48 (g_u R49 38 (upd (R49 38) (Int32.toNatClampNeg a0) x51))) e_X0_feelCloth_129 rfl (jv_ix 10 pa0 (by decide)) rfl ?_
              obtain ⟨R52, hR52⟩ : ∃ z, z = g_u R49 38 (upd (R49 38) (Int32.toNatClampNeg a0) x51) := ⟨_, rfl⟩
              rw [← hR52]
              have oR52 : g_okR LA_wX R52 := by rw [hR52]; exact g_okR_u oR49 rfl
              have fR52 : g_fr mr_X0_feelCloth R R52 := by rw [hR52]; exact g_fr_r fR49 rfl
              refine g_goto cx 176 e_X0_feelCloth_130 (by decide) ?_
              refine g_lsub [0, 1, 4] [(0, .ref (ad 37)), (1, .int a0), (4, .int y4)] rfl ?_
              exact J176 F48 R52 oF48 fF48 oR52 fR52
          refine g_icmp_ne cx 101 e_X0_feelCloth_92 (by decide) (fun zc53 => ?_) (fun zc53 => ?_)
          · exact J101  
          · refine g_iload cx 4 rfl e_X0_feelCloth_95 ?_
            refine g_if_ne cx 101 e_X0_feelCloth_97 (by decide) (fun zc54 => ?_) (fun zc54 => ?_)
            · have p55 := gn_neL 1 1 (gc_ne zc54) py4 (jv_k (x := 0) 0 (by decide)) (by decide)
              exact J101  
            · have p56 := gn_eq 0 0 (gc_eq zc54) py4 (jv_k (x := 0) 0 (by decide)) (by decide)
              exact hret e_X0_feelCloth_100 (Nat.le_of_ble_eq_true rfl) (Nat.le_of_ble_eq_true rfl) ⟨F7, R, rfl, oF7, hA, fF7, (g_fr_rf R)⟩
        refine g_if_eq cx 91 e_X0_feelCloth_81 (by decide) (fun zc57 => ?_) (fun zc57 => ?_)
        · have p58 := gn_eq 0 0 (gc_eq zc57) py3 (jv_k (x := 0) 0 (by decide)) (by decide)
          refine g_iconst cx 0 (by decide) e_X0_feelCloth_91 ?_
          exact J92 0 (jv_w (jv_k (x := 0) 0 (by decide)) (by decide))
        · have p59 := gn_neL 1 1 (gc_ne zc57) py3 (jv_k (x := 0) 0 (by decide)) (by decide)
          refine g_aload_n cx 0 rfl e_X0_feelCloth_84 ?_
          refine g_get cx cl_X0 fl_X0_62 37 (.int (F7 604)) e_X0_feelCloth_85 rfl rfl ?_
          refine g_toi (F 604) (g_pu2 hF7 rfl) ?_
          refine g_goto cx 92 e_X0_feelCloth_88 (by decide) ?_
          exact J92 (F 604) (jv_t (F 604))
      refine g_if_eq cx 74 e_X0_feelCloth_65 (by decide) (fun zc60 => ?_) (fun zc60 => ?_)
      · have p61 := gn_eq 0 0 (gc_eq zc60) py3 (jv_k (x := 0) 0 (by decide)) (by decide)
        refine g_iconst cx 0 (by decide) e_X0_feelCloth_74 ?_
        refine g_lsub [1, 2, 3, 4, 0] [(0, .ref (ad 37)), (1, .int a0), (2, .int x1), (3, .int y3), (4, .int y4)] rfl ?_
        exact J75 0 (jv_w (jv_k (x := 0) 0 (by decide)) (by decide))
      · have p62 := gn_neL 1 1 (gc_ne zc60) py3 (jv_k (x := 0) 0 (by decide)) (by decide)
        refine g_iconst cx 1 (by decide) e_X0_feelCloth_68 ?_
        refine g_iload_n cx 2 rfl e_X0_feelCloth_69 ?_
        refine g_ishl cx e_X0_feelCloth_70 ?_
        refine g_topi (fun x63 ex63 => ?_)
        refine g_goto cx 75 e_X0_feelCloth_71 (by decide) ?_
        refine g_lsub [1, 2, 3, 4, 0] [(0, .ref (ad 37)), (1, .int a0), (2, .int x1), (3, .int y3), (4, .int y4)] rfl ?_
        exact J75 x63 (jv_t x63)
    have J56 : G X E 5 0 0 (wX X ad F R) [(0, .ref (ad 37)), (1, .int a0), (2, .int x1), (3, .int y3)] 56 [] := by
      refine g_iconst cx 0 (by decide) e_X0_feelCloth_56 ?_
      exact J57 0 (jv_w (jv_k (x := 0) 0 (by decide)) (by decide))
    refine g_if_eq cx 56 e_X0_feelCloth_33 (by decide) (fun zc64 => ?_) (fun zc64 => ?_)
    · have p65 := gn_eq 0 0 (gc_eq zc64) py3 (jv_k (x := 0) 0 (by decide)) (by decide)
      refine g_lsub [1, 2, 3, 0] [(0, .ref (ad 37)), (1, .int a0), (2, .int x1), (3, .int y3)] rfl ?_
      exact J56  
    · have p66 := gn_neL 1 1 (gc_ne zc64) py3 (jv_k (x := 0) 0 (by decide)) (by decide)
      refine g_aload_n cx 1 rfl e_X0_feelCloth_36 ?_
      refine g_aload_n cx 1 rfl e_X0_feelCloth_37 ?_
      refine g_get cx cl_X0 fl_X0_35 37 (.ref (ad 43)) e_X0_feelCloth_38 rfl rfl ?_
      refine g_getN cx cl_X4 fn_X0_159 43 (.ref (ad 44)) e_X0_feelCloth_41 rfl rfl ?_
      refine g_iload_n cx 2 rfl e_X0_feelCloth_44 ?_
      refine g_iald cx 44 e_X0_feelCloth_45 rfl (jv_ix 10 pa0 (by decide)) ?_
      refine g_topi (fun x67 ex67 => ?_)
      refine g_cViW cx [.int x67] [] (w_X0_foldPassed l X ad F R hI hA x67) ml_X0_162 yV_X0_foldPassed e_X0_feelCloth_46 (by unfold g_rr; decide) (by decide) 37 rfl rfl rfl (Nat.le_of_ble_eq_true rfl) (fun r68 w69 h70 => ?_)
      obtain ⟨rfl, pr68⟩ := h70
      refine g_if_eq cx 56 e_X0_feelCloth_49 (by decide) (fun zc71 => ?_) (fun zc71 => ?_)
      · have p72 := gn_eq 0 0 (gc_eq zc71) pr68 (jv_k (x := 0) 0 (by decide)) (by decide)
        refine g_lsub [1, 2, 3, 0] [(0, .ref (ad 37)), (1, .int a0), (2, .int x1), (3, .int y3)] rfl ?_
        exact J56  
      · have p73 := gn_neL 1 1 (gc_ne zc71) pr68 (jv_k (x := 0) 0 (by decide)) (by decide)
        refine g_iconst cx 1 (by decide) e_X0_feelCloth_52 ?_
        refine g_goto cx 57 e_X0_feelCloth_53 (by decide) ?_
        refine g_lsub [1, 2, 3, 0] [(0, .ref (ad 37)), (1, .int a0), (2, .int x1), (3, .int y3)] rfl ?_
        exact J57 1 (jv_w (jv_k (x := 1) 1 (by decide)) (by decide))
  refine g_icmp_ge cx 30 e_X0_feelCloth_23 (by decide) (fun zc74 => ?_) (fun zc74 => ?_)
  · refine g_iconst cx 0 (by decide) e_X0_feelCloth_30 ?_
    refine g_lsub [1, 2, 0] [(0, .ref (ad 37)), (1, .int a0), (2, .int x1)] rfl ?_
    exact J31 0 (jv_w (jv_k (x := 0) 0 (by decide)) (by decide))
  · have p75 := gn_lt (-2147483648) 2147483646 (gc_nle zc74) (jv_t x2) (jv_t (F 698)) (by decide)
    have p76 := gn_gt (-2147483647) 2147483647 (gc_nle zc74) (jv_t (F 698)) (jv_t x2) (by decide)
    refine g_iconst cx 1 (by decide) e_X0_feelCloth_26 ?_
    refine g_goto cx 31 e_X0_feelCloth_27 (by decide) ?_
    refine g_lsub [1, 2, 0] [(0, .ref (ad 37)), (1, .int a0), (2, .int x1)] rfl ?_
    exact J31 1 (jv_w (jv_k (x := 1) 1 (by decide)) (by decide))
theorem e_X0_shake_0 : g_dc cX0_shake 0 (.iload_n 2) 1 1 := ⟨by decide +kernel, rfl⟩
theorem e_X0_shake_1 : g_dc cX0_shake 1 (.ifCond .ne 4) 3 4 := ⟨by decide +kernel, rfl⟩
theorem e_X0_shake_4 : g_dc cX0_shake 4 (.return_) 1 5 := ⟨by decide +kernel, rfl⟩
theorem e_X0_shake_5 : g_dc cX0_shake 5 (.aload_n 0) 1 6 := ⟨by decide +kernel, rfl⟩
theorem e_X0_shake_6 : g_dc cX0_shake 6 (.getfield 12) 3 9 := ⟨by decide +kernel, rfl⟩
theorem e_X0_shake_9 : g_dc cX0_shake 9 (.iload_n 1) 1 10 := ⟨by decide +kernel, rfl⟩
theorem e_X0_shake_10 : g_dc cX0_shake 10 (.iconst 2) 1 11 := ⟨by decide +kernel, rfl⟩
theorem e_X0_shake_11 : g_dc cX0_shake 11 (.invokevirtual 171) 3 14 := ⟨by decide +kernel, rfl⟩
theorem e_X0_shake_14 : g_dc cX0_shake 14 (.istore_n 3) 1 15 := ⟨by decide +kernel, rfl⟩
theorem e_X0_shake_15 : g_dc cX0_shake 15 (.iload_n 3) 1 16 := ⟨by decide +kernel, rfl⟩
theorem e_X0_shake_16 : g_dc cX0_shake 16 (.ifCond .le 19) 3 19 := ⟨by decide +kernel, rfl⟩
theorem e_X0_shake_19 : g_dc cX0_shake 19 (.iload_n 2) 1 20 := ⟨by decide +kernel, rfl⟩
theorem e_X0_shake_20 : g_dc cX0_shake 20 (.aload_n 0) 1 21 := ⟨by decide +kernel, rfl⟩
theorem e_X0_shake_21 : g_dc cX0_shake 21 (.getfield 12) 3 24 := ⟨by decide +kernel, rfl⟩
theorem e_X0_shake_24 : g_dc cX0_shake 24 (.iload_n 1) 1 25 := ⟨by decide +kernel, rfl⟩
theorem e_X0_shake_25 : g_dc cX0_shake 25 (.iconst 3) 1 26 := ⟨by decide +kernel, rfl⟩
theorem e_X0_shake_26 : g_dc cX0_shake 26 (.invokevirtual 171) 3 29 := ⟨by decide +kernel, rfl⟩
theorem e_X0_shake_29 : g_dc cX0_shake 29 (.imul) 1 30 := ⟨by decide +kernel, rfl⟩
theorem e_X0_shake_30 : g_dc cX0_shake 30 (.iload_n 3) 1 31 := ⟨by decide +kernel, rfl⟩
theorem e_X0_shake_31 : g_dc cX0_shake 31 (.idiv) 1 32 := ⟨by decide +kernel, rfl⟩
theorem e_X0_shake_32 : g_dc cX0_shake 32 (.goto 4) 3 35 := ⟨by decide +kernel, rfl⟩
theorem e_X0_shake_35 : g_dc cX0_shake 35 (.iconst 0) 1 36 := ⟨by decide +kernel, rfl⟩
theorem e_X0_shake_36 : g_dc cX0_shake 36 (.istore 4) 2 38 := ⟨by decide +kernel, rfl⟩
theorem e_X0_shake_38 : g_dc cX0_shake 38 (.aload_n 0) 1 39 := ⟨by decide +kernel, rfl⟩
theorem e_X0_shake_39 : g_dc cX0_shake 39 (.getfield 71) 3 42 := ⟨by decide +kernel, rfl⟩
theorem e_X0_shake_42 : g_dc cX0_shake 42 (.iconst 4) 1 43 := ⟨by decide +kernel, rfl⟩
theorem e_X0_shake_43 : g_dc cX0_shake 43 (.invokevirtual 149) 3 46 := ⟨by decide +kernel, rfl⟩
theorem e_X0_shake_46 : g_dc cX0_shake 46 (.istore 5) 2 48 := ⟨by decide +kernel, rfl⟩
theorem e_X0_shake_48 : g_dc cX0_shake 48 (.aload_n 0) 1 49 := ⟨by decide +kernel, rfl⟩
theorem e_X0_shake_49 : g_dc cX0_shake 49 (.getfield 35) 3 52 := ⟨by decide +kernel, rfl⟩
theorem e_X0_shake_52 : g_dc cX0_shake 52 (.getfield 174) 3 55 := ⟨by decide +kernel, rfl⟩
theorem e_X0_shake_55 : g_dc cX0_shake 55 (.iload_n 1) 1 56 := ⟨by decide +kernel, rfl⟩
theorem e_X0_shake_56 : g_dc cX0_shake 56 (.iaload) 1 57 := ⟨by decide +kernel, rfl⟩
theorem e_X0_shake_57 : g_dc cX0_shake 57 (.ifCond .le 43) 3 60 := ⟨by decide +kernel, rfl⟩
theorem e_X0_shake_60 : g_dc cX0_shake 60 (.iload_n 2) 1 61 := ⟨by decide +kernel, rfl⟩
theorem e_X0_shake_61 : g_dc cX0_shake 61 (.aload_n 0) 1 62 := ⟨by decide +kernel, rfl⟩
theorem e_X0_shake_62 : g_dc cX0_shake 62 (.getfield 71) 3 65 := ⟨by decide +kernel, rfl⟩
theorem e_X0_shake_65 : g_dc cX0_shake 65 (.iconst 5) 1 66 := ⟨by decide +kernel, rfl⟩
theorem e_X0_shake_66 : g_dc cX0_shake 66 (.invokevirtual 149) 3 69 := ⟨by decide +kernel, rfl⟩
theorem e_X0_shake_69 : g_dc cX0_shake 69 (.if_icmp .le 31) 3 72 := ⟨by decide +kernel, rfl⟩
theorem e_X0_shake_72 : g_dc cX0_shake 72 (.aload_n 0) 1 73 := ⟨by decide +kernel, rfl⟩
theorem e_X0_shake_73 : g_dc cX0_shake 73 (.getfield 35) 3 76 := ⟨by decide +kernel, rfl⟩
theorem e_X0_shake_76 : g_dc cX0_shake 76 (.getfield 174) 3 79 := ⟨by decide +kernel, rfl⟩
theorem e_X0_shake_79 : g_dc cX0_shake 79 (.iload_n 1) 1 80 := ⟨by decide +kernel, rfl⟩
theorem e_X0_shake_80 : g_dc cX0_shake 80 (.dup2) 1 81 := ⟨by decide +kernel, rfl⟩
theorem e_X0_shake_81 : g_dc cX0_shake 81 (.iaload) 1 82 := ⟨by decide +kernel, rfl⟩
theorem e_X0_shake_82 : g_dc cX0_shake 82 (.iconst 1) 1 83 := ⟨by decide +kernel, rfl⟩
theorem e_X0_shake_83 : g_dc cX0_shake 83 (.isub) 1 84 := ⟨by decide +kernel, rfl⟩
theorem e_X0_shake_84 : g_dc cX0_shake 84 (.iastore) 1 85 := ⟨by decide +kernel, rfl⟩
theorem e_X0_shake_85 : g_dc cX0_shake 85 (.aload_n 0) 1 86 := ⟨by decide +kernel, rfl⟩
theorem e_X0_shake_86 : g_dc cX0_shake 86 (.getfield 35) 3 89 := ⟨by decide +kernel, rfl⟩
theorem e_X0_shake_89 : g_dc cX0_shake 89 (.dup) 1 90 := ⟨by decide +kernel, rfl⟩
theorem e_X0_shake_90 : g_dc cX0_shake 90 (.getfield 177) 3 93 := ⟨by decide +kernel, rfl⟩
theorem e_X0_shake_93 : g_dc cX0_shake 93 (.iconst 1) 1 94 := ⟨by decide +kernel, rfl⟩
theorem e_X0_shake_94 : g_dc cX0_shake 94 (.iload_n 1) 1 95 := ⟨by decide +kernel, rfl⟩
theorem e_X0_shake_95 : g_dc cX0_shake 95 (.ishl) 1 96 := ⟨by decide +kernel, rfl⟩
theorem e_X0_shake_96 : g_dc cX0_shake 96 (.ior) 1 97 := ⟨by decide +kernel, rfl⟩
theorem e_X0_shake_97 : g_dc cX0_shake 97 (.putfield 177) 3 100 := ⟨by decide +kernel, rfl⟩
theorem e_X0_shake_100 : g_dc cX0_shake 100 (.iload 4) 2 102 := ⟨by decide +kernel, rfl⟩
theorem e_X0_shake_102 : g_dc cX0_shake 102 (.iload 5) 2 104 := ⟨by decide +kernel, rfl⟩
theorem e_X0_shake_104 : g_dc cX0_shake 104 (.if_icmp .le 28) 3 107 := ⟨by decide +kernel, rfl⟩
theorem e_X0_shake_107 : g_dc cX0_shake 107 (.aload_n 0) 1 108 := ⟨by decide +kernel, rfl⟩
theorem e_X0_shake_108 : g_dc cX0_shake 108 (.getfield 35) 3 111 := ⟨by decide +kernel, rfl⟩
theorem e_X0_shake_111 : g_dc cX0_shake 111 (.dup) 1 112 := ⟨by decide +kernel, rfl⟩
theorem e_X0_shake_112 : g_dc cX0_shake 112 (.getfield 180) 3 115 := ⟨by decide +kernel, rfl⟩
theorem e_X0_shake_115 : g_dc cX0_shake 115 (.iconst 1) 1 116 := ⟨by decide +kernel, rfl⟩
theorem e_X0_shake_116 : g_dc cX0_shake 116 (.iload_n 1) 1 117 := ⟨by decide +kernel, rfl⟩
theorem e_X0_shake_117 : g_dc cX0_shake 117 (.ishl) 1 118 := ⟨by decide +kernel, rfl⟩
theorem e_X0_shake_118 : g_dc cX0_shake 118 (.ior) 1 119 := ⟨by decide +kernel, rfl⟩
theorem e_X0_shake_119 : g_dc cX0_shake 119 (.putfield 180) 3 122 := ⟨by decide +kernel, rfl⟩
theorem e_X0_shake_122 : g_dc cX0_shake 122 (.aload_n 0) 1 123 := ⟨by decide +kernel, rfl⟩
theorem e_X0_shake_123 : g_dc cX0_shake 123 (.getfield 39) 3 126 := ⟨by decide +kernel, rfl⟩
theorem e_X0_shake_126 : g_dc cX0_shake 126 (.iload_n 1) 1 127 := ⟨by decide +kernel, rfl⟩
theorem e_X0_shake_127 : g_dc cX0_shake 127 (.iconst 0) 1 128 := ⟨by decide +kernel, rfl⟩
theorem e_X0_shake_128 : g_dc cX0_shake 128 (.iastore) 1 129 := ⟨by decide +kernel, rfl⟩
theorem e_X0_shake_129 : g_dc cX0_shake 129 (.goto 27) 3 132 := ⟨by decide +kernel, rfl⟩
theorem e_X0_shake_132 : g_dc cX0_shake 132 (.iload 4) 2 134 := ⟨by decide +kernel, rfl⟩
theorem e_X0_shake_134 : g_dc cX0_shake 134 (.iload 5) 2 136 := ⟨by decide +kernel, rfl⟩
theorem e_X0_shake_136 : g_dc cX0_shake 136 (.iconst 2) 1 137 := ⟨by decide +kernel, rfl⟩
theorem e_X0_shake_137 : g_dc cX0_shake 137 (.idiv) 1 138 := ⟨by decide +kernel, rfl⟩
theorem e_X0_shake_138 : g_dc cX0_shake 138 (.if_icmp .le 18) 3 141 := ⟨by decide +kernel, rfl⟩
theorem e_X0_shake_141 : g_dc cX0_shake 141 (.aload_n 0) 1 142 := ⟨by decide +kernel, rfl⟩
theorem e_X0_shake_142 : g_dc cX0_shake 142 (.getfield 35) 3 145 := ⟨by decide +kernel, rfl⟩
theorem e_X0_shake_145 : g_dc cX0_shake 145 (.dup) 1 146 := ⟨by decide +kernel, rfl⟩
theorem e_X0_shake_146 : g_dc cX0_shake 146 (.getfield 183) 3 149 := ⟨by decide +kernel, rfl⟩
theorem e_X0_shake_149 : g_dc cX0_shake 149 (.iconst 1) 1 150 := ⟨by decide +kernel, rfl⟩
theorem e_X0_shake_150 : g_dc cX0_shake 150 (.iload_n 1) 1 151 := ⟨by decide +kernel, rfl⟩
theorem e_X0_shake_151 : g_dc cX0_shake 151 (.ishl) 1 152 := ⟨by decide +kernel, rfl⟩
theorem e_X0_shake_152 : g_dc cX0_shake 152 (.ior) 1 153 := ⟨by decide +kernel, rfl⟩
theorem e_X0_shake_153 : g_dc cX0_shake 153 (.putfield 183) 3 156 := ⟨by decide +kernel, rfl⟩
theorem e_X0_shake_156 : g_dc cX0_shake 156 (.return_) 1 157 := ⟨by decide +kernel, rfl⟩
def md_X0_shake : List Nat := [692, 694, 696]
def mr_X0_shake : List Nat := [24, 38, 45]
set_option maxHeartbeats 4000000 in
set_option maxRecDepth 100000 in
theorem w_X0_shake (l : Launch) (X : gX) (ad : Nat → Nat) (F : Nat → Int32) (R : Nat → Nat → Int32) (hI : g_ok LK_wX F) (hA : g_okR LA_wX R) (a0 : Int32) (a1 : Int32) (pa0 : jv 0 9 a0) : g_Cv l X yX0_shake cX0_shake 6 4 0 0 [.ref (ad 37), .int a0, .int a1] (wX X ad F R) (fun w => ∃ (F' : Nat → Int32) (R' : Nat → Nat → Int32), w = wX X ad F' R' ∧ g_ok LK_wX F' ∧ g_okR LA_wX R' ∧ g_fr md_X0_shake F F' ∧ g_fr mr_X0_shake R R') := by
  refine g_mv (by decide +kernel) (Nat.le_of_ble_eq_true rfl) (fun E cx hret => ?_)
  refine g_iload_n cx 2 rfl e_X0_shake_0 ?_
  refine g_if_ne cx 5 e_X0_shake_1 (by decide) (fun zc1 => ?_) (fun zc1 => ?_)
  · refine g_aload_n cx 0 rfl e_X0_shake_5 ?_
    refine g_get cx cl_X0 fl_X0_12 37 (.ref (ad 5)) e_X0_shake_6 rfl rfl ?_
    refine g_iload_n cx 1 rfl e_X0_shake_9 ?_
    refine g_iconst cx 2 (by decide) e_X0_shake_10 ?_
    refine g_cViW cx [.int a0, .int 2] [] (w_X8_side_5 l X ad F R hI hA a0 2) ml_X0_171 yV_X8_side e_X0_shake_11 (by unfold g_rr; decide) (by decide) 5 rfl rfl rfl (Nat.le_of_ble_eq_true rfl) (fun r2 w3 h4 => ?_)
    obtain ⟨rfl, pr2⟩ := h4
    refine g_istore_n cx [(3, .int r2), (0, .ref (ad 37)), (1, .int a0), (2, .int a1)] e_X0_shake_14 (by decide) rfl ?_
    refine g_iload_n cx 0 rfl e_X0_shake_15 ?_
    have J36 : ∀ (y5 : Int32), (jv (-2147483648) 2147483647 y5) → G X E 6 0 0 (wX X ad F R) [(0, .ref (ad 37)), (1, .int a0), (2, .int a1)] 36 [.int y5] := by
      intro y5 py5
      refine g_istore cx [(4, .int y5), (0, .ref (ad 37)), (1, .int a0), (2, .int a1)] e_X0_shake_36 (by decide) rfl ?_
      refine g_aload_n cx 1 rfl e_X0_shake_38 ?_
      refine g_get cx cl_X0 fl_X0_71 37 (.ref (ad 17)) e_X0_shake_39 rfl rfl ?_
      refine g_iconst cx 4 (by decide) e_X0_shake_42 ?_
      refine g_cViW cx [.int 4] [] (w_X2_ask_17 l X ad F R hI hA 4) ml_X0_149 yV_X2_ask e_X0_shake_43 (by unfold g_rr; decide) (by decide) 17 rfl rfl rfl (Nat.le_of_ble_eq_true rfl) (fun r6 w7 h8 => ?_)
      obtain ⟨F9, R10, rfl, oF9, oR10, cF9, cR10, pr6⟩ := h8
      have fF9 : g_fr md_X0_shake F F9 := g_fr_c (g_fr_rf F) cF9 rfl
      have fR10 : g_fr mr_X0_shake R R10 := g_fr_c (g_fr_rf R) cR10 rfl
      refine g_istore cx [(5, .int r6), (4, .int y5), (0, .ref (ad 37)), (1, .int a0), (2, .int a1)] e_X0_shake_46 (by decide) rfl ?_
      refine g_aload_n cx 2 rfl e_X0_shake_48 ?_
      refine g_get cx cl_X0 fl_X0_35 37 (.ref (ad 43)) e_X0_shake_49 rfl rfl ?_
      refine g_getN cx cl_X4 fn_X0_174 43 (.ref (ad 45)) e_X0_shake_52 rfl rfl ?_
      refine g_iload_n cx 3 rfl e_X0_shake_55 ?_
      refine g_iald cx 45 e_X0_shake_56 rfl (jv_ix 10 pa0 (by decide)) ?_
      refine g_topi (fun x11 ex11 => ?_)
      have J100 : ∀ (F12 : Nat → Int32) (R13 : Nat → Nat → Int32), (g_ok LK_wX F12) → (g_fr md_X0_shake F F12) → (g_okR LA_wX R13) → (g_fr mr_X0_shake R R13) → G X E 6 0 0 (wX X ad F12 R13) [(0, .ref (ad 37)), (1, .int a0), (4, .int y5), (5, .int r6)] 100 [] := by
        intro F12 R13 oF12 fF12 oR13 fR13
        refine g_iload cx 2 rfl e_X0_shake_100 ?_
        refine g_iload cx 3 rfl e_X0_shake_102 ?_
        have J156 : ∀ (F14 : Nat → Int32) (R15 : Nat → Nat → Int32), (g_ok LK_wX F14) → (g_fr md_X0_shake F F14) → (g_okR LA_wX R15) → (g_fr mr_X0_shake R R15) → G X E 6 0 0 (wX X ad F14 R15) [] 156 [] := by
          intro F14 R15 oF14 fF14 oR15 fR15
          exact hret e_X0_shake_156 (Nat.le_of_ble_eq_true rfl) (Nat.le_of_ble_eq_true rfl) ⟨F14, R15, rfl, oF14, oR15, fF14, fR15⟩
        refine g_icmp_le cx 132 e_X0_shake_104 (by decide) (fun zc16 => ?_) (fun zc16 => ?_)
        · have p17 := gn_le (-2147483648) 999 (gc_le zc16) py5 pr6 (by decide)
          refine g_iload cx 2 rfl e_X0_shake_132 ?_
          refine g_iload cx 3 rfl e_X0_shake_134 ?_
          refine g_iconst cx 2 (by decide) e_X0_shake_136 ?_
          refine g_idiv cx (by decide) e_X0_shake_137 ?_
          refine g_topi (fun x18 ex18 => ?_)
          have zx18 := jv_div 0 499 ex18 pr6 (jv_k (x := 2) 2 (by decide)) (by decide)
          refine g_icmp_le cx 156 e_X0_shake_138 (by decide) (fun zc19 => ?_) (fun zc19 => ?_)
          · have p20 := gn_le (-2147483648) 499 (gc_le zc19) p17 zx18.2 (by decide)
            refine g_lsub [] [] rfl ?_
            exact J156 F12 R13 oF12 fF12 oR13 fR13
          · have p21 := gn_gt 1 999 (gc_nle zc19) p17 zx18.2 (by decide)
            refine g_aload_n cx 0 rfl e_X0_shake_141 ?_
            refine g_get cx cl_X0 fl_X0_35 37 (.ref (ad 43)) e_X0_shake_142 rfl rfl ?_
            refine g_dup cx rfl e_X0_shake_145 ?_
            refine g_getN cx cl_X4 fn_X0_183 43 (.int (F12 694)) e_X0_shake_146 rfl rfl ?_
            refine g_iconst cx 1 (by decide) e_X0_shake_149 ?_
            refine g_iload_n cx 1 rfl e_X0_shake_150 ?_
            refine g_ishl cx e_X0_shake_151 ?_
            refine g_topi (fun x22 ex22 => ?_)
            refine g_ior cx e_X0_shake_152 ?_
            refine g_topi (fun x23 ex23 => ?_)
            refine g_putN cx cl_X4 fn_X0_183 43 (wX X ad (upd F12 694 x23) R13) e_X0_shake_153 rfl rfl rfl rfl (Nat.le_of_ble_eq_true rfl) rfl ?_
            obtain ⟨F24, hF24⟩ : ∃ z, z = upd F12 694 x23 := ⟨_, rfl⟩
            rw [← hF24]
            have oF24 : g_ok LK_wX F24 := by rw [hF24]; exact g_ok_u oF12 rfl
            have fF24 : g_fr md_X0_shake F F24 := by rw [hF24]; exact g_fr_u fF12 rfl
            refine g_lsub [] [] rfl ?_
            exact J156 F24 R13 oF24 fF24 oR13 fR13
        · have p25 := gn_gt 1 2147483647 (gc_nle zc16) py5 pr6 (by decide)
          refine g_aload_n cx 0 rfl e_X0_shake_107 ?_
          refine g_get cx cl_X0 fl_X0_35 37 (.ref (ad 43)) e_X0_shake_108 rfl rfl ?_
          refine g_dup cx rfl e_X0_shake_111 ?_
          refine g_getN cx cl_X4 fn_X0_180 43 (.int (F12 692)) e_X0_shake_112 rfl rfl ?_
          refine g_iconst cx 1 (by decide) e_X0_shake_115 ?_
          refine g_iload_n cx 1 rfl e_X0_shake_116 ?_
          refine g_ishl cx e_X0_shake_117 ?_
          refine g_topi (fun x26 ex26 => ?_)
          refine g_ior cx e_X0_shake_118 ?_
          refine g_topi (fun x27 ex27 => ?_)
          refine g_putN cx cl_X4 fn_X0_180 43 (wX X ad (upd F12 692 x27) R13) e_X0_shake_119 rfl rfl rfl rfl (Nat.le_of_ble_eq_true rfl) rfl ?_
          obtain ⟨F28, hF28⟩ : ∃ z, z = upd F12 692 x27 := ⟨_, rfl⟩
          rw [← hF28]
          have oF28 : g_ok LK_wX F28 := by rw [hF28]; exact g_ok_u oF12 rfl
          have fF28 : g_fr md_X0_shake F F28 := by rw [hF28]; exact g_fr_u fF12 rfl
          refine g_aload_n cx 0 rfl e_X0_shake_122 ?_
          refine g_get cx cl_X0 fl_X0_39 37 (.ref (ad 38)) e_X0_shake_123 rfl rfl ?_
          refine g_iload_n cx 1 rfl e_X0_shake_126 ?_
          refine g_iconst cx 0 (by decide) e_X0_shake_127 ?_
          refine g_iast cx 38 (wX X ad F28 (g_u R13 38 (upd (R13 38) (Int32.toNatClampNeg a0) 0))) e_X0_shake_128 rfl (jv_ix 10 pa0 (by decide)) rfl ?_
          obtain ⟨R29, hR29⟩ : ∃ z, z = g_u R13 38 (upd (R13 38) (Int32.toNatClampNeg a0) 0) := ⟨_, rfl⟩
          rw [← hR29]
          have oR29 : g_okR LA_wX R29 := by rw [hR29]; exact g_okR_u oR13 rfl
          have fR29 : g_fr mr_X0_shake R R29 := by rw [hR29]; exact g_fr_r fR13 rfl
          refine g_goto cx 156 e_X0_shake_129 (by decide) ?_
          refine g_lsub [] [] rfl ?_
          exact J156 F28 R29 oF28 fF28 oR29 fR29
      refine g_if_le cx 100 e_X0_shake_57 (by decide) (fun zc30 => ?_) (fun zc30 => ?_)
      · have p31 := gn_le (-2147483648) 0 (gc_le zc30) (jv_t x11) (jv_k (x := 0) 0 (by decide)) (by decide)
        refine g_lsub [2, 3, 1, 0] [(0, .ref (ad 37)), (1, .int a0), (4, .int y5), (5, .int r6)] rfl ?_
        exact J100 F9 R10 oF9 fF9 oR10 fR10
      · have p32 := gn_gt 1 2147483647 (gc_nle zc30) (jv_t x11) (jv_k (x := 0) 0 (by decide)) (by decide)
        refine g_iload_n cx 4 rfl e_X0_shake_60 ?_
        refine g_aload_n cx 2 rfl e_X0_shake_61 ?_
        refine g_get cx cl_X0 fl_X0_71 37 (.ref (ad 17)) e_X0_shake_62 rfl rfl ?_
        refine g_iconst cx 5 (by decide) e_X0_shake_65 ?_
        refine g_cViW cx [.int 5] [.int a1] (w_X2_ask_17 l X ad F9 R10 oF9 oR10 5) ml_X0_149 yV_X2_ask e_X0_shake_66 (by unfold g_rr; decide) (by decide) 17 rfl rfl rfl (Nat.le_of_ble_eq_true rfl) (fun r33 w34 h35 => ?_)
        obtain ⟨F36, R37, rfl, oF36, oR37, cF36, cR37, pr33⟩ := h35
        have fF36 : g_fr md_X0_shake F F36 := g_fr_c fF9 cF36 rfl
        have fR37 : g_fr mr_X0_shake R R37 := g_fr_c fR10 cR37 rfl
        refine g_icmp_le cx 100 e_X0_shake_69 (by decide) (fun zc38 => ?_) (fun zc38 => ?_)
        · have p39 := gn_le (-2147483648) 999 (gc_le zc38) (jv_t a1) pr33 (by decide)
          refine g_lsub [2, 3, 1, 0] [(0, .ref (ad 37)), (1, .int a0), (4, .int y5), (5, .int r6)] rfl ?_
          exact J100 F36 R37 oF36 fF36 oR37 fR37
        · have p40 := gn_gt 1 2147483647 (gc_nle zc38) (jv_t a1) pr33 (by decide)
          refine g_aload_n cx 2 rfl e_X0_shake_72 ?_
          refine g_get cx cl_X0 fl_X0_35 37 (.ref (ad 43)) e_X0_shake_73 rfl rfl ?_
          refine g_getN cx cl_X4 fn_X0_174 43 (.ref (ad 45)) e_X0_shake_76 rfl rfl ?_
          refine g_iload_n cx 3 rfl e_X0_shake_79 ?_
          refine g_dup2 cx rfl rfl e_X0_shake_80 ?_
          refine g_iald cx 45 e_X0_shake_81 rfl (jv_ix 10 pa0 (by decide)) ?_
          refine g_topi (fun x41 ex41 => ?_)
          refine g_iconst cx 1 (by decide) e_X0_shake_82 ?_
          refine g_isub cx e_X0_shake_83 ?_
          refine g_topi (fun x42 ex42 => ?_)
          refine g_iast cx 45 (wX X ad F36 (g_u R37 45 (upd (R37 45) (Int32.toNatClampNeg a0) x42))) e_X0_shake_84 rfl (jv_ix 10 pa0 (by decide)) rfl ?_
          obtain ⟨R43, hR43⟩ : ∃ z, z = g_u R37 45 (upd (R37 45) (Int32.toNatClampNeg a0) x42) := ⟨_, rfl⟩
          rw [← hR43]
          have oR43 : g_okR LA_wX R43 := by rw [hR43]; exact g_okR_u oR37 rfl
          have fR43 : g_fr mr_X0_shake R R43 := by rw [hR43]; exact g_fr_r fR37 rfl
          refine g_aload_n cx 2 rfl e_X0_shake_85 ?_
          refine g_get cx cl_X0 fl_X0_35 37 (.ref (ad 43)) e_X0_shake_86 rfl rfl ?_
          refine g_dup cx rfl e_X0_shake_89 ?_
          refine g_getN cx cl_X4 fn_X0_177 43 (.int (F36 696)) e_X0_shake_90 rfl rfl ?_
          refine g_toi (F 696) ((cF36 696 rfl).trans (cF9 696 rfl)) ?_
          refine g_iconst cx 1 (by decide) e_X0_shake_93 ?_
          refine g_iload_n cx 3 rfl e_X0_shake_94 ?_
          refine g_ishl cx e_X0_shake_95 ?_
          refine g_topi (fun x44 ex44 => ?_)
          refine g_ior cx e_X0_shake_96 ?_
          refine g_topi (fun x45 ex45 => ?_)
          refine g_putN cx cl_X4 fn_X0_177 43 (wX X ad (upd F36 696 x45) R43) e_X0_shake_97 rfl rfl rfl rfl (Nat.le_of_ble_eq_true rfl) rfl ?_
          obtain ⟨F46, hF46⟩ : ∃ z, z = upd F36 696 x45 := ⟨_, rfl⟩
          rw [← hF46]
          have oF46 : g_ok LK_wX F46 := by rw [hF46]; exact g_ok_u oF36 rfl
          have fF46 : g_fr md_X0_shake F F46 := by rw [hF46]; exact g_fr_u fF36 rfl
          refine g_lsub [2, 3, 1, 0] [(0, .ref (ad 37)), (1, .int a0), (4, .int y5), (5, .int r6)] rfl ?_
          exact J100 F46 R43 oF46 fF46 oR43 fR43
    refine g_if_le cx 35 e_X0_shake_16 (by decide) (fun zc47 => ?_) (fun zc47 => ?_)
    · have p48 := gn_le (-2147483648) 0 (gc_le zc47) pr2 (jv_k (x := 0) 0 (by decide)) (by decide)
      refine g_iconst cx 0 (by decide) e_X0_shake_35 ?_
      refine g_lsub [1, 2, 3] [(0, .ref (ad 37)), (1, .int a0), (2, .int a1)] rfl ?_
      exact J36 0 (jv_w (jv_k (x := 0) 0 (by decide)) (by decide))
    · have p49 := gn_gt 1 2147483647 (gc_nle zc47) pr2 (jv_k (x := 0) 0 (by decide)) (by decide)
      refine g_iload_n cx 3 rfl e_X0_shake_19 ?_
      refine g_aload_n cx 1 rfl e_X0_shake_20 ?_
      refine g_get cx cl_X0 fl_X0_12 37 (.ref (ad 5)) e_X0_shake_21 rfl rfl ?_
      refine g_iload_n cx 2 rfl e_X0_shake_24 ?_
      refine g_iconst cx 3 (by decide) e_X0_shake_25 ?_
      refine g_cViW cx [.int a0, .int 3] [.int a1] (w_X8_side_5 l X ad F R hI hA a0 3) ml_X0_171 yV_X8_side e_X0_shake_26 (by unfold g_rr; decide) (by decide) 5 rfl rfl rfl (Nat.le_of_ble_eq_true rfl) (fun r50 w51 h52 => ?_)
      obtain ⟨rfl, pr50⟩ := h52
      refine g_imul cx e_X0_shake_29 ?_
      refine g_topi (fun x53 ex53 => ?_)
      refine g_iload_n cx 0 rfl e_X0_shake_30 ?_
      refine g_idiv cx (g_nz0 p49 (by decide)) e_X0_shake_31 ?_
      refine g_topi (fun x54 ex54 => ?_)
      refine g_goto cx 36 e_X0_shake_32 (by decide) ?_
      refine g_lsub [1, 2, 3] [(0, .ref (ad 37)), (1, .int a0), (2, .int a1)] rfl ?_
      exact J36 x54 (jv_t x54)
  · have p55 := gn_eq 0 0 (gc_eq zc1) (jv_t a1) (jv_k (x := 0) 0 (by decide)) (by decide)
    exact hret e_X0_shake_4 (Nat.le_of_ble_eq_true rfl) (Nat.le_of_ble_eq_true rfl) ⟨F, R, rfl, hI, hA, (g_fr_rf F), (g_fr_rf R)⟩
theorem e_X0_lead_0 : g_dc cX0_lead 0 (.aload_n 0) 1 1 := ⟨by decide +kernel, rfl⟩
theorem e_X0_lead_1 : g_dc cX0_lead 1 (.getfield 65) 3 4 := ⟨by decide +kernel, rfl⟩
theorem e_X0_lead_4 : g_dc cX0_lead 4 (.iconst 1) 1 5 := ⟨by decide +kernel, rfl⟩
theorem e_X0_lead_5 : g_dc cX0_lead 5 (.iload_n 1) 1 6 := ⟨by decide +kernel, rfl⟩
theorem e_X0_lead_6 : g_dc cX0_lead 6 (.ishl) 1 7 := ⟨by decide +kernel, rfl⟩
theorem e_X0_lead_7 : g_dc cX0_lead 7 (.iand) 1 8 := ⟨by decide +kernel, rfl⟩
theorem e_X0_lead_8 : g_dc cX0_lead 8 (.ifCond .eq 7) 3 11 := ⟨by decide +kernel, rfl⟩
theorem e_X0_lead_11 : g_dc cX0_lead 11 (.iconst 0) 1 12 := ⟨by decide +kernel, rfl⟩
theorem e_X0_lead_12 : g_dc cX0_lead 12 (.goto 4) 3 15 := ⟨by decide +kernel, rfl⟩
theorem e_X0_lead_15 : g_dc cX0_lead 15 (.iconst 1) 1 16 := ⟨by decide +kernel, rfl⟩
theorem e_X0_lead_16 : g_dc cX0_lead 16 (.istore_n 2) 1 17 := ⟨by decide +kernel, rfl⟩
theorem e_X0_lead_17 : g_dc cX0_lead 17 (.aload_n 0) 1 18 := ⟨by decide +kernel, rfl⟩
theorem e_X0_lead_18 : g_dc cX0_lead 18 (.getfield 68) 3 21 := ⟨by decide +kernel, rfl⟩
theorem e_X0_lead_21 : g_dc cX0_lead 21 (.iconst 1) 1 22 := ⟨by decide +kernel, rfl⟩
theorem e_X0_lead_22 : g_dc cX0_lead 22 (.iload_n 1) 1 23 := ⟨by decide +kernel, rfl⟩
theorem e_X0_lead_23 : g_dc cX0_lead 23 (.ishl) 1 24 := ⟨by decide +kernel, rfl⟩
theorem e_X0_lead_24 : g_dc cX0_lead 24 (.iand) 1 25 := ⟨by decide +kernel, rfl⟩
theorem e_X0_lead_25 : g_dc cX0_lead 25 (.ifCond .eq 5) 3 28 := ⟨by decide +kernel, rfl⟩
theorem e_X0_lead_28 : g_dc cX0_lead 28 (.iconst 2) 1 29 := ⟨by decide +kernel, rfl⟩
theorem e_X0_lead_29 : g_dc cX0_lead 29 (.istore_n 2) 1 30 := ⟨by decide +kernel, rfl⟩
theorem e_X0_lead_30 : g_dc cX0_lead 30 (.aload_n 0) 1 31 := ⟨by decide +kernel, rfl⟩
theorem e_X0_lead_31 : g_dc cX0_lead 31 (.getfield 35) 3 34 := ⟨by decide +kernel, rfl⟩
theorem e_X0_lead_34 : g_dc cX0_lead 34 (.iload_n 1) 1 35 := ⟨by decide +kernel, rfl⟩
theorem e_X0_lead_35 : g_dc cX0_lead 35 (.iload_n 2) 1 36 := ⟨by decide +kernel, rfl⟩
theorem e_X0_lead_36 : g_dc cX0_lead 36 (.aload_n 0) 1 37 := ⟨by decide +kernel, rfl⟩
theorem e_X0_lead_37 : g_dc cX0_lead 37 (.getfield 43) 3 40 := ⟨by decide +kernel, rfl⟩
theorem e_X0_lead_40 : g_dc cX0_lead 40 (.iload_n 1) 1 41 := ⟨by decide +kernel, rfl⟩
theorem e_X0_lead_41 : g_dc cX0_lead 41 (.iaload) 1 42 := ⟨by decide +kernel, rfl⟩
theorem e_X0_lead_42 : g_dc cX0_lead 42 (.aload_n 0) 1 43 := ⟨by decide +kernel, rfl⟩
theorem e_X0_lead_43 : g_dc cX0_lead 43 (.getfield 35) 3 46 := ⟨by decide +kernel, rfl⟩
theorem e_X0_lead_46 : g_dc cX0_lead 46 (.getfield 159) 3 49 := ⟨by decide +kernel, rfl⟩
theorem e_X0_lead_49 : g_dc cX0_lead 49 (.iload_n 1) 1 50 := ⟨by decide +kernel, rfl⟩
theorem e_X0_lead_50 : g_dc cX0_lead 50 (.iaload) 1 51 := ⟨by decide +kernel, rfl⟩
theorem e_X0_lead_51 : g_dc cX0_lead 51 (.isub) 1 52 := ⟨by decide +kernel, rfl⟩
theorem e_X0_lead_52 : g_dc cX0_lead 52 (.invokevirtual 196) 3 55 := ⟨by decide +kernel, rfl⟩
theorem e_X0_lead_55 : g_dc cX0_lead 55 (.return_) 1 56 := ⟨by decide +kernel, rfl⟩
def md_X0_lead : List Nat := []
def mr_X0_lead : List Nat := [46]
set_option maxHeartbeats 4000000 in
set_option maxRecDepth 100000 in
theorem w_X0_lead (l : Launch) (X : gX) (ad : Nat → Nat) (F : Nat → Int32) (R : Nat → Nat → Int32) (hI : g_ok LK_wX F) (hA : g_okR LA_wX R) (a0 : Int32) (pa0 : jv 0 9 a0) : g_Cv l X yX0_lead cX0_lead 3 3 0 0 [.ref (ad 37), .int a0] (wX X ad F R) (fun w => ∃ (F' : Nat → Int32) (R' : Nat → Nat → Int32), w = wX X ad F' R' ∧ g_ok LK_wX F' ∧ g_okR LA_wX R' ∧ g_fr md_X0_lead F F' ∧ g_fr mr_X0_lead R R') := by
  refine g_mv (by decide +kernel) (Nat.le_of_ble_eq_true rfl) (fun E cx hret => ?_)
  refine g_aload_n cx 0 rfl e_X0_lead_0 ?_
  refine g_get cx cl_X0 fl_X0_65 37 (.int (F 605)) e_X0_lead_1 rfl rfl ?_
  refine g_iconst cx 1 (by decide) e_X0_lead_4 ?_
  refine g_iload_n cx 1 rfl e_X0_lead_5 ?_
  refine g_ishl cx e_X0_lead_6 ?_
  refine g_topi (fun x1 ex1 => ?_)
  refine g_iand cx e_X0_lead_7 ?_
  refine g_topi (fun x2 ex2 => ?_)
  have J16 : ∀ (y3 : Int32), (jv 0 1 y3) → G X E 3 0 0 (wX X ad F R) [(0, .ref (ad 37)), (1, .int a0)] 16 [.int y3] := by
    intro y3 py3
    refine g_istore_n cx [(2, .int y3), (0, .ref (ad 37)), (1, .int a0)] e_X0_lead_16 (by decide) rfl ?_
    refine g_aload_n cx 1 rfl e_X0_lead_17 ?_
    refine g_get cx cl_X0 fl_X0_68 37 (.int (F 606)) e_X0_lead_18 rfl rfl ?_
    refine g_iconst cx 1 (by decide) e_X0_lead_21 ?_
    refine g_iload_n cx 2 rfl e_X0_lead_22 ?_
    refine g_ishl cx e_X0_lead_23 ?_
    refine g_topi (fun x4 ex4 => ?_)
    refine g_iand cx e_X0_lead_24 ?_
    refine g_topi (fun x5 ex5 => ?_)
    have J30 : ∀ (y6 : Int32), (jv 0 2 y6) → G X E 3 0 0 (wX X ad F R) [(0, .ref (ad 37)), (1, .int a0), (2, .int y6)] 30 [] := by
      intro y6 py6
      refine g_aload_n cx 0 rfl e_X0_lead_30 ?_
      refine g_get cx cl_X0 fl_X0_35 37 (.ref (ad 43)) e_X0_lead_31 rfl rfl ?_
      refine g_iload_n cx 1 rfl e_X0_lead_34 ?_
      refine g_iload_n cx 2 rfl e_X0_lead_35 ?_
      refine g_aload_n cx 0 rfl e_X0_lead_36 ?_
      refine g_get cx cl_X0 fl_X0_43 37 (.ref (ad 39)) e_X0_lead_37 rfl rfl ?_
      refine g_iload_n cx 1 rfl e_X0_lead_40 ?_
      refine g_iald cx 39 e_X0_lead_41 rfl (jv_ix 10 pa0 (by decide)) ?_
      refine g_topi (fun x7 ex7 => ?_)
      refine g_aload_n cx 0 rfl e_X0_lead_42 ?_
      refine g_get cx cl_X0 fl_X0_35 37 (.ref (ad 43)) e_X0_lead_43 rfl rfl ?_
      refine g_getN cx cl_X4 fn_X0_159 43 (.ref (ad 44)) e_X0_lead_46 rfl rfl ?_
      refine g_iload_n cx 1 rfl e_X0_lead_49 ?_
      refine g_iald cx 44 e_X0_lead_50 rfl (jv_ix 10 pa0 (by decide)) ?_
      refine g_topi (fun x8 ex8 => ?_)
      refine g_isub cx e_X0_lead_51 ?_
      refine g_topi (fun x9 ex9 => ?_)
      refine g_cVvW cx [.int a0, .int y6, .int x9] [] (w_X4_lead l X ad F R hI hA a0 y6 x9) ml_X0_196 yV_X4_lead e_X0_lead_52 (by unfold g_rr; decide) (by decide) 43 rfl rfl rfl (Nat.le_of_ble_eq_true rfl) (fun w11 h12 => ?_)
      obtain ⟨F13, R14, rfl, oF13, oR14, cF13, cR14⟩ := h12
      have fF13 : g_fr md_X0_lead F F13 := g_fr_c (g_fr_rf F) cF13 rfl
      have fR14 : g_fr mr_X0_lead R R14 := g_fr_c (g_fr_rf R) cR14 rfl
      exact hret e_X0_lead_55 (Nat.le_of_ble_eq_true rfl) (Nat.le_of_ble_eq_true rfl) ⟨F13, R14, rfl, oF13, oR14, fF13, fR14⟩
    refine g_if_eq cx 30 e_X0_lead_25 (by decide) (fun zc15 => ?_) (fun zc15 => ?_)
    · have p16 := gn_eq 0 0 (gc_eq zc15) (jv_t x5) (jv_k (x := 0) 0 (by decide)) (by decide)
      refine g_lsub [1, 2, 0] [(0, .ref (ad 37)), (1, .int a0), (2, .int y3)] rfl ?_
      exact J30 y3 (jv_w py3 (by decide))
    · refine g_iconst cx 2 (by decide) e_X0_lead_28 ?_
      refine g_istore_n cx [(2, .int 2), (0, .ref (ad 37)), (1, .int a0)] e_X0_lead_29 (by decide) rfl ?_
      refine g_lsub [1, 2, 0] [(0, .ref (ad 37)), (1, .int a0), (2, .int 2)] rfl ?_
      exact J30 2 (jv_w (jv_k (x := 2) 2 (by decide)) (by decide))
  refine g_if_eq cx 15 e_X0_lead_8 (by decide) (fun zc17 => ?_) (fun zc17 => ?_)
  · have p18 := gn_eq 0 0 (gc_eq zc17) (jv_t x2) (jv_k (x := 0) 0 (by decide)) (by decide)
    refine g_iconst cx 1 (by decide) e_X0_lead_15 ?_
    exact J16 1 (jv_w (jv_k (x := 1) 1 (by decide)) (by decide))
  · refine g_iconst cx 0 (by decide) e_X0_lead_11 ?_
    refine g_goto cx 16 e_X0_lead_12 (by decide) ?_
    exact J16 0 (jv_w (jv_k (x := 0) 0 (by decide)) (by decide))
theorem e_X0_slide_0 : g_dc cX0_slide 0 (.aload_n 0) 1 1 := ⟨by decide +kernel, rfl⟩
theorem e_X0_slide_1 : g_dc cX0_slide 1 (.getfield 43) 3 4 := ⟨by decide +kernel, rfl⟩
theorem e_X0_slide_4 : g_dc cX0_slide 4 (.iload_n 1) 1 5 := ⟨by decide +kernel, rfl⟩
theorem e_X0_slide_5 : g_dc cX0_slide 5 (.aload_n 0) 1 6 := ⟨by decide +kernel, rfl⟩
theorem e_X0_slide_6 : g_dc cX0_slide 6 (.getfield 35) 3 9 := ⟨by decide +kernel, rfl⟩
theorem e_X0_slide_9 : g_dc cX0_slide 9 (.getfield 159) 3 12 := ⟨by decide +kernel, rfl⟩
theorem e_X0_slide_12 : g_dc cX0_slide 12 (.iload_n 1) 1 13 := ⟨by decide +kernel, rfl⟩
theorem e_X0_slide_13 : g_dc cX0_slide 13 (.iaload) 1 14 := ⟨by decide +kernel, rfl⟩
theorem e_X0_slide_14 : g_dc cX0_slide 14 (.iastore) 1 15 := ⟨by decide +kernel, rfl⟩
theorem e_X0_slide_15 : g_dc cX0_slide 15 (.aload_n 0) 1 16 := ⟨by decide +kernel, rfl⟩
theorem e_X0_slide_16 : g_dc cX0_slide 16 (.getfield 35) 3 19 := ⟨by decide +kernel, rfl⟩
theorem e_X0_slide_19 : g_dc cX0_slide 19 (.getfield 159) 3 22 := ⟨by decide +kernel, rfl⟩
theorem e_X0_slide_22 : g_dc cX0_slide 22 (.iload_n 1) 1 23 := ⟨by decide +kernel, rfl⟩
theorem e_X0_slide_23 : g_dc cX0_slide 23 (.dup2) 1 24 := ⟨by decide +kernel, rfl⟩
theorem e_X0_slide_24 : g_dc cX0_slide 24 (.iaload) 1 25 := ⟨by decide +kernel, rfl⟩
theorem e_X0_slide_25 : g_dc cX0_slide 25 (.aload_n 0) 1 26 := ⟨by decide +kernel, rfl⟩
theorem e_X0_slide_26 : g_dc cX0_slide 26 (.getfield 39) 3 29 := ⟨by decide +kernel, rfl⟩
theorem e_X0_slide_29 : g_dc cX0_slide 29 (.iload_n 1) 1 30 := ⟨by decide +kernel, rfl⟩
theorem e_X0_slide_30 : g_dc cX0_slide 30 (.iaload) 1 31 := ⟨by decide +kernel, rfl⟩
theorem e_X0_slide_31 : g_dc cX0_slide 31 (.isub) 1 32 := ⟨by decide +kernel, rfl⟩
theorem e_X0_slide_32 : g_dc cX0_slide 32 (.iastore) 1 33 := ⟨by decide +kernel, rfl⟩
theorem e_X0_slide_33 : g_dc cX0_slide 33 (.aload_n 0) 1 34 := ⟨by decide +kernel, rfl⟩
theorem e_X0_slide_34 : g_dc cX0_slide 34 (.getfield 35) 3 37 := ⟨by decide +kernel, rfl⟩
theorem e_X0_slide_37 : g_dc cX0_slide 37 (.getfield 159) 3 40 := ⟨by decide +kernel, rfl⟩
theorem e_X0_slide_40 : g_dc cX0_slide 40 (.iload_n 1) 1 41 := ⟨by decide +kernel, rfl⟩
theorem e_X0_slide_41 : g_dc cX0_slide 41 (.iaload) 1 42 := ⟨by decide +kernel, rfl⟩
theorem e_X0_slide_42 : g_dc cX0_slide 42 (.ifCond .ge 23) 3 45 := ⟨by decide +kernel, rfl⟩
theorem e_X0_slide_45 : g_dc cX0_slide 45 (.aload_n 0) 1 46 := ⟨by decide +kernel, rfl⟩
theorem e_X0_slide_46 : g_dc cX0_slide 46 (.getfield 35) 3 49 := ⟨by decide +kernel, rfl⟩
theorem e_X0_slide_49 : g_dc cX0_slide 49 (.dup) 1 50 := ⟨by decide +kernel, rfl⟩
theorem e_X0_slide_50 : g_dc cX0_slide 50 (.getfield 186) 3 53 := ⟨by decide +kernel, rfl⟩
theorem e_X0_slide_53 : g_dc cX0_slide 53 (.iconst 1) 1 54 := ⟨by decide +kernel, rfl⟩
theorem e_X0_slide_54 : g_dc cX0_slide 54 (.iload_n 1) 1 55 := ⟨by decide +kernel, rfl⟩
theorem e_X0_slide_55 : g_dc cX0_slide 55 (.ishl) 1 56 := ⟨by decide +kernel, rfl⟩
theorem e_X0_slide_56 : g_dc cX0_slide 56 (.ior) 1 57 := ⟨by decide +kernel, rfl⟩
theorem e_X0_slide_57 : g_dc cX0_slide 57 (.putfield 186) 3 60 := ⟨by decide +kernel, rfl⟩
theorem e_X0_slide_60 : g_dc cX0_slide 60 (.aload_n 0) 1 61 := ⟨by decide +kernel, rfl⟩
theorem e_X0_slide_61 : g_dc cX0_slide 61 (.iload_n 1) 1 62 := ⟨by decide +kernel, rfl⟩
theorem e_X0_slide_62 : g_dc cX0_slide 62 (.invokevirtual 129) 3 65 := ⟨by decide +kernel, rfl⟩
theorem e_X0_slide_65 : g_dc cX0_slide 65 (.return_) 1 66 := ⟨by decide +kernel, rfl⟩
def md_X0_slide : List Nat := [693]
def mr_X0_slide : List Nat := [39, 44, 46]
set_option maxHeartbeats 4000000 in
set_option maxRecDepth 100000 in
theorem w_X0_slide (l : Launch) (X : gX) (ad : Nat → Nat) (F : Nat → Int32) (R : Nat → Nat → Int32) (hI : g_ok LK_wX F) (hA : g_okR LA_wX R) (a0 : Int32) (pa0 : jv 0 9 a0) : g_Cv l X yX0_slide cX0_slide 2 4 0 0 [.ref (ad 37), .int a0] (wX X ad F R) (fun w => ∃ (F' : Nat → Int32) (R' : Nat → Nat → Int32), w = wX X ad F' R' ∧ g_ok LK_wX F' ∧ g_okR LA_wX R' ∧ g_fr md_X0_slide F F' ∧ g_fr mr_X0_slide R R') := by
  refine g_mv (by decide +kernel) (Nat.le_of_ble_eq_true rfl) (fun E cx hret => ?_)
  refine g_aload_n cx 0 rfl e_X0_slide_0 ?_
  refine g_get cx cl_X0 fl_X0_43 37 (.ref (ad 39)) e_X0_slide_1 rfl rfl ?_
  refine g_iload_n cx 1 rfl e_X0_slide_4 ?_
  refine g_aload_n cx 0 rfl e_X0_slide_5 ?_
  refine g_get cx cl_X0 fl_X0_35 37 (.ref (ad 43)) e_X0_slide_6 rfl rfl ?_
  refine g_getN cx cl_X4 fn_X0_159 43 (.ref (ad 44)) e_X0_slide_9 rfl rfl ?_
  refine g_iload_n cx 1 rfl e_X0_slide_12 ?_
  refine g_iald cx 44 e_X0_slide_13 rfl (jv_ix 10 pa0 (by decide)) ?_
  refine g_topi (fun x1 ex1 => ?_)
  refine g_iast cx 39 (wX X ad F (g_u R 39 (upd (R 39) (Int32.toNatClampNeg a0) x1))) e_X0_slide_14 rfl (jv_ix 10 pa0 (by decide)) rfl ?_
  obtain ⟨R2, hR2⟩ : ∃ z, z = g_u R 39 (upd (R 39) (Int32.toNatClampNeg a0) x1) := ⟨_, rfl⟩
  rw [← hR2]
  have oR2 : g_okR LA_wX R2 := by rw [hR2]; exact g_okR_u hA rfl
  have fR2 : g_fr mr_X0_slide R R2 := by rw [hR2]; exact g_fr_r (g_fr_rf R) rfl
  refine g_aload_n cx 0 rfl e_X0_slide_15 ?_
  refine g_get cx cl_X0 fl_X0_35 37 (.ref (ad 43)) e_X0_slide_16 rfl rfl ?_
  refine g_getN cx cl_X4 fn_X0_159 43 (.ref (ad 44)) e_X0_slide_19 rfl rfl ?_
  refine g_iload_n cx 1 rfl e_X0_slide_22 ?_
  refine g_dup2 cx rfl rfl e_X0_slide_23 ?_
  refine g_iald cx 44 e_X0_slide_24 rfl (jv_ix 10 pa0 (by decide)) ?_
  refine g_topi (fun x3 ex3 => ?_)
  refine g_aload_n cx 0 rfl e_X0_slide_25 ?_
  refine g_get cx cl_X0 fl_X0_39 37 (.ref (ad 38)) e_X0_slide_26 rfl rfl ?_
  refine g_iload_n cx 1 rfl e_X0_slide_29 ?_
  refine g_iald cx 38 e_X0_slide_30 rfl (jv_ix 10 pa0 (by decide)) ?_
  refine g_topi (fun x4 ex4 => ?_)
  refine g_isub cx e_X0_slide_31 ?_
  refine g_topi (fun x5 ex5 => ?_)
  refine g_iast cx 44 (wX X ad F (g_u R2 44 (upd (R2 44) (Int32.toNatClampNeg a0) x5))) e_X0_slide_32 rfl (jv_ix 10 pa0 (by decide)) rfl ?_
  obtain ⟨R6, hR6⟩ : ∃ z, z = g_u R2 44 (upd (R2 44) (Int32.toNatClampNeg a0) x5) := ⟨_, rfl⟩
  rw [← hR6]
  have oR6 : g_okR LA_wX R6 := by rw [hR6]; exact g_okR_u oR2 rfl
  have fR6 : g_fr mr_X0_slide R R6 := by rw [hR6]; exact g_fr_r fR2 rfl
  refine g_aload_n cx 0 rfl e_X0_slide_33 ?_
  refine g_get cx cl_X0 fl_X0_35 37 (.ref (ad 43)) e_X0_slide_34 rfl rfl ?_
  refine g_getN cx cl_X4 fn_X0_159 43 (.ref (ad 44)) e_X0_slide_37 rfl rfl ?_
  refine g_iload_n cx 1 rfl e_X0_slide_40 ?_
  refine g_iald cx 44 e_X0_slide_41 rfl (jv_ix 10 pa0 (by decide)) ?_
  refine g_topi (fun x7 ex7 => ?_)
  have J65 : ∀ (F8 : Nat → Int32) (R9 : Nat → Nat → Int32), (g_ok LK_wX F8) → (g_fr md_X0_slide F F8) → (g_okR LA_wX R9) → (g_fr mr_X0_slide R R9) → G X E 2 0 0 (wX X ad F8 R9) [] 65 [] := by
    intro F8 R9 oF8 fF8 oR9 fR9
    exact hret e_X0_slide_65 (Nat.le_of_ble_eq_true rfl) (Nat.le_of_ble_eq_true rfl) ⟨F8, R9, rfl, oF8, oR9, fF8, fR9⟩
  refine g_if_ge cx 65 e_X0_slide_42 (by decide) (fun zc10 => ?_) (fun zc10 => ?_)
  · have p11 := gn_ge 0 2147483647 (gc_le zc10) (jv_t x7) (jv_k (x := 0) 0 (by decide)) (by decide)
    refine g_lsub [] [] rfl ?_
    exact J65 F R6 hI (g_fr_rf F) oR6 fR6
  · have p12 := gn_lt (-2147483648) (-1) (gc_nle zc10) (jv_t x7) (jv_k (x := 0) 0 (by decide)) (by decide)
    refine g_aload_n cx 0 rfl e_X0_slide_45 ?_
    refine g_get cx cl_X0 fl_X0_35 37 (.ref (ad 43)) e_X0_slide_46 rfl rfl ?_
    refine g_dup cx rfl e_X0_slide_49 ?_
    refine g_getN cx cl_X4 fn_X0_186 43 (.int (F 693)) e_X0_slide_50 rfl rfl ?_
    refine g_iconst cx 1 (by decide) e_X0_slide_53 ?_
    refine g_iload_n cx 1 rfl e_X0_slide_54 ?_
    refine g_ishl cx e_X0_slide_55 ?_
    refine g_topi (fun x13 ex13 => ?_)
    refine g_ior cx e_X0_slide_56 ?_
    refine g_topi (fun x14 ex14 => ?_)
    refine g_putN cx cl_X4 fn_X0_186 43 (wX X ad (upd F 693 x14) R6) e_X0_slide_57 rfl rfl rfl rfl (Nat.le_of_ble_eq_true rfl) rfl ?_
    obtain ⟨F15, hF15⟩ : ∃ z, z = upd F 693 x14 := ⟨_, rfl⟩
    rw [← hF15]
    have oF15 : g_ok LK_wX F15 := by rw [hF15]; exact g_ok_u hI rfl
    have fF15 : g_fr md_X0_slide F F15 := by rw [hF15]; exact g_fr_u (g_fr_rf F) rfl
    refine g_aload_n cx 0 rfl e_X0_slide_60 ?_
    refine g_iload_n cx 1 rfl e_X0_slide_61 ?_
    refine g_cVvW cx [.int a0] [] (w_X0_lead l X ad F15 R6 oF15 oR6 a0 pa0) ml_X0_129 yV_X0_lead e_X0_slide_62 (by unfold g_rr; decide) (by decide) 37 rfl rfl rfl (Nat.le_of_ble_eq_true rfl) (fun w17 h18 => ?_)
    obtain ⟨F19, R20, rfl, oF19, oR20, cF19, cR20⟩ := h18
    have fF19 : g_fr md_X0_slide F F19 := g_fr_c fF15 cF19 rfl
    have fR20 : g_fr mr_X0_slide R R20 := g_fr_c fR6 cR20 rfl
    refine g_lsub [] [] rfl ?_
    exact J65 F19 R20 oF19 fF19 oR20 fR20
theorem e_X4_placeOf_0 : g_dc cX4_placeOf 0 (.iload_n 1) 1 1 := ⟨by decide +kernel, rfl⟩
theorem e_X4_placeOf_1 : g_dc cX4_placeOf 1 (.iconst 0) 1 2 := ⟨by decide +kernel, rfl⟩
theorem e_X4_placeOf_2 : g_dc cX4_placeOf 2 (.bipush 9) 2 4 := ⟨by decide +kernel, rfl⟩
theorem e_X4_placeOf_4 : g_dc cX4_placeOf 4 (.invokestatic 54) 3 7 := ⟨by decide +kernel, rfl⟩
theorem e_X4_placeOf_7 : g_dc cX4_placeOf 7 (.ifCond .eq 12) 3 10 := ⟨by decide +kernel, rfl⟩
theorem e_X4_placeOf_10 : g_dc cX4_placeOf 10 (.aload_n 0) 1 11 := ⟨by decide +kernel, rfl⟩
theorem e_X4_placeOf_11 : g_dc cX4_placeOf 11 (.getfield 9) 3 14 := ⟨by decide +kernel, rfl⟩
theorem e_X4_placeOf_14 : g_dc cX4_placeOf 14 (.iload_n 1) 1 15 := ⟨by decide +kernel, rfl⟩
theorem e_X4_placeOf_15 : g_dc cX4_placeOf 15 (.iaload) 1 16 := ⟨by decide +kernel, rfl⟩
theorem e_X4_placeOf_16 : g_dc cX4_placeOf 16 (.goto 4) 3 19 := ⟨by decide +kernel, rfl⟩
theorem e_X4_placeOf_19 : g_dc cX4_placeOf 19 (.iconst (-1)) 1 20 := ⟨by decide +kernel, rfl⟩
theorem e_X4_placeOf_20 : g_dc cX4_placeOf 20 (.ireturn) 1 21 := ⟨by decide +kernel, rfl⟩
set_option maxHeartbeats 4000000 in
set_option maxRecDepth 100000 in
theorem w_X4_placeOf (l : Launch) (X : gX) (ad : Nat → Nat) (F : Nat → Int32) (R : Nat → Nat → Int32) (hI : g_ok LK_wX F) (hA : g_okR LA_wX R) (a0 : Int32) : g_Ci l X yX4_placeOf cX4_placeOf 2 (some .int) 2 0 0 [.ref (ad 43), .int a0] (wX X ad F R) (fun r w => w = wX X ad F R ∧ jv (-2147483648) 2147483647 r) := by
  refine g_mi (by decide +kernel) (Nat.le_of_ble_eq_true rfl) (fun E cx hret => ?_)
  refine g_iload_n cx 1 rfl e_X4_placeOf_0 ?_
  refine g_iconst cx 0 (by decide) e_X4_placeOf_1 ?_
  refine g_bipush cx 9 (by decide) e_X4_placeOf_2 ?_
  refine g_cNiW cx [.int a0, .int 0, .int 9] [] (c_X10_within l X (wX X ad F R) a0 0 9) mn_X4_54 yS_X10_within e_X4_placeOf_4 (by unfold g_rr; decide) (by decide) rfl (Nat.le_of_ble_eq_true rfl) (fun r1 w2 h3 => ?_)
  obtain ⟨rfl, hr1⟩ := h3
  have pr1 : jv 0 1 r1 := by rw [hr1]; exact gi_01 _ _ _
  have J20 : ∀ (y4 : Int32), (jv (-2147483648) 2147483647 y4) → G X E 2 0 0 (wX X ad F R) [] 20 [.int y4] := by
    intro y4 py4
    exact hret e_X4_placeOf_20 (Nat.le_of_ble_eq_true rfl) (Nat.le_of_ble_eq_true rfl) rfl ⟨rfl, py4⟩
  refine g_if_eq cx 19 e_X4_placeOf_7 (by decide) (fun zc5 => ?_) (fun zc5 => ?_)
  · have p6 := gn_eq 0 0 (gc_eq zc5) pr1 (jv_k (x := 0) 0 (by decide)) (by decide)
    refine g_iconst cx (-1) (by decide) e_X4_placeOf_19 ?_
    refine g_lsub [] [] rfl ?_
    exact J20 (-1) (jv_w (jv_k (x := (-1)) (-1) (by decide)) (by decide))
  · have p7 := gn_neL 1 1 (gc_ne zc5) pr1 (jv_k (x := 0) 0 (by decide)) (by decide)
    have p8 := jv_i 0 9 (jv_t a0) (gi_in (A := 0) (B := 9) hr1 zc5 (by decide) (by decide)) (by decide)
    refine g_aload_n cx 0 rfl e_X4_placeOf_10 ?_
    refine g_get cx cl_X4 fl_X4_9 43 (.ref (ad 44)) e_X4_placeOf_11 rfl rfl ?_
    refine g_iload_n cx 1 rfl e_X4_placeOf_14 ?_
    refine g_iald cx 44 e_X4_placeOf_15 rfl (jv_ix 10 p8 (by decide)) ?_
    refine g_topi (fun x9 ex9 => ?_)
    refine g_goto cx 20 e_X4_placeOf_16 (by decide) ?_
    refine g_lsub [] [] rfl ?_
    exact J20 x9 (jv_t x9)
theorem e_X0_lineUp_0 : g_dc cX0_lineUp 0 (.aload_n 0) 1 1 := ⟨by decide +kernel, rfl⟩
theorem e_X0_lineUp_1 : g_dc cX0_lineUp 1 (.iconst 0) 1 2 := ⟨by decide +kernel, rfl⟩
theorem e_X0_lineUp_2 : g_dc cX0_lineUp 2 (.putfield 56) 3 5 := ⟨by decide +kernel, rfl⟩
theorem e_X0_lineUp_5 : g_dc cX0_lineUp 5 (.aload_n 0) 1 6 := ⟨by decide +kernel, rfl⟩
theorem e_X0_lineUp_6 : g_dc cX0_lineUp 6 (.getfield 35) 3 9 := ⟨by decide +kernel, rfl⟩
theorem e_X0_lineUp_9 : g_dc cX0_lineUp 9 (.invokevirtual 101) 3 12 := ⟨by decide +kernel, rfl⟩
theorem e_X0_lineUp_12 : g_dc cX0_lineUp 12 (.istore_n 1) 1 13 := ⟨by decide +kernel, rfl⟩
theorem e_X0_lineUp_13 : g_dc cX0_lineUp 13 (.iconst 0) 1 14 := ⟨by decide +kernel, rfl⟩
theorem e_X0_lineUp_14 : g_dc cX0_lineUp 14 (.istore_n 2) 1 15 := ⟨by decide +kernel, rfl⟩
theorem e_X0_lineUp_15 : g_dc cX0_lineUp 15 (.iload_n 2) 1 16 := ⟨by decide +kernel, rfl⟩
theorem e_X0_lineUp_16 : g_dc cX0_lineUp 16 (.bipush 10) 2 18 := ⟨by decide +kernel, rfl⟩
theorem e_X0_lineUp_18 : g_dc cX0_lineUp 18 (.if_icmp .ge 106) 3 21 := ⟨by decide +kernel, rfl⟩
theorem e_X0_lineUp_21 : g_dc cX0_lineUp 21 (.iload_n 1) 1 22 := ⟨by decide +kernel, rfl⟩
theorem e_X0_lineUp_22 : g_dc cX0_lineUp 22 (.iconst 1) 1 23 := ⟨by decide +kernel, rfl⟩
theorem e_X0_lineUp_23 : g_dc cX0_lineUp 23 (.iload_n 2) 1 24 := ⟨by decide +kernel, rfl⟩
theorem e_X0_lineUp_24 : g_dc cX0_lineUp 24 (.ishl) 1 25 := ⟨by decide +kernel, rfl⟩
theorem e_X0_lineUp_25 : g_dc cX0_lineUp 25 (.iand) 1 26 := ⟨by decide +kernel, rfl⟩
theorem e_X0_lineUp_26 : g_dc cX0_lineUp 26 (.ifCond .eq 92) 3 29 := ⟨by decide +kernel, rfl⟩
theorem e_X0_lineUp_29 : g_dc cX0_lineUp 29 (.aload_n 0) 1 30 := ⟨by decide +kernel, rfl⟩
theorem e_X0_lineUp_30 : g_dc cX0_lineUp 30 (.getfield 56) 3 33 := ⟨by decide +kernel, rfl⟩
theorem e_X0_lineUp_33 : g_dc cX0_lineUp 33 (.istore_n 3) 1 34 := ⟨by decide +kernel, rfl⟩
theorem e_X0_lineUp_34 : g_dc cX0_lineUp 34 (.iload_n 3) 1 35 := ⟨by decide +kernel, rfl⟩
theorem e_X0_lineUp_35 : g_dc cX0_lineUp 35 (.ifCond .le 56) 3 38 := ⟨by decide +kernel, rfl⟩
theorem e_X0_lineUp_38 : g_dc cX0_lineUp 38 (.iload_n 3) 1 39 := ⟨by decide +kernel, rfl⟩
theorem e_X0_lineUp_39 : g_dc cX0_lineUp 39 (.bipush 10) 2 41 := ⟨by decide +kernel, rfl⟩
theorem e_X0_lineUp_41 : g_dc cX0_lineUp 41 (.if_icmp .ge 50) 3 44 := ⟨by decide +kernel, rfl⟩
theorem e_X0_lineUp_44 : g_dc cX0_lineUp 44 (.aload_n 0) 1 45 := ⟨by decide +kernel, rfl⟩
theorem e_X0_lineUp_45 : g_dc cX0_lineUp 45 (.getfield 35) 3 48 := ⟨by decide +kernel, rfl⟩
theorem e_X0_lineUp_48 : g_dc cX0_lineUp 48 (.aload_n 0) 1 49 := ⟨by decide +kernel, rfl⟩
theorem e_X0_lineUp_49 : g_dc cX0_lineUp 49 (.getfield 46) 3 52 := ⟨by decide +kernel, rfl⟩
theorem e_X0_lineUp_52 : g_dc cX0_lineUp 52 (.iload_n 3) 1 53 := ⟨by decide +kernel, rfl⟩
theorem e_X0_lineUp_53 : g_dc cX0_lineUp 53 (.iconst 1) 1 54 := ⟨by decide +kernel, rfl⟩
theorem e_X0_lineUp_54 : g_dc cX0_lineUp 54 (.isub) 1 55 := ⟨by decide +kernel, rfl⟩
theorem e_X0_lineUp_55 : g_dc cX0_lineUp 55 (.iaload) 1 56 := ⟨by decide +kernel, rfl⟩
theorem e_X0_lineUp_56 : g_dc cX0_lineUp 56 (.invokevirtual 189) 3 59 := ⟨by decide +kernel, rfl⟩
theorem e_X0_lineUp_59 : g_dc cX0_lineUp 59 (.aload_n 0) 1 60 := ⟨by decide +kernel, rfl⟩
theorem e_X0_lineUp_60 : g_dc cX0_lineUp 60 (.getfield 35) 3 63 := ⟨by decide +kernel, rfl⟩
theorem e_X0_lineUp_63 : g_dc cX0_lineUp 63 (.getfield 159) 3 66 := ⟨by decide +kernel, rfl⟩
theorem e_X0_lineUp_66 : g_dc cX0_lineUp 66 (.iload_n 2) 1 67 := ⟨by decide +kernel, rfl⟩
theorem e_X0_lineUp_67 : g_dc cX0_lineUp 67 (.iaload) 1 68 := ⟨by decide +kernel, rfl⟩
theorem e_X0_lineUp_68 : g_dc cX0_lineUp 68 (.if_icmp .le 23) 3 71 := ⟨by decide +kernel, rfl⟩
theorem e_X0_lineUp_71 : g_dc cX0_lineUp 71 (.aload_n 0) 1 72 := ⟨by decide +kernel, rfl⟩
theorem e_X0_lineUp_72 : g_dc cX0_lineUp 72 (.getfield 46) 3 75 := ⟨by decide +kernel, rfl⟩
theorem e_X0_lineUp_75 : g_dc cX0_lineUp 75 (.iload_n 3) 1 76 := ⟨by decide +kernel, rfl⟩
theorem e_X0_lineUp_76 : g_dc cX0_lineUp 76 (.aload_n 0) 1 77 := ⟨by decide +kernel, rfl⟩
theorem e_X0_lineUp_77 : g_dc cX0_lineUp 77 (.getfield 46) 3 80 := ⟨by decide +kernel, rfl⟩
theorem e_X0_lineUp_80 : g_dc cX0_lineUp 80 (.iload_n 3) 1 81 := ⟨by decide +kernel, rfl⟩
theorem e_X0_lineUp_81 : g_dc cX0_lineUp 81 (.iconst 1) 1 82 := ⟨by decide +kernel, rfl⟩
theorem e_X0_lineUp_82 : g_dc cX0_lineUp 82 (.isub) 1 83 := ⟨by decide +kernel, rfl⟩
theorem e_X0_lineUp_83 : g_dc cX0_lineUp 83 (.iaload) 1 84 := ⟨by decide +kernel, rfl⟩
theorem e_X0_lineUp_84 : g_dc cX0_lineUp 84 (.iastore) 1 85 := ⟨by decide +kernel, rfl⟩
theorem e_X0_lineUp_85 : g_dc cX0_lineUp 85 (.iinc 3 (-1)) 3 88 := ⟨by decide +kernel, rfl⟩
theorem e_X0_lineUp_88 : g_dc cX0_lineUp 88 (.goto (-54)) 3 91 := ⟨by decide +kernel, rfl⟩
theorem e_X0_lineUp_91 : g_dc cX0_lineUp 91 (.iload_n 3) 1 92 := ⟨by decide +kernel, rfl⟩
theorem e_X0_lineUp_92 : g_dc cX0_lineUp 92 (.ifCond .lt 26) 3 95 := ⟨by decide +kernel, rfl⟩
theorem e_X0_lineUp_95 : g_dc cX0_lineUp 95 (.iload_n 3) 1 96 := ⟨by decide +kernel, rfl⟩
theorem e_X0_lineUp_96 : g_dc cX0_lineUp 96 (.bipush 10) 2 98 := ⟨by decide +kernel, rfl⟩
theorem e_X0_lineUp_98 : g_dc cX0_lineUp 98 (.if_icmp .ge 20) 3 101 := ⟨by decide +kernel, rfl⟩
theorem e_X0_lineUp_101 : g_dc cX0_lineUp 101 (.aload_n 0) 1 102 := ⟨by decide +kernel, rfl⟩
theorem e_X0_lineUp_102 : g_dc cX0_lineUp 102 (.getfield 46) 3 105 := ⟨by decide +kernel, rfl⟩
theorem e_X0_lineUp_105 : g_dc cX0_lineUp 105 (.iload_n 3) 1 106 := ⟨by decide +kernel, rfl⟩
theorem e_X0_lineUp_106 : g_dc cX0_lineUp 106 (.iload_n 2) 1 107 := ⟨by decide +kernel, rfl⟩
theorem e_X0_lineUp_107 : g_dc cX0_lineUp 107 (.iastore) 1 108 := ⟨by decide +kernel, rfl⟩
theorem e_X0_lineUp_108 : g_dc cX0_lineUp 108 (.aload_n 0) 1 109 := ⟨by decide +kernel, rfl⟩
theorem e_X0_lineUp_109 : g_dc cX0_lineUp 109 (.dup) 1 110 := ⟨by decide +kernel, rfl⟩
theorem e_X0_lineUp_110 : g_dc cX0_lineUp 110 (.getfield 56) 3 113 := ⟨by decide +kernel, rfl⟩
theorem e_X0_lineUp_113 : g_dc cX0_lineUp 113 (.iconst 1) 1 114 := ⟨by decide +kernel, rfl⟩
theorem e_X0_lineUp_114 : g_dc cX0_lineUp 114 (.iadd) 1 115 := ⟨by decide +kernel, rfl⟩
theorem e_X0_lineUp_115 : g_dc cX0_lineUp 115 (.putfield 56) 3 118 := ⟨by decide +kernel, rfl⟩
theorem e_X0_lineUp_118 : g_dc cX0_lineUp 118 (.iinc 2 1) 3 121 := ⟨by decide +kernel, rfl⟩
theorem e_X0_lineUp_121 : g_dc cX0_lineUp 121 (.goto (-106)) 3 124 := ⟨by decide +kernel, rfl⟩
theorem e_X0_lineUp_124 : g_dc cX0_lineUp 124 (.return_) 1 125 := ⟨by decide +kernel, rfl⟩
def md_X0_lineUp : List Nat := [602]
def mr_X0_lineUp : List Nat := [40]
set_option maxHeartbeats 4000000 in
set_option maxRecDepth 100000 in
theorem w_X0_lineUp (l : Launch) (X : gX) (ad : Nat → Nat) (F : Nat → Int32) (R : Nat → Nat → Int32) (hI : g_ok LK_wX F) (hA : g_okR LA_wX R) : g_Cv l X yX0_lineUp cX0_lineUp 4 3 0 0 [.ref (ad 37)] (wX X ad F R) (fun w => ∃ (F' : Nat → Int32) (R' : Nat → Nat → Int32), w = wX X ad F' R' ∧ g_ok LK_wX F' ∧ g_okR LA_wX R' ∧ g_fr md_X0_lineUp F F' ∧ g_fr mr_X0_lineUp R R') := by
  refine g_mv (by decide +kernel) (Nat.le_of_ble_eq_true rfl) (fun E cx hret => ?_)
  refine g_aload_n cx 0 rfl e_X0_lineUp_0 ?_
  refine g_iconst cx 0 (by decide) e_X0_lineUp_1 ?_
  refine g_put cx cl_X0 fl_X0_56 37 (wX X ad (upd F 602 0) R) e_X0_lineUp_2 rfl rfl rfl rfl (Nat.le_of_ble_eq_true rfl) rfl ?_
  obtain ⟨F1, hF1⟩ : ∃ z, z = upd F 602 0 := ⟨_, rfl⟩
  rw [← hF1]
  have oF1 : g_ok LK_wX F1 := by rw [hF1]; exact g_ok_u hI rfl
  have fF1 : g_fr md_X0_lineUp F F1 := by rw [hF1]; exact g_fr_u (g_fr_rf F) rfl
  refine g_aload_n cx 0 rfl e_X0_lineUp_5 ?_
  refine g_get cx cl_X0 fl_X0_35 37 (.ref (ad 43)) e_X0_lineUp_6 rfl rfl ?_
  refine g_cViW cx [] [] (w_X4_standingSet l X ad F1 R oF1 hA) ml_X0_101 yV_X4_standingSet e_X0_lineUp_9 (by unfold g_rr; decide) (by decide) 43 rfl rfl rfl (Nat.le_of_ble_eq_true rfl) (fun r2 w3 h4 => ?_)
  obtain ⟨rfl, pr2⟩ := h4
  refine g_istore_n cx [(1, .int r2), (0, .ref (ad 37))] e_X0_lineUp_12 (by decide) rfl ?_
  refine g_iconst cx 0 (by decide) e_X0_lineUp_13 ?_
  refine g_istore_n cx [(2, .int 0), (1, .int r2), (0, .ref (ad 37))] e_X0_lineUp_14 (by decide) rfl ?_
  have J15 : ∀ (N : Nat) (F6 : Nat → Int32) (R7 : Nat → Nat → Int32) (y5 : Int32), (g_ok LK_wX F6) → (g_fr md_X0_lineUp F F6) → (g_okR LA_wX R7) → (g_fr mr_X0_lineUp R R7) → (jv 0 10 y5) → (2147483647 - y5.toInt).toNat < N → G X E 4 0 0 (wX X ad F6 R7) [(0, .ref (ad 37)), (1, .int r2), (2, .int y5)] 15 [] := by
    intro N
    induction N with
    | zero => intro F6 R7 y5 oF6 fF6 oR7 fR7 py5 hm; exact absurd hm (Nat.not_lt_zero _)
    | succ N ih15 =>
      intro F6 R7 y5 oF6 fF6 oR7 fR7 py5 hm15
      refine g_iload_n cx 2 rfl e_X0_lineUp_15 ?_
      refine g_bipush cx 10 (by decide) e_X0_lineUp_16 ?_
      refine g_icmp_ge cx 124 e_X0_lineUp_18 (by decide) (fun zc8 => ?_) (fun zc8 => ?_)
      · have p9 := gn_ge 10 10 (gc_le zc8) py5 (jv_k (x := 10) 10 (by decide)) (by decide)
        exact hret e_X0_lineUp_124 (Nat.le_of_ble_eq_true rfl) (Nat.le_of_ble_eq_true rfl) ⟨F6, R7, rfl, oF6, oR7, fF6, fR7⟩
      · have p10 := gn_lt 0 9 (gc_nle zc8) py5 (jv_k (x := 10) 10 (by decide)) (by decide)
        refine g_iload_n cx 1 rfl e_X0_lineUp_21 ?_
        refine g_iconst cx 1 (by decide) e_X0_lineUp_22 ?_
        refine g_iload_n cx 2 rfl e_X0_lineUp_23 ?_
        refine g_ishl cx e_X0_lineUp_24 ?_
        refine g_topi (fun x11 ex11 => ?_)
        refine g_iand cx e_X0_lineUp_25 ?_
        refine g_topi (fun x12 ex12 => ?_)
        have J118 : ∀ (F13 : Nat → Int32) (R14 : Nat → Nat → Int32), (g_ok LK_wX F13) → (g_fr md_X0_lineUp F F13) → (g_okR LA_wX R14) → (g_fr mr_X0_lineUp R R14) → G X E 4 0 0 (wX X ad F13 R14) [(0, .ref (ad 37)), (1, .int r2), (2, .int y5)] 118 [] := by
          intro F13 R14 oF13 fF13 oR14 fR14
          obtain ⟨x15, ex15⟩ : ∃ z : Int32, z = y5 + Int32.ofInt 1 := ⟨_, rfl⟩
          refine g_iinc cx x15 [(2, .int x15), (0, .ref (ad 37)), (1, .int r2)] 2 e_X0_lineUp_118 rfl ex15.symm (by decide) rfl ?_
          have zx15 := jv_add 1 10 (show x15 = y5 + 1 from ex15) p10 (jv_k (x := 1) 1 (by decide)) (by decide)
          refine g_goto cx 15 e_X0_lineUp_121 (by decide) ?_
          refine g_lsub [1, 2, 0] [(0, .ref (ad 37)), (1, .int r2), (2, .int x15)] rfl ?_
          exact ih15 F13 R14 x15 oF13 fF13 oR14 fR14 (jv_w zx15.2 (by decide)) (Nat.lt_of_lt_of_le (show (2147483647 - x15.toInt).toNat < (2147483647 - y5.toInt).toNat from by have q0 := (jv_k (x := 1) 1 (by decide)).1; have q1 := (jv_k (x := 1) 1 (by decide)).2; have q2 := (jv_k (x := 10) 10 (by decide)).1; have q3 := (jv_k (x := 10) 10 (by decide)).2; have q4 := zx15.2.1; have q5 := zx15.2.2; have q6 := p10.1; have q7 := p10.2; have q8 := (gc_nle zc8); have q9 := (g_eq0 zx15.1); omega) (Nat.le_of_lt_succ hm15))
        refine g_if_eq cx 118 e_X0_lineUp_26 (by decide) (fun zc16 => ?_) (fun zc16 => ?_)
        · have p17 := gn_eq 0 0 (gc_eq zc16) (jv_t x12) (jv_k (x := 0) 0 (by decide)) (by decide)
          exact J118 F6 R7 oF6 fF6 oR7 fR7
        · refine g_aload_n cx 0 rfl e_X0_lineUp_29 ?_
          refine g_get cx cl_X0 fl_X0_56 37 (.int (F6 602)) e_X0_lineUp_30 rfl rfl ?_
          refine g_istore_n cx [(3, .int (F6 602)), (0, .ref (ad 37)), (1, .int r2), (2, .int y5)] e_X0_lineUp_33 (by decide) rfl ?_
          have J34 : ∀ (N : Nat) (R19 : Nat → Nat → Int32) (y18 : Int32), (g_okR LA_wX R19) → (g_fr mr_X0_lineUp R R19) → (jv (-2147483648) 2147483647 y18) → (y18.toInt + 2147483648).toNat < N → G X E 4 0 0 (wX X ad F6 R19) [(0, .ref (ad 37)), (1, .int r2), (2, .int y5), (3, .int y18)] 34 [] := by
            intro N
            induction N with
            | zero => intro R19 y18 oR19 fR19 py18 hm; exact absurd hm (Nat.not_lt_zero _)
            | succ N ih34 =>
              intro R19 y18 oR19 fR19 py18 hm34
              refine g_iload_n cx 3 rfl e_X0_lineUp_34 ?_
              have J91 : G X E 4 0 0 (wX X ad F6 R19) [(0, .ref (ad 37)), (1, .int r2), (2, .int y5), (3, .int y18)] 91 [] := by
                refine g_iload_n cx 3 rfl e_X0_lineUp_91 ?_
                refine g_if_lt cx 118 e_X0_lineUp_92 (by decide) (fun zc20 => ?_) (fun zc20 => ?_)
                · have p21 := gn_lt (-2147483648) (-1) (gc_lt zc20) py18 (jv_k (x := 0) 0 (by decide)) (by decide)
                  refine g_lsub [0, 1, 2] [(0, .ref (ad 37)), (1, .int r2), (2, .int y5)] rfl ?_
                  exact J118 F6 R19 oF6 fF6 oR19 fR19
                · have p22 := gn_ge 0 2147483647 (gc_nlt zc20) py18 (jv_k (x := 0) 0 (by decide)) (by decide)
                  refine g_iload_n cx 3 rfl e_X0_lineUp_95 ?_
                  refine g_bipush cx 10 (by decide) e_X0_lineUp_96 ?_
                  refine g_icmp_ge cx 118 e_X0_lineUp_98 (by decide) (fun zc23 => ?_) (fun zc23 => ?_)
                  · have p24 := gn_ge 10 2147483647 (gc_le zc23) p22 (jv_k (x := 10) 10 (by decide)) (by decide)
                    refine g_lsub [0, 1, 2] [(0, .ref (ad 37)), (1, .int r2), (2, .int y5)] rfl ?_
                    exact J118 F6 R19 oF6 fF6 oR19 fR19
                  · have p25 := gn_lt 0 9 (gc_nle zc23) p22 (jv_k (x := 10) 10 (by decide)) (by decide)
                    refine g_aload_n cx 0 rfl e_X0_lineUp_101 ?_
                    refine g_get cx cl_X0 fl_X0_46 37 (.ref (ad 40)) e_X0_lineUp_102 rfl rfl ?_
                    refine g_iload_n cx 3 rfl e_X0_lineUp_105 ?_
                    refine g_iload_n cx 2 rfl e_X0_lineUp_106 ?_
                    refine g_iast cx 40 (wX X ad F6 (g_u R19 40 (upd (R19 40) (Int32.toNatClampNeg y18) y5))) e_X0_lineUp_107 rfl (jv_ix 10 p25 (by decide)) rfl ?_
                    obtain ⟨R26, hR26⟩ : ∃ z, z = g_u R19 40 (upd (R19 40) (Int32.toNatClampNeg y18) y5) := ⟨_, rfl⟩
                    rw [← hR26]
                    have oR26 : g_okR LA_wX R26 := by rw [hR26]; exact g_okR_u oR19 rfl
                    have fR26 : g_fr mr_X0_lineUp R R26 := by rw [hR26]; exact g_fr_r fR19 rfl
                    refine g_aload_n cx 0 rfl e_X0_lineUp_108 ?_
                    refine g_dup cx rfl e_X0_lineUp_109 ?_
                    refine g_get cx cl_X0 fl_X0_56 37 (.int (F6 602)) e_X0_lineUp_110 rfl rfl ?_
                    refine g_iconst cx 1 (by decide) e_X0_lineUp_113 ?_
                    refine g_iadd cx e_X0_lineUp_114 ?_
                    refine g_topi (fun x27 ex27 => ?_)
                    refine g_put cx cl_X0 fl_X0_56 37 (wX X ad (upd F6 602 x27) R26) e_X0_lineUp_115 rfl rfl rfl rfl (Nat.le_of_ble_eq_true rfl) rfl ?_
                    obtain ⟨F28, hF28⟩ : ∃ z, z = upd F6 602 x27 := ⟨_, rfl⟩
                    rw [← hF28]
                    have oF28 : g_ok LK_wX F28 := by rw [hF28]; exact g_ok_u oF6 rfl
                    have fF28 : g_fr md_X0_lineUp F F28 := by rw [hF28]; exact g_fr_u fF6 rfl
                    refine g_lsub [0, 1, 2] [(0, .ref (ad 37)), (1, .int r2), (2, .int y5)] rfl ?_
                    exact J118 F28 R26 oF28 fF28 oR26 fR26
              refine g_if_le cx 91 e_X0_lineUp_35 (by decide) (fun zc29 => ?_) (fun zc29 => ?_)
              · have p30 := gn_le (-2147483648) 0 (gc_le zc29) py18 (jv_k (x := 0) 0 (by decide)) (by decide)
                exact J91  
              · have p31 := gn_gt 1 2147483647 (gc_nle zc29) py18 (jv_k (x := 0) 0 (by decide)) (by decide)
                refine g_iload_n cx 3 rfl e_X0_lineUp_38 ?_
                refine g_bipush cx 10 (by decide) e_X0_lineUp_39 ?_
                refine g_icmp_ge cx 91 e_X0_lineUp_41 (by decide) (fun zc32 => ?_) (fun zc32 => ?_)
                · have p33 := gn_ge 10 2147483647 (gc_le zc32) p31 (jv_k (x := 10) 10 (by decide)) (by decide)
                  exact J91  
                · have p34 := gn_lt 1 9 (gc_nle zc32) p31 (jv_k (x := 10) 10 (by decide)) (by decide)
                  refine g_aload_n cx 0 rfl e_X0_lineUp_44 ?_
                  refine g_get cx cl_X0 fl_X0_35 37 (.ref (ad 43)) e_X0_lineUp_45 rfl rfl ?_
                  refine g_aload_n cx 0 rfl e_X0_lineUp_48 ?_
                  refine g_get cx cl_X0 fl_X0_46 37 (.ref (ad 40)) e_X0_lineUp_49 rfl rfl ?_
                  refine g_iload_n cx 3 rfl e_X0_lineUp_52 ?_
                  refine g_iconst cx 1 (by decide) e_X0_lineUp_53 ?_
                  refine g_isub cx e_X0_lineUp_54 ?_
                  refine g_topi (fun x35 ex35 => ?_)
                  have zx35 := jv_sub 0 8 ex35 p34 (jv_k (x := 1) 1 (by decide)) (by decide)
                  refine g_iald cx 40 e_X0_lineUp_55 rfl (jv_ix 10 zx35.2 (by decide)) ?_
                  refine g_topi (fun x36 ex36 => ?_)
                  refine g_cViW cx [.int x36] [] (w_X4_placeOf l X ad F6 R19 oF6 oR19 x36) ml_X0_189 yV_X4_placeOf e_X0_lineUp_56 (by unfold g_rr; decide) (by decide) 43 rfl rfl rfl (Nat.le_of_ble_eq_true rfl) (fun r37 w38 h39 => ?_)
                  obtain ⟨rfl, pr37⟩ := h39
                  refine g_aload_n cx 0 rfl e_X0_lineUp_59 ?_
                  refine g_get cx cl_X0 fl_X0_35 37 (.ref (ad 43)) e_X0_lineUp_60 rfl rfl ?_
                  refine g_getN cx cl_X4 fn_X0_159 43 (.ref (ad 44)) e_X0_lineUp_63 rfl rfl ?_
                  refine g_iload_n cx 2 rfl e_X0_lineUp_66 ?_
                  refine g_iald cx 44 e_X0_lineUp_67 rfl (jv_ix 10 p10 (by decide)) ?_
                  refine g_topi (fun x40 ex40 => ?_)
                  refine g_icmp_le cx 91 e_X0_lineUp_68 (by decide) (fun zc41 => ?_) (fun zc41 => ?_)
                  · exact J91  
                  · have p42 := gn_lt (-2147483648) 2147483646 (gc_nle zc41) (jv_t x40) pr37 (by decide)
                    have p43 := gn_gt (-2147483647) 2147483647 (gc_nle zc41) pr37 (jv_t x40) (by decide)
                    refine g_aload_n cx 0 rfl e_X0_lineUp_71 ?_
                    refine g_get cx cl_X0 fl_X0_46 37 (.ref (ad 40)) e_X0_lineUp_72 rfl rfl ?_
                    refine g_iload_n cx 3 rfl e_X0_lineUp_75 ?_
                    refine g_aload_n cx 0 rfl e_X0_lineUp_76 ?_
                    refine g_get cx cl_X0 fl_X0_46 37 (.ref (ad 40)) e_X0_lineUp_77 rfl rfl ?_
                    refine g_iload_n cx 3 rfl e_X0_lineUp_80 ?_
                    refine g_iconst cx 1 (by decide) e_X0_lineUp_81 ?_
                    refine g_isub cx e_X0_lineUp_82 ?_
                    refine g_topi (fun x44 ex44 => ?_)
                    have zx44 := jv_sub 0 8 ex44 p34 (jv_k (x := 1) 1 (by decide)) (by decide)
                    refine g_iald cx 40 e_X0_lineUp_83 rfl (jv_ix 10 zx44.2 (by decide)) ?_
                    refine g_topi (fun x45 ex45 => ?_)
                    refine g_iast cx 40 (wX X ad F6 (g_u R19 40 (upd (R19 40) (Int32.toNatClampNeg y18) x45))) e_X0_lineUp_84 rfl (jv_ix 10 p34 (by decide)) rfl ?_
                    obtain ⟨R46, hR46⟩ : ∃ z, z = g_u R19 40 (upd (R19 40) (Int32.toNatClampNeg y18) x45) := ⟨_, rfl⟩
                    rw [← hR46]
                    have oR46 : g_okR LA_wX R46 := by rw [hR46]; exact g_okR_u oR19 rfl
                    have fR46 : g_fr mr_X0_lineUp R R46 := by rw [hR46]; exact g_fr_r fR19 rfl
                    obtain ⟨x47, ex47⟩ : ∃ z : Int32, z = y18 + Int32.ofInt (-1) := ⟨_, rfl⟩
                    refine g_iinc cx x47 [(3, .int x47), (0, .ref (ad 37)), (1, .int r2), (2, .int y5)] 3 e_X0_lineUp_85 rfl ex47.symm (by decide) rfl ?_
                    have zx47 := jv_add 0 8 (show x47 = y18 + (-1) from ex47) p34 (jv_k (x := (-1)) (-1) (by decide)) (by decide)
                    refine g_goto cx 34 e_X0_lineUp_88 (by decide) ?_
                    refine g_lsub [1, 2, 3, 0] [(0, .ref (ad 37)), (1, .int r2), (2, .int y5), (3, .int x47)] rfl ?_
                    exact ih34 R46 x47 oR46 fR46 (jv_w zx47.2 (by decide)) (Nat.lt_of_lt_of_le (show (x47.toInt + 2147483648).toNat < (y18.toInt + 2147483648).toNat from by have q0 := (jv_k (x := (-1)) (-1) (by decide)).1; have q1 := (jv_k (x := (-1)) (-1) (by decide)).2; have q2 := (jv_k (x := 0) 0 (by decide)).1; have q3 := (jv_k (x := 0) 0 (by decide)).2; have q4 := (jv_k (x := 1) 1 (by decide)).1; have q5 := (jv_k (x := 1) 1 (by decide)).2; have q6 := (jv_k (x := 10) 10 (by decide)).1; have q7 := (jv_k (x := 10) 10 (by decide)).2; have q8 := (jv_t x12).1; have q9 := (jv_t x12).2; have q10 := zx35.2.1; have q11 := zx35.2.2; have q12 := zx44.2.1; have q13 := zx44.2.2; have q14 := zx47.2.1; have q15 := zx47.2.2; have q16 := p34.1; have q17 := p34.2; have q18 := p10.1; have q19 := p10.2; have q20 := (gc_nle zc8); have q21 := (gc_ne zc16); have q22 := (gc_nle zc29); have q23 := (gc_nle zc32); have q24 := (g_eq0 zx35.1); have q25 := (g_eq0 zx44.1); have q26 := (g_eq0 zx47.1); omega) (Nat.le_of_lt_succ hm34))
          refine g_lsub [1, 2, 3, 0] [(0, .ref (ad 37)), (1, .int r2), (2, .int y5), (3, .int (F6 602))] rfl ?_
          exact J34 _ R7 (F6 602) oR7 fR7 (jv_t (F6 602)) (Nat.lt_succ_self _)
  refine g_lsub [2, 1, 0] [(0, .ref (ad 37)), (1, .int r2), (2, .int 0)] rfl ?_
  exact J15 _ F1 R 0 oF1 fF1 hA (g_fr_rf R) (jv_w (jv_k (x := 0) 0 (by decide)) (by decide)) (Nat.lt_succ_self _)
theorem e_X0_touch_0 : g_dc cX0_touch 0 (.iload_n 1) 1 1 := ⟨by decide +kernel, rfl⟩
theorem e_X0_touch_1 : g_dc cX0_touch 1 (.iconst 0) 1 2 := ⟨by decide +kernel, rfl⟩
theorem e_X0_touch_2 : g_dc cX0_touch 2 (.bipush 9) 2 4 := ⟨by decide +kernel, rfl⟩
theorem e_X0_touch_4 : g_dc cX0_touch 4 (.invokestatic 192) 3 7 := ⟨by decide +kernel, rfl⟩
theorem e_X0_touch_7 : g_dc cX0_touch 7 (.ifCond .eq 13) 3 10 := ⟨by decide +kernel, rfl⟩
theorem e_X0_touch_10 : g_dc cX0_touch 10 (.iload_n 2) 1 11 := ⟨by decide +kernel, rfl⟩
theorem e_X0_touch_11 : g_dc cX0_touch 11 (.iconst 0) 1 12 := ⟨by decide +kernel, rfl⟩
theorem e_X0_touch_12 : g_dc cX0_touch 12 (.bipush 9) 2 14 := ⟨by decide +kernel, rfl⟩
theorem e_X0_touch_14 : g_dc cX0_touch 14 (.invokestatic 192) 3 17 := ⟨by decide +kernel, rfl⟩
theorem e_X0_touch_17 : g_dc cX0_touch 17 (.ifCond .ne 4) 3 20 := ⟨by decide +kernel, rfl⟩
theorem e_X0_touch_20 : g_dc cX0_touch 20 (.return_) 1 21 := ⟨by decide +kernel, rfl⟩
theorem e_X0_touch_21 : g_dc cX0_touch 21 (.aload_n 0) 1 22 := ⟨by decide +kernel, rfl⟩
theorem e_X0_touch_22 : g_dc cX0_touch 22 (.getfield 12) 3 25 := ⟨by decide +kernel, rfl⟩
theorem e_X0_touch_25 : g_dc cX0_touch 25 (.iload_n 1) 1 26 := ⟨by decide +kernel, rfl⟩
theorem e_X0_touch_26 : g_dc cX0_touch 26 (.iconst 2) 1 27 := ⟨by decide +kernel, rfl⟩
theorem e_X0_touch_27 : g_dc cX0_touch 27 (.invokevirtual 171) 3 30 := ⟨by decide +kernel, rfl⟩
theorem e_X0_touch_30 : g_dc cX0_touch 30 (.aload_n 0) 1 31 := ⟨by decide +kernel, rfl⟩
theorem e_X0_touch_31 : g_dc cX0_touch 31 (.getfield 12) 3 34 := ⟨by decide +kernel, rfl⟩
theorem e_X0_touch_34 : g_dc cX0_touch 34 (.iload_n 2) 1 35 := ⟨by decide +kernel, rfl⟩
theorem e_X0_touch_35 : g_dc cX0_touch 35 (.iconst 2) 1 36 := ⟨by decide +kernel, rfl⟩
theorem e_X0_touch_36 : g_dc cX0_touch 36 (.invokevirtual 171) 3 39 := ⟨by decide +kernel, rfl⟩
theorem e_X0_touch_39 : g_dc cX0_touch 39 (.iadd) 1 40 := ⟨by decide +kernel, rfl⟩
theorem e_X0_touch_40 : g_dc cX0_touch 40 (.iconst 2) 1 41 := ⟨by decide +kernel, rfl⟩
theorem e_X0_touch_41 : g_dc cX0_touch 41 (.idiv) 1 42 := ⟨by decide +kernel, rfl⟩
theorem e_X0_touch_42 : g_dc cX0_touch 42 (.istore_n 3) 1 43 := ⟨by decide +kernel, rfl⟩
theorem e_X0_touch_43 : g_dc cX0_touch 43 (.aload_n 0) 1 44 := ⟨by decide +kernel, rfl⟩
theorem e_X0_touch_44 : g_dc cX0_touch 44 (.getfield 35) 3 47 := ⟨by decide +kernel, rfl⟩
theorem e_X0_touch_47 : g_dc cX0_touch 47 (.getfield 159) 3 50 := ⟨by decide +kernel, rfl⟩
theorem e_X0_touch_50 : g_dc cX0_touch 50 (.iload_n 2) 1 51 := ⟨by decide +kernel, rfl⟩
theorem e_X0_touch_51 : g_dc cX0_touch 51 (.iaload) 1 52 := ⟨by decide +kernel, rfl⟩
theorem e_X0_touch_52 : g_dc cX0_touch 52 (.aload_n 0) 1 53 := ⟨by decide +kernel, rfl⟩
theorem e_X0_touch_53 : g_dc cX0_touch 53 (.getfield 35) 3 56 := ⟨by decide +kernel, rfl⟩
theorem e_X0_touch_56 : g_dc cX0_touch 56 (.getfield 159) 3 59 := ⟨by decide +kernel, rfl⟩
theorem e_X0_touch_59 : g_dc cX0_touch 59 (.iload_n 1) 1 60 := ⟨by decide +kernel, rfl⟩
theorem e_X0_touch_60 : g_dc cX0_touch 60 (.iaload) 1 61 := ⟨by decide +kernel, rfl⟩
theorem e_X0_touch_61 : g_dc cX0_touch 61 (.isub) 1 62 := ⟨by decide +kernel, rfl⟩
theorem e_X0_touch_62 : g_dc cX0_touch 62 (.iload_n 3) 1 63 := ⟨by decide +kernel, rfl⟩
theorem e_X0_touch_63 : g_dc cX0_touch 63 (.if_icmp .ge 18) 3 66 := ⟨by decide +kernel, rfl⟩
theorem e_X0_touch_66 : g_dc cX0_touch 66 (.aload_n 0) 1 67 := ⟨by decide +kernel, rfl⟩
theorem e_X0_touch_67 : g_dc cX0_touch 67 (.getfield 39) 3 70 := ⟨by decide +kernel, rfl⟩
theorem e_X0_touch_70 : g_dc cX0_touch 70 (.iload_n 2) 1 71 := ⟨by decide +kernel, rfl⟩
theorem e_X0_touch_71 : g_dc cX0_touch 71 (.iaload) 1 72 := ⟨by decide +kernel, rfl⟩
theorem e_X0_touch_72 : g_dc cX0_touch 72 (.aload_n 0) 1 73 := ⟨by decide +kernel, rfl⟩
theorem e_X0_touch_73 : g_dc cX0_touch 73 (.getfield 39) 3 76 := ⟨by decide +kernel, rfl⟩
theorem e_X0_touch_76 : g_dc cX0_touch 76 (.iload_n 1) 1 77 := ⟨by decide +kernel, rfl⟩
theorem e_X0_touch_77 : g_dc cX0_touch 77 (.iaload) 1 78 := ⟨by decide +kernel, rfl⟩
theorem e_X0_touch_78 : g_dc cX0_touch 78 (.if_icmp .gt 4) 3 81 := ⟨by decide +kernel, rfl⟩
theorem e_X0_touch_81 : g_dc cX0_touch 81 (.return_) 1 82 := ⟨by decide +kernel, rfl⟩
theorem e_X0_touch_82 : g_dc cX0_touch 82 (.aload_n 0) 1 83 := ⟨by decide +kernel, rfl⟩
theorem e_X0_touch_83 : g_dc cX0_touch 83 (.getfield 12) 3 86 := ⟨by decide +kernel, rfl⟩
theorem e_X0_touch_86 : g_dc cX0_touch 86 (.iload_n 1) 1 87 := ⟨by decide +kernel, rfl⟩
theorem e_X0_touch_87 : g_dc cX0_touch 87 (.iconst 4) 1 88 := ⟨by decide +kernel, rfl⟩
theorem e_X0_touch_88 : g_dc cX0_touch 88 (.invokevirtual 171) 3 91 := ⟨by decide +kernel, rfl⟩
theorem e_X0_touch_91 : g_dc cX0_touch 91 (.istore 4) 2 93 := ⟨by decide +kernel, rfl⟩
theorem e_X0_touch_93 : g_dc cX0_touch 93 (.aload_n 0) 1 94 := ⟨by decide +kernel, rfl⟩
theorem e_X0_touch_94 : g_dc cX0_touch 94 (.getfield 12) 3 97 := ⟨by decide +kernel, rfl⟩
theorem e_X0_touch_97 : g_dc cX0_touch 97 (.iload_n 2) 1 98 := ⟨by decide +kernel, rfl⟩
theorem e_X0_touch_98 : g_dc cX0_touch 98 (.iconst 4) 1 99 := ⟨by decide +kernel, rfl⟩
theorem e_X0_touch_99 : g_dc cX0_touch 99 (.invokevirtual 171) 3 102 := ⟨by decide +kernel, rfl⟩
theorem e_X0_touch_102 : g_dc cX0_touch 102 (.istore 5) 2 104 := ⟨by decide +kernel, rfl⟩
theorem e_X0_touch_104 : g_dc cX0_touch 104 (.iload 4) 2 106 := ⟨by decide +kernel, rfl⟩
theorem e_X0_touch_106 : g_dc cX0_touch 106 (.iload 5) 2 108 := ⟨by decide +kernel, rfl⟩
theorem e_X0_touch_108 : g_dc cX0_touch 108 (.iadd) 1 109 := ⟨by decide +kernel, rfl⟩
theorem e_X0_touch_109 : g_dc cX0_touch 109 (.istore 6) 2 111 := ⟨by decide +kernel, rfl⟩
theorem e_X0_touch_111 : g_dc cX0_touch 111 (.aload_n 0) 1 112 := ⟨by decide +kernel, rfl⟩
theorem e_X0_touch_112 : g_dc cX0_touch 112 (.getfield 39) 3 115 := ⟨by decide +kernel, rfl⟩
theorem e_X0_touch_115 : g_dc cX0_touch 115 (.iload_n 1) 1 116 := ⟨by decide +kernel, rfl⟩
theorem e_X0_touch_116 : g_dc cX0_touch 116 (.iaload) 1 117 := ⟨by decide +kernel, rfl⟩
theorem e_X0_touch_117 : g_dc cX0_touch 117 (.iload 4) 2 119 := ⟨by decide +kernel, rfl⟩
theorem e_X0_touch_119 : g_dc cX0_touch 119 (.imul) 1 120 := ⟨by decide +kernel, rfl⟩
theorem e_X0_touch_120 : g_dc cX0_touch 120 (.aload_n 0) 1 121 := ⟨by decide +kernel, rfl⟩
theorem e_X0_touch_121 : g_dc cX0_touch 121 (.getfield 39) 3 124 := ⟨by decide +kernel, rfl⟩
theorem e_X0_touch_124 : g_dc cX0_touch 124 (.iload_n 2) 1 125 := ⟨by decide +kernel, rfl⟩
theorem e_X0_touch_125 : g_dc cX0_touch 125 (.iaload) 1 126 := ⟨by decide +kernel, rfl⟩
theorem e_X0_touch_126 : g_dc cX0_touch 126 (.iload 5) 2 128 := ⟨by decide +kernel, rfl⟩
theorem e_X0_touch_128 : g_dc cX0_touch 128 (.imul) 1 129 := ⟨by decide +kernel, rfl⟩
theorem e_X0_touch_129 : g_dc cX0_touch 129 (.iadd) 1 130 := ⟨by decide +kernel, rfl⟩
theorem e_X0_touch_130 : g_dc cX0_touch 130 (.istore 7) 2 132 := ⟨by decide +kernel, rfl⟩
theorem e_X0_touch_132 : g_dc cX0_touch 132 (.aload_n 0) 1 133 := ⟨by decide +kernel, rfl⟩
theorem e_X0_touch_133 : g_dc cX0_touch 133 (.getfield 39) 3 136 := ⟨by decide +kernel, rfl⟩
theorem e_X0_touch_136 : g_dc cX0_touch 136 (.iload_n 1) 1 137 := ⟨by decide +kernel, rfl⟩
theorem e_X0_touch_137 : g_dc cX0_touch 137 (.iload 6) 2 139 := ⟨by decide +kernel, rfl⟩
theorem e_X0_touch_139 : g_dc cX0_touch 139 (.ifCond .le 11) 3 142 := ⟨by decide +kernel, rfl⟩
theorem e_X0_touch_142 : g_dc cX0_touch 142 (.iload 7) 2 144 := ⟨by decide +kernel, rfl⟩
theorem e_X0_touch_144 : g_dc cX0_touch 144 (.iload 6) 2 146 := ⟨by decide +kernel, rfl⟩
theorem e_X0_touch_146 : g_dc cX0_touch 146 (.idiv) 1 147 := ⟨by decide +kernel, rfl⟩
theorem e_X0_touch_147 : g_dc cX0_touch 147 (.goto 4) 3 150 := ⟨by decide +kernel, rfl⟩
theorem e_X0_touch_150 : g_dc cX0_touch 150 (.iconst 0) 1 151 := ⟨by decide +kernel, rfl⟩
theorem e_X0_touch_151 : g_dc cX0_touch 151 (.iastore) 1 152 := ⟨by decide +kernel, rfl⟩
theorem e_X0_touch_152 : g_dc cX0_touch 152 (.aload_n 0) 1 153 := ⟨by decide +kernel, rfl⟩
theorem e_X0_touch_153 : g_dc cX0_touch 153 (.getfield 39) 3 156 := ⟨by decide +kernel, rfl⟩
theorem e_X0_touch_156 : g_dc cX0_touch 156 (.iload_n 2) 1 157 := ⟨by decide +kernel, rfl⟩
theorem e_X0_touch_157 : g_dc cX0_touch 157 (.aload_n 0) 1 158 := ⟨by decide +kernel, rfl⟩
theorem e_X0_touch_158 : g_dc cX0_touch 158 (.getfield 39) 3 161 := ⟨by decide +kernel, rfl⟩
theorem e_X0_touch_161 : g_dc cX0_touch 161 (.iload_n 1) 1 162 := ⟨by decide +kernel, rfl⟩
theorem e_X0_touch_162 : g_dc cX0_touch 162 (.iaload) 1 163 := ⟨by decide +kernel, rfl⟩
theorem e_X0_touch_163 : g_dc cX0_touch 163 (.iastore) 1 164 := ⟨by decide +kernel, rfl⟩
theorem e_X0_touch_164 : g_dc cX0_touch 164 (.aload_n 0) 1 165 := ⟨by decide +kernel, rfl⟩
theorem e_X0_touch_165 : g_dc cX0_touch 165 (.getfield 35) 3 168 := ⟨by decide +kernel, rfl⟩
theorem e_X0_touch_168 : g_dc cX0_touch 168 (.getfield 159) 3 171 := ⟨by decide +kernel, rfl⟩
theorem e_X0_touch_171 : g_dc cX0_touch 171 (.iload_n 2) 1 172 := ⟨by decide +kernel, rfl⟩
theorem e_X0_touch_172 : g_dc cX0_touch 172 (.aload_n 0) 1 173 := ⟨by decide +kernel, rfl⟩
theorem e_X0_touch_173 : g_dc cX0_touch 173 (.getfield 35) 3 176 := ⟨by decide +kernel, rfl⟩
theorem e_X0_touch_176 : g_dc cX0_touch 176 (.getfield 159) 3 179 := ⟨by decide +kernel, rfl⟩
theorem e_X0_touch_179 : g_dc cX0_touch 179 (.iload_n 1) 1 180 := ⟨by decide +kernel, rfl⟩
theorem e_X0_touch_180 : g_dc cX0_touch 180 (.iaload) 1 181 := ⟨by decide +kernel, rfl⟩
theorem e_X0_touch_181 : g_dc cX0_touch 181 (.iload_n 3) 1 182 := ⟨by decide +kernel, rfl⟩
theorem e_X0_touch_182 : g_dc cX0_touch 182 (.iadd) 1 183 := ⟨by decide +kernel, rfl⟩
theorem e_X0_touch_183 : g_dc cX0_touch 183 (.aload_n 0) 1 184 := ⟨by decide +kernel, rfl⟩
theorem e_X0_touch_184 : g_dc cX0_touch 184 (.getfield 43) 3 187 := ⟨by decide +kernel, rfl⟩
theorem e_X0_touch_187 : g_dc cX0_touch 187 (.iload_n 2) 1 188 := ⟨by decide +kernel, rfl⟩
theorem e_X0_touch_188 : g_dc cX0_touch 188 (.iaload) 1 189 := ⟨by decide +kernel, rfl⟩
theorem e_X0_touch_189 : g_dc cX0_touch 189 (.invokestatic 168) 3 192 := ⟨by decide +kernel, rfl⟩
theorem e_X0_touch_192 : g_dc cX0_touch 192 (.iastore) 1 193 := ⟨by decide +kernel, rfl⟩
theorem e_X0_touch_193 : g_dc cX0_touch 193 (.aload_n 0) 1 194 := ⟨by decide +kernel, rfl⟩
theorem e_X0_touch_194 : g_dc cX0_touch 194 (.dup) 1 195 := ⟨by decide +kernel, rfl⟩
theorem e_X0_touch_195 : g_dc cX0_touch 195 (.getfield 68) 3 198 := ⟨by decide +kernel, rfl⟩
theorem e_X0_touch_198 : g_dc cX0_touch 198 (.iconst 1) 1 199 := ⟨by decide +kernel, rfl⟩
theorem e_X0_touch_199 : g_dc cX0_touch 199 (.iload_n 1) 1 200 := ⟨by decide +kernel, rfl⟩
theorem e_X0_touch_200 : g_dc cX0_touch 200 (.ishl) 1 201 := ⟨by decide +kernel, rfl⟩
theorem e_X0_touch_201 : g_dc cX0_touch 201 (.iconst 1) 1 202 := ⟨by decide +kernel, rfl⟩
theorem e_X0_touch_202 : g_dc cX0_touch 202 (.iload_n 2) 1 203 := ⟨by decide +kernel, rfl⟩
theorem e_X0_touch_203 : g_dc cX0_touch 203 (.ishl) 1 204 := ⟨by decide +kernel, rfl⟩
theorem e_X0_touch_204 : g_dc cX0_touch 204 (.ior) 1 205 := ⟨by decide +kernel, rfl⟩
theorem e_X0_touch_205 : g_dc cX0_touch 205 (.ior) 1 206 := ⟨by decide +kernel, rfl⟩
theorem e_X0_touch_206 : g_dc cX0_touch 206 (.putfield 68) 3 209 := ⟨by decide +kernel, rfl⟩
theorem e_X0_touch_209 : g_dc cX0_touch 209 (.return_) 1 210 := ⟨by decide +kernel, rfl⟩
def md_X0_touch : List Nat := [606]
def mr_X0_touch : List Nat := [38, 44]
set_option maxHeartbeats 4000000 in
set_option maxRecDepth 100000 in
theorem w_X0_touch (l : Launch) (X : gX) (ad : Nat → Nat) (F : Nat → Int32) (R : Nat → Nat → Int32) (hI : g_ok LK_wX F) (hA : g_okR LA_wX R) (a0 : Int32) (a1 : Int32) : g_Cv l X yX0_touch cX0_touch 8 3 0 0 [.ref (ad 37), .int a0, .int a1] (wX X ad F R) (fun w => ∃ (F' : Nat → Int32) (R' : Nat → Nat → Int32), w = wX X ad F' R' ∧ g_ok LK_wX F' ∧ g_okR LA_wX R' ∧ g_fr md_X0_touch F F' ∧ g_fr mr_X0_touch R R') := by
  refine g_mv (by decide +kernel) (Nat.le_of_ble_eq_true rfl) (fun E cx hret => ?_)
  refine g_iload_n cx 1 rfl e_X0_touch_0 ?_
  refine g_iconst cx 0 (by decide) e_X0_touch_1 ?_
  refine g_bipush cx 9 (by decide) e_X0_touch_2 ?_
  refine g_cNiW cx [.int a0, .int 0, .int 9] [] (c_X10_within l X (wX X ad F R) a0 0 9) mn_X0_192 yS_X10_within e_X0_touch_4 (by unfold g_rr; decide) (by decide) rfl (Nat.le_of_ble_eq_true rfl) (fun r1 w2 h3 => ?_)
  obtain ⟨rfl, hr1⟩ := h3
  have pr1 : jv 0 1 r1 := by rw [hr1]; exact gi_01 _ _ _
  have J20 : G X E 8 0 0 (wX X ad F R) [] 20 [] := by
    exact hret e_X0_touch_20 (Nat.le_of_ble_eq_true rfl) (Nat.le_of_ble_eq_true rfl) ⟨F, R, rfl, hI, hA, (g_fr_rf F), (g_fr_rf R)⟩
  refine g_if_eq cx 20 e_X0_touch_7 (by decide) (fun zc4 => ?_) (fun zc4 => ?_)
  · have p5 := gn_eq 0 0 (gc_eq zc4) pr1 (jv_k (x := 0) 0 (by decide)) (by decide)
    refine g_lsub [] [] rfl ?_
    exact J20  
  · have p6 := gn_neL 1 1 (gc_ne zc4) pr1 (jv_k (x := 0) 0 (by decide)) (by decide)
    have p7 := jv_i 0 9 (jv_t a0) (gi_in (A := 0) (B := 9) hr1 zc4 (by decide) (by decide)) (by decide)
    refine g_iload_n cx 2 rfl e_X0_touch_10 ?_
    refine g_iconst cx 0 (by decide) e_X0_touch_11 ?_
    refine g_bipush cx 9 (by decide) e_X0_touch_12 ?_
    refine g_cNiW cx [.int a1, .int 0, .int 9] [] (c_X10_within l X (wX X ad F R) a1 0 9) mn_X0_192 yS_X10_within e_X0_touch_14 (by unfold g_rr; decide) (by decide) rfl (Nat.le_of_ble_eq_true rfl) (fun r8 w9 h10 => ?_)
    obtain ⟨rfl, hr8⟩ := h10
    have pr8 : jv 0 1 r8 := by rw [hr8]; exact gi_01 _ _ _
    refine g_if_ne cx 21 e_X0_touch_17 (by decide) (fun zc11 => ?_) (fun zc11 => ?_)
    · have p12 := gn_neL 1 1 (gc_ne zc11) pr8 (jv_k (x := 0) 0 (by decide)) (by decide)
      have p13 := jv_i 0 9 (jv_t a1) (gi_in (A := 0) (B := 9) hr8 zc11 (by decide) (by decide)) (by decide)
      refine g_aload_n cx 0 rfl e_X0_touch_21 ?_
      refine g_get cx cl_X0 fl_X0_12 37 (.ref (ad 5)) e_X0_touch_22 rfl rfl ?_
      refine g_iload_n cx 1 rfl e_X0_touch_25 ?_
      refine g_iconst cx 2 (by decide) e_X0_touch_26 ?_
      refine g_cViW cx [.int a0, .int 2] [] (w_X8_side_5 l X ad F R hI hA a0 2) ml_X0_171 yV_X8_side e_X0_touch_27 (by unfold g_rr; decide) (by decide) 5 rfl rfl rfl (Nat.le_of_ble_eq_true rfl) (fun r14 w15 h16 => ?_)
      obtain ⟨rfl, pr14⟩ := h16
      refine g_aload_n cx 0 rfl e_X0_touch_30 ?_
      refine g_get cx cl_X0 fl_X0_12 37 (.ref (ad 5)) e_X0_touch_31 rfl rfl ?_
      refine g_iload_n cx 2 rfl e_X0_touch_34 ?_
      refine g_iconst cx 2 (by decide) e_X0_touch_35 ?_
      refine g_cViW cx [.int a1, .int 2] [.int r14] (w_X8_side_5 l X ad F R hI hA a1 2) ml_X0_171 yV_X8_side e_X0_touch_36 (by unfold g_rr; decide) (by decide) 5 rfl rfl rfl (Nat.le_of_ble_eq_true rfl) (fun r17 w18 h19 => ?_)
      obtain ⟨rfl, pr17⟩ := h19
      refine g_iadd cx e_X0_touch_39 ?_
      refine g_topi (fun x20 ex20 => ?_)
      refine g_iconst cx 2 (by decide) e_X0_touch_40 ?_
      refine g_idiv cx (by decide) e_X0_touch_41 ?_
      refine g_topi (fun x21 ex21 => ?_)
      refine g_istore_n cx [(3, .int x21), (0, .ref (ad 37)), (1, .int a0), (2, .int a1)] e_X0_touch_42 (by decide) rfl ?_
      refine g_aload_n cx 1 rfl e_X0_touch_43 ?_
      refine g_get cx cl_X0 fl_X0_35 37 (.ref (ad 43)) e_X0_touch_44 rfl rfl ?_
      refine g_getN cx cl_X4 fn_X0_159 43 (.ref (ad 44)) e_X0_touch_47 rfl rfl ?_
      refine g_iload_n cx 3 rfl e_X0_touch_50 ?_
      refine g_iald cx 44 e_X0_touch_51 rfl (jv_ix 10 p13 (by decide)) ?_
      refine g_topi (fun x22 ex22 => ?_)
      refine g_aload_n cx 1 rfl e_X0_touch_52 ?_
      refine g_get cx cl_X0 fl_X0_35 37 (.ref (ad 43)) e_X0_touch_53 rfl rfl ?_
      refine g_getN cx cl_X4 fn_X0_159 43 (.ref (ad 44)) e_X0_touch_56 rfl rfl ?_
      refine g_iload_n cx 2 rfl e_X0_touch_59 ?_
      refine g_iald cx 44 e_X0_touch_60 rfl (jv_ix 10 p7 (by decide)) ?_
      refine g_topi (fun x23 ex23 => ?_)
      refine g_isub cx e_X0_touch_61 ?_
      refine g_topi (fun x24 ex24 => ?_)
      refine g_iload_n cx 0 rfl e_X0_touch_62 ?_
      have J81 : G X E 8 0 0 (wX X ad F R) [] 81 [] := by
        exact hret e_X0_touch_81 (Nat.le_of_ble_eq_true rfl) (Nat.le_of_ble_eq_true rfl) ⟨F, R, rfl, hI, hA, (g_fr_rf F), (g_fr_rf R)⟩
      refine g_icmp_ge cx 81 e_X0_touch_63 (by decide) (fun zc25 => ?_) (fun zc25 => ?_)
      · refine g_lsub [] [] rfl ?_
        exact J81  
      · have p26 := gn_lt (-2147483648) 2147483646 (gc_nle zc25) (jv_t x24) (jv_t x21) (by decide)
        have p27 := gn_gt (-2147483647) 2147483647 (gc_nle zc25) (jv_t x21) (jv_t x24) (by decide)
        refine g_aload_n cx 1 rfl e_X0_touch_66 ?_
        refine g_get cx cl_X0 fl_X0_39 37 (.ref (ad 38)) e_X0_touch_67 rfl rfl ?_
        refine g_iload_n cx 3 rfl e_X0_touch_70 ?_
        refine g_iald cx 38 e_X0_touch_71 rfl (jv_ix 10 p13 (by decide)) ?_
        refine g_topi (fun x28 ex28 => ?_)
        refine g_aload_n cx 1 rfl e_X0_touch_72 ?_
        refine g_get cx cl_X0 fl_X0_39 37 (.ref (ad 38)) e_X0_touch_73 rfl rfl ?_
        refine g_iload_n cx 2 rfl e_X0_touch_76 ?_
        refine g_iald cx 38 e_X0_touch_77 rfl (jv_ix 10 p7 (by decide)) ?_
        refine g_topi (fun x29 ex29 => ?_)
        refine g_icmp_gt cx 82 e_X0_touch_78 (by decide) (fun zc30 => ?_) (fun zc30 => ?_)
        · have p31 := gn_lt (-2147483648) 2147483646 (gc_lt zc30) (jv_t x29) (jv_t x28) (by decide)
          have p32 := gn_gt (-2147483647) 2147483647 (gc_lt zc30) (jv_t x28) (jv_t x29) (by decide)
          refine g_aload_n cx 1 rfl e_X0_touch_82 ?_
          refine g_get cx cl_X0 fl_X0_12 37 (.ref (ad 5)) e_X0_touch_83 rfl rfl ?_
          refine g_iload_n cx 2 rfl e_X0_touch_86 ?_
          refine g_iconst cx 4 (by decide) e_X0_touch_87 ?_
          refine g_cViW cx [.int a0, .int 4] [] (w_X8_side_5 l X ad F R hI hA a0 4) ml_X0_171 yV_X8_side e_X0_touch_88 (by unfold g_rr; decide) (by decide) 5 rfl rfl rfl (Nat.le_of_ble_eq_true rfl) (fun r33 w34 h35 => ?_)
          obtain ⟨rfl, pr33⟩ := h35
          refine g_istore cx [(4, .int r33), (3, .int x21), (0, .ref (ad 37)), (1, .int a0), (2, .int a1)] e_X0_touch_91 (by decide) rfl ?_
          refine g_aload_n cx 2 rfl e_X0_touch_93 ?_
          refine g_get cx cl_X0 fl_X0_12 37 (.ref (ad 5)) e_X0_touch_94 rfl rfl ?_
          refine g_iload_n cx 4 rfl e_X0_touch_97 ?_
          refine g_iconst cx 4 (by decide) e_X0_touch_98 ?_
          refine g_cViW cx [.int a1, .int 4] [] (w_X8_side_5 l X ad F R hI hA a1 4) ml_X0_171 yV_X8_side e_X0_touch_99 (by unfold g_rr; decide) (by decide) 5 rfl rfl rfl (Nat.le_of_ble_eq_true rfl) (fun r36 w37 h38 => ?_)
          obtain ⟨rfl, pr36⟩ := h38
          refine g_istore cx [(5, .int r36), (4, .int r33), (3, .int x21), (0, .ref (ad 37)), (1, .int a0), (2, .int a1)] e_X0_touch_102 (by decide) rfl ?_
          refine g_iload cx 1 rfl e_X0_touch_104 ?_
          refine g_iload cx 0 rfl e_X0_touch_106 ?_
          refine g_iadd cx e_X0_touch_108 ?_
          refine g_topi (fun x39 ex39 => ?_)
          refine g_istore cx [(6, .int x39), (5, .int r36), (4, .int r33), (3, .int x21), (0, .ref (ad 37)), (1, .int a0), (2, .int a1)] e_X0_touch_109 (by decide) rfl ?_
          refine g_aload_n cx 4 rfl e_X0_touch_111 ?_
          refine g_get cx cl_X0 fl_X0_39 37 (.ref (ad 38)) e_X0_touch_112 rfl rfl ?_
          refine g_iload_n cx 5 rfl e_X0_touch_115 ?_
          refine g_iald cx 38 e_X0_touch_116 rfl (jv_ix 10 p7 (by decide)) ?_
          refine g_topi (fun x40 ex40 => ?_)
          refine g_iload cx 2 rfl e_X0_touch_117 ?_
          refine g_imul cx e_X0_touch_119 ?_
          refine g_topi (fun x41 ex41 => ?_)
          refine g_aload_n cx 4 rfl e_X0_touch_120 ?_
          refine g_get cx cl_X0 fl_X0_39 37 (.ref (ad 38)) e_X0_touch_121 rfl rfl ?_
          refine g_iload_n cx 6 rfl e_X0_touch_124 ?_
          refine g_iald cx 38 e_X0_touch_125 rfl (jv_ix 10 p13 (by decide)) ?_
          refine g_topi (fun x42 ex42 => ?_)
          refine g_iload cx 1 rfl e_X0_touch_126 ?_
          refine g_imul cx e_X0_touch_128 ?_
          refine g_topi (fun x43 ex43 => ?_)
          refine g_iadd cx e_X0_touch_129 ?_
          refine g_topi (fun x44 ex44 => ?_)
          refine g_istore cx [(7, .int x44), (6, .int x39), (5, .int r36), (4, .int r33), (3, .int x21), (0, .ref (ad 37)), (1, .int a0), (2, .int a1)] e_X0_touch_130 (by decide) rfl ?_
          refine g_aload_n cx 5 rfl e_X0_touch_132 ?_
          refine g_get cx cl_X0 fl_X0_39 37 (.ref (ad 38)) e_X0_touch_133 rfl rfl ?_
          refine g_iload_n cx 6 rfl e_X0_touch_136 ?_
          refine g_iload cx 1 rfl e_X0_touch_137 ?_
          have J151 : ∀ (y45 : Int32), (jv (-2147483648) 2147483647 y45) → G X E 8 0 0 (wX X ad F R) [(0, .ref (ad 37)), (1, .int a0), (2, .int a1), (3, .int x21)] 151 [.int y45, .int a0, .ref (ad 38)] := by
            intro y45 py45
            refine g_iast cx 38 (wX X ad F (g_u R 38 (upd (R 38) (Int32.toNatClampNeg a0) y45))) e_X0_touch_151 rfl (jv_ix 10 p7 (by decide)) rfl ?_
            obtain ⟨R46, hR46⟩ : ∃ z, z = g_u R 38 (upd (R 38) (Int32.toNatClampNeg a0) y45) := ⟨_, rfl⟩
            rw [← hR46]
            have oR46 : g_okR LA_wX R46 := by rw [hR46]; exact g_okR_u hA rfl
            have fR46 : g_fr mr_X0_touch R R46 := by rw [hR46]; exact g_fr_r (g_fr_rf R) rfl
            refine g_aload_n cx 0 rfl e_X0_touch_152 ?_
            refine g_get cx cl_X0 fl_X0_39 37 (.ref (ad 38)) e_X0_touch_153 rfl rfl ?_
            refine g_iload_n cx 2 rfl e_X0_touch_156 ?_
            refine g_aload_n cx 0 rfl e_X0_touch_157 ?_
            refine g_get cx cl_X0 fl_X0_39 37 (.ref (ad 38)) e_X0_touch_158 rfl rfl ?_
            refine g_iload_n cx 1 rfl e_X0_touch_161 ?_
            refine g_iald cx 38 e_X0_touch_162 rfl (jv_ix 10 p7 (by decide)) ?_
            refine g_topi (fun x47 ex47 => ?_)
            refine g_iast cx 38 (wX X ad F (g_u R46 38 (upd (R46 38) (Int32.toNatClampNeg a1) x47))) e_X0_touch_163 rfl (jv_ix 10 p13 (by decide)) rfl ?_
            obtain ⟨R48, hR48⟩ : ∃ z, z = g_u R46 38 (upd (R46 38) (Int32.toNatClampNeg a1) x47) := ⟨_, rfl⟩
            rw [← hR48]
            have oR48 : g_okR LA_wX R48 := by rw [hR48]; exact g_okR_u oR46 rfl
            have fR48 : g_fr mr_X0_touch R R48 := by rw [hR48]; exact g_fr_r fR46 rfl
            refine g_aload_n cx 0 rfl e_X0_touch_164 ?_
            refine g_get cx cl_X0 fl_X0_35 37 (.ref (ad 43)) e_X0_touch_165 rfl rfl ?_
            refine g_getN cx cl_X4 fn_X0_159 43 (.ref (ad 44)) e_X0_touch_168 rfl rfl ?_
            refine g_iload_n cx 2 rfl e_X0_touch_171 ?_
            refine g_aload_n cx 0 rfl e_X0_touch_172 ?_
            refine g_get cx cl_X0 fl_X0_35 37 (.ref (ad 43)) e_X0_touch_173 rfl rfl ?_
            refine g_getN cx cl_X4 fn_X0_159 43 (.ref (ad 44)) e_X0_touch_176 rfl rfl ?_
            refine g_iload_n cx 1 rfl e_X0_touch_179 ?_
            refine g_iald cx 44 e_X0_touch_180 rfl (jv_ix 10 p7 (by decide)) ?_
            refine g_topi (fun x49 ex49 => ?_)
            refine g_iload_n cx 3 rfl e_X0_touch_181 ?_
            refine g_iadd cx e_X0_touch_182 ?_
            refine g_topi (fun x50 ex50 => ?_)
            refine g_aload_n cx 0 rfl e_X0_touch_183 ?_
            refine g_get cx cl_X0 fl_X0_43 37 (.ref (ad 39)) e_X0_touch_184 rfl rfl ?_
            refine g_iload_n cx 2 rfl e_X0_touch_187 ?_
            refine g_iald cx 39 e_X0_touch_188 rfl (jv_ix 10 p13 (by decide)) ?_
            refine g_topi (fun x51 ex51 => ?_)
            refine g_mmin cx ml_X0_168 e_X0_touch_189 ⟨Nat.le_of_ble_eq_true rfl, Nat.le_of_ble_eq_true rfl⟩ (by decide) ?_
            refine g_topi (fun x52 ex52 => ?_)
            refine g_iast cx 44 (wX X ad F (g_u R48 44 (upd (R48 44) (Int32.toNatClampNeg a1) x52))) e_X0_touch_192 rfl (jv_ix 10 p13 (by decide)) rfl ?_
            obtain ⟨R53, hR53⟩ : ∃ z, z = g_u R48 44 (upd (R48 44) (Int32.toNatClampNeg a1) x52) := ⟨_, rfl⟩
            rw [← hR53]
            have oR53 : g_okR LA_wX R53 := by rw [hR53]; exact g_okR_u oR48 rfl
            have fR53 : g_fr mr_X0_touch R R53 := by rw [hR53]; exact g_fr_r fR48 rfl
            refine g_aload_n cx 0 rfl e_X0_touch_193 ?_
            refine g_dup cx rfl e_X0_touch_194 ?_
            refine g_get cx cl_X0 fl_X0_68 37 (.int (F 606)) e_X0_touch_195 rfl rfl ?_
            refine g_iconst cx 1 (by decide) e_X0_touch_198 ?_
            refine g_iload_n cx 1 rfl e_X0_touch_199 ?_
            refine g_ishl cx e_X0_touch_200 ?_
            refine g_topi (fun x54 ex54 => ?_)
            refine g_iconst cx 1 (by decide) e_X0_touch_201 ?_
            refine g_iload_n cx 2 rfl e_X0_touch_202 ?_
            refine g_ishl cx e_X0_touch_203 ?_
            refine g_topi (fun x55 ex55 => ?_)
            refine g_ior cx e_X0_touch_204 ?_
            refine g_topi (fun x56 ex56 => ?_)
            refine g_ior cx e_X0_touch_205 ?_
            refine g_topi (fun x57 ex57 => ?_)
            refine g_put cx cl_X0 fl_X0_68 37 (wX X ad (upd F 606 x57) R53) e_X0_touch_206 rfl rfl rfl rfl (Nat.le_of_ble_eq_true rfl) rfl ?_
            obtain ⟨F58, hF58⟩ : ∃ z, z = upd F 606 x57 := ⟨_, rfl⟩
            rw [← hF58]
            have oF58 : g_ok LK_wX F58 := by rw [hF58]; exact g_ok_u hI rfl
            have fF58 : g_fr md_X0_touch F F58 := by rw [hF58]; exact g_fr_u (g_fr_rf F) rfl
            exact hret e_X0_touch_209 (Nat.le_of_ble_eq_true rfl) (Nat.le_of_ble_eq_true rfl) ⟨F58, R53, rfl, oF58, oR53, fF58, fR53⟩
          refine g_if_le cx 150 e_X0_touch_139 (by decide) (fun zc59 => ?_) (fun zc59 => ?_)
          · have p60 := gn_le (-2147483648) 0 (gc_le zc59) (jv_t x39) (jv_k (x := 0) 0 (by decide)) (by decide)
            refine g_iconst cx 0 (by decide) e_X0_touch_150 ?_
            refine g_lsub [5, 6, 7, 4] [(0, .ref (ad 37)), (1, .int a0), (2, .int a1), (3, .int x21)] rfl ?_
            exact J151 0 (jv_w (jv_k (x := 0) 0 (by decide)) (by decide))
          · have p61 := gn_gt 1 2147483647 (gc_nle zc59) (jv_t x39) (jv_k (x := 0) 0 (by decide)) (by decide)
            refine g_iload cx 0 rfl e_X0_touch_142 ?_
            refine g_iload cx 1 rfl e_X0_touch_144 ?_
            refine g_idiv cx (g_nz0 p61 (by decide)) e_X0_touch_146 ?_
            refine g_topi (fun x62 ex62 => ?_)
            refine g_goto cx 151 e_X0_touch_147 (by decide) ?_
            refine g_lsub [5, 6, 7, 4] [(0, .ref (ad 37)), (1, .int a0), (2, .int a1), (3, .int x21)] rfl ?_
            exact J151 x62 (jv_t x62)
        · refine g_lsub [] [] rfl ?_
          exact J81  
    · have p63 := gn_eq 0 0 (gc_eq zc11) pr8 (jv_k (x := 0) 0 (by decide)) (by decide)
      refine g_lsub [] [] rfl ?_
      exact J20  
theorem e_X0_tick_0 : g_dc cX0_tick 0 (.aload_n 0) 1 1 := ⟨by decide +kernel, rfl⟩
theorem e_X0_tick_1 : g_dc cX0_tick 1 (.iload_n 1) 1 2 := ⟨by decide +kernel, rfl⟩
theorem e_X0_tick_2 : g_dc cX0_tick 2 (.invokevirtual 105) 3 5 := ⟨by decide +kernel, rfl⟩
theorem e_X0_tick_5 : g_dc cX0_tick 5 (.aload_n 0) 1 6 := ⟨by decide +kernel, rfl⟩
theorem e_X0_tick_6 : g_dc cX0_tick 6 (.iconst 0) 1 7 := ⟨by decide +kernel, rfl⟩
theorem e_X0_tick_7 : g_dc cX0_tick 7 (.putfield 65) 3 10 := ⟨by decide +kernel, rfl⟩
theorem e_X0_tick_10 : g_dc cX0_tick 10 (.aload_n 0) 1 11 := ⟨by decide +kernel, rfl⟩
theorem e_X0_tick_11 : g_dc cX0_tick 11 (.iconst 0) 1 12 := ⟨by decide +kernel, rfl⟩
theorem e_X0_tick_12 : g_dc cX0_tick 12 (.putfield 68) 3 15 := ⟨by decide +kernel, rfl⟩
theorem e_X0_tick_15 : g_dc cX0_tick 15 (.aload_n 0) 1 16 := ⟨by decide +kernel, rfl⟩
theorem e_X0_tick_16 : g_dc cX0_tick 16 (.getfield 35) 3 19 := ⟨by decide +kernel, rfl⟩
theorem e_X0_tick_19 : g_dc cX0_tick 19 (.invokevirtual 101) 3 22 := ⟨by decide +kernel, rfl⟩
theorem e_X0_tick_22 : g_dc cX0_tick 22 (.istore_n 2) 1 23 := ⟨by decide +kernel, rfl⟩
theorem e_X0_tick_23 : g_dc cX0_tick 23 (.iconst 0) 1 24 := ⟨by decide +kernel, rfl⟩
theorem e_X0_tick_24 : g_dc cX0_tick 24 (.istore_n 3) 1 25 := ⟨by decide +kernel, rfl⟩
theorem e_X0_tick_25 : g_dc cX0_tick 25 (.iload_n 3) 1 26 := ⟨by decide +kernel, rfl⟩
theorem e_X0_tick_26 : g_dc cX0_tick 26 (.bipush 10) 2 28 := ⟨by decide +kernel, rfl⟩
theorem e_X0_tick_28 : g_dc cX0_tick 28 (.if_icmp .ge 47) 3 31 := ⟨by decide +kernel, rfl⟩
theorem e_X0_tick_31 : g_dc cX0_tick 31 (.iload_n 2) 1 32 := ⟨by decide +kernel, rfl⟩
theorem e_X0_tick_32 : g_dc cX0_tick 32 (.iconst 1) 1 33 := ⟨by decide +kernel, rfl⟩
theorem e_X0_tick_33 : g_dc cX0_tick 33 (.iload_n 3) 1 34 := ⟨by decide +kernel, rfl⟩
theorem e_X0_tick_34 : g_dc cX0_tick 34 (.ishl) 1 35 := ⟨by decide +kernel, rfl⟩
theorem e_X0_tick_35 : g_dc cX0_tick 35 (.iand) 1 36 := ⟨by decide +kernel, rfl⟩
theorem e_X0_tick_36 : g_dc cX0_tick 36 (.ifCond .eq 33) 3 39 := ⟨by decide +kernel, rfl⟩
theorem e_X0_tick_39 : g_dc cX0_tick 39 (.aload_n 0) 1 40 := ⟨by decide +kernel, rfl⟩
theorem e_X0_tick_40 : g_dc cX0_tick 40 (.getfield 39) 3 43 := ⟨by decide +kernel, rfl⟩
theorem e_X0_tick_43 : g_dc cX0_tick 43 (.iload_n 3) 1 44 := ⟨by decide +kernel, rfl⟩
theorem e_X0_tick_44 : g_dc cX0_tick 44 (.iaload) 1 45 := ⟨by decide +kernel, rfl⟩
theorem e_X0_tick_45 : g_dc cX0_tick 45 (.istore 4) 2 47 := ⟨by decide +kernel, rfl⟩
theorem e_X0_tick_47 : g_dc cX0_tick 47 (.aload_n 0) 1 48 := ⟨by decide +kernel, rfl⟩
theorem e_X0_tick_48 : g_dc cX0_tick 48 (.iload_n 3) 1 49 := ⟨by decide +kernel, rfl⟩
theorem e_X0_tick_49 : g_dc cX0_tick 49 (.invokevirtual 108) 3 52 := ⟨by decide +kernel, rfl⟩
theorem e_X0_tick_52 : g_dc cX0_tick 52 (.aload_n 0) 1 53 := ⟨by decide +kernel, rfl⟩
theorem e_X0_tick_53 : g_dc cX0_tick 53 (.iload_n 3) 1 54 := ⟨by decide +kernel, rfl⟩
theorem e_X0_tick_54 : g_dc cX0_tick 54 (.aload_n 0) 1 55 := ⟨by decide +kernel, rfl⟩
theorem e_X0_tick_55 : g_dc cX0_tick 55 (.getfield 39) 3 58 := ⟨by decide +kernel, rfl⟩
theorem e_X0_tick_58 : g_dc cX0_tick 58 (.iload_n 3) 1 59 := ⟨by decide +kernel, rfl⟩
theorem e_X0_tick_59 : g_dc cX0_tick 59 (.iaload) 1 60 := ⟨by decide +kernel, rfl⟩
theorem e_X0_tick_60 : g_dc cX0_tick 60 (.iload 4) 2 62 := ⟨by decide +kernel, rfl⟩
theorem e_X0_tick_62 : g_dc cX0_tick 62 (.isub) 1 63 := ⟨by decide +kernel, rfl⟩
theorem e_X0_tick_63 : g_dc cX0_tick 63 (.invokestatic 111) 3 66 := ⟨by decide +kernel, rfl⟩
theorem e_X0_tick_66 : g_dc cX0_tick 66 (.invokevirtual 116) 3 69 := ⟨by decide +kernel, rfl⟩
theorem e_X0_tick_69 : g_dc cX0_tick 69 (.iinc 3 1) 3 72 := ⟨by decide +kernel, rfl⟩
theorem e_X0_tick_72 : g_dc cX0_tick 72 (.goto (-47)) 3 75 := ⟨by decide +kernel, rfl⟩
theorem e_X0_tick_75 : g_dc cX0_tick 75 (.aload_n 0) 1 76 := ⟨by decide +kernel, rfl⟩
theorem e_X0_tick_76 : g_dc cX0_tick 76 (.getfield 35) 3 79 := ⟨by decide +kernel, rfl⟩
theorem e_X0_tick_79 : g_dc cX0_tick 79 (.invokevirtual 101) 3 82 := ⟨by decide +kernel, rfl⟩
theorem e_X0_tick_82 : g_dc cX0_tick 82 (.istore_n 2) 1 83 := ⟨by decide +kernel, rfl⟩
theorem e_X0_tick_83 : g_dc cX0_tick 83 (.iconst 0) 1 84 := ⟨by decide +kernel, rfl⟩
theorem e_X0_tick_84 : g_dc cX0_tick 84 (.istore_n 3) 1 85 := ⟨by decide +kernel, rfl⟩
theorem e_X0_tick_85 : g_dc cX0_tick 85 (.iload_n 3) 1 86 := ⟨by decide +kernel, rfl⟩
theorem e_X0_tick_86 : g_dc cX0_tick 86 (.bipush 10) 2 88 := ⟨by decide +kernel, rfl⟩
theorem e_X0_tick_88 : g_dc cX0_tick 88 (.if_icmp .ge 22) 3 91 := ⟨by decide +kernel, rfl⟩
theorem e_X0_tick_91 : g_dc cX0_tick 91 (.iload_n 2) 1 92 := ⟨by decide +kernel, rfl⟩
theorem e_X0_tick_92 : g_dc cX0_tick 92 (.iconst 1) 1 93 := ⟨by decide +kernel, rfl⟩
theorem e_X0_tick_93 : g_dc cX0_tick 93 (.iload_n 3) 1 94 := ⟨by decide +kernel, rfl⟩
theorem e_X0_tick_94 : g_dc cX0_tick 94 (.ishl) 1 95 := ⟨by decide +kernel, rfl⟩
theorem e_X0_tick_95 : g_dc cX0_tick 95 (.iand) 1 96 := ⟨by decide +kernel, rfl⟩
theorem e_X0_tick_96 : g_dc cX0_tick 96 (.ifCond .eq 8) 3 99 := ⟨by decide +kernel, rfl⟩
theorem e_X0_tick_99 : g_dc cX0_tick 99 (.aload_n 0) 1 100 := ⟨by decide +kernel, rfl⟩
theorem e_X0_tick_100 : g_dc cX0_tick 100 (.iload_n 3) 1 101 := ⟨by decide +kernel, rfl⟩
theorem e_X0_tick_101 : g_dc cX0_tick 101 (.invokevirtual 120) 3 104 := ⟨by decide +kernel, rfl⟩
theorem e_X0_tick_104 : g_dc cX0_tick 104 (.iinc 3 1) 3 107 := ⟨by decide +kernel, rfl⟩
theorem e_X0_tick_107 : g_dc cX0_tick 107 (.goto (-22)) 3 110 := ⟨by decide +kernel, rfl⟩
theorem e_X0_tick_110 : g_dc cX0_tick 110 (.aload_n 0) 1 111 := ⟨by decide +kernel, rfl⟩
theorem e_X0_tick_111 : g_dc cX0_tick 111 (.invokevirtual 123) 3 114 := ⟨by decide +kernel, rfl⟩
theorem e_X0_tick_114 : g_dc cX0_tick 114 (.iconst 0) 1 115 := ⟨by decide +kernel, rfl⟩
theorem e_X0_tick_115 : g_dc cX0_tick 115 (.istore_n 3) 1 116 := ⟨by decide +kernel, rfl⟩
theorem e_X0_tick_116 : g_dc cX0_tick 116 (.iload_n 3) 1 117 := ⟨by decide +kernel, rfl⟩
theorem e_X0_tick_117 : g_dc cX0_tick 117 (.iconst 1) 1 118 := ⟨by decide +kernel, rfl⟩
theorem e_X0_tick_118 : g_dc cX0_tick 118 (.iadd) 1 119 := ⟨by decide +kernel, rfl⟩
theorem e_X0_tick_119 : g_dc cX0_tick 119 (.aload_n 0) 1 120 := ⟨by decide +kernel, rfl⟩
theorem e_X0_tick_120 : g_dc cX0_tick 120 (.getfield 56) 3 123 := ⟨by decide +kernel, rfl⟩
theorem e_X0_tick_123 : g_dc cX0_tick 123 (.if_icmp .ge 35) 3 126 := ⟨by decide +kernel, rfl⟩
theorem e_X0_tick_126 : g_dc cX0_tick 126 (.iload_n 3) 1 127 := ⟨by decide +kernel, rfl⟩
theorem e_X0_tick_127 : g_dc cX0_tick 127 (.iconst 1) 1 128 := ⟨by decide +kernel, rfl⟩
theorem e_X0_tick_128 : g_dc cX0_tick 128 (.iadd) 1 129 := ⟨by decide +kernel, rfl⟩
theorem e_X0_tick_129 : g_dc cX0_tick 129 (.bipush 10) 2 131 := ⟨by decide +kernel, rfl⟩
theorem e_X0_tick_131 : g_dc cX0_tick 131 (.if_icmp .ge 27) 3 134 := ⟨by decide +kernel, rfl⟩
theorem e_X0_tick_134 : g_dc cX0_tick 134 (.aload_n 0) 1 135 := ⟨by decide +kernel, rfl⟩
theorem e_X0_tick_135 : g_dc cX0_tick 135 (.aload_n 0) 1 136 := ⟨by decide +kernel, rfl⟩
theorem e_X0_tick_136 : g_dc cX0_tick 136 (.getfield 46) 3 139 := ⟨by decide +kernel, rfl⟩
theorem e_X0_tick_139 : g_dc cX0_tick 139 (.iload_n 3) 1 140 := ⟨by decide +kernel, rfl⟩
theorem e_X0_tick_140 : g_dc cX0_tick 140 (.iaload) 1 141 := ⟨by decide +kernel, rfl⟩
theorem e_X0_tick_141 : g_dc cX0_tick 141 (.aload_n 0) 1 142 := ⟨by decide +kernel, rfl⟩
theorem e_X0_tick_142 : g_dc cX0_tick 142 (.getfield 46) 3 145 := ⟨by decide +kernel, rfl⟩
theorem e_X0_tick_145 : g_dc cX0_tick 145 (.iload_n 3) 1 146 := ⟨by decide +kernel, rfl⟩
theorem e_X0_tick_146 : g_dc cX0_tick 146 (.iconst 1) 1 147 := ⟨by decide +kernel, rfl⟩
theorem e_X0_tick_147 : g_dc cX0_tick 147 (.iadd) 1 148 := ⟨by decide +kernel, rfl⟩
theorem e_X0_tick_148 : g_dc cX0_tick 148 (.iaload) 1 149 := ⟨by decide +kernel, rfl⟩
theorem e_X0_tick_149 : g_dc cX0_tick 149 (.invokevirtual 126) 3 152 := ⟨by decide +kernel, rfl⟩
theorem e_X0_tick_152 : g_dc cX0_tick 152 (.iinc 3 1) 3 155 := ⟨by decide +kernel, rfl⟩
theorem e_X0_tick_155 : g_dc cX0_tick 155 (.goto (-39)) 3 158 := ⟨by decide +kernel, rfl⟩
theorem e_X0_tick_158 : g_dc cX0_tick 158 (.aload_n 0) 1 159 := ⟨by decide +kernel, rfl⟩
theorem e_X0_tick_159 : g_dc cX0_tick 159 (.getfield 35) 3 162 := ⟨by decide +kernel, rfl⟩
theorem e_X0_tick_162 : g_dc cX0_tick 162 (.invokevirtual 101) 3 165 := ⟨by decide +kernel, rfl⟩
theorem e_X0_tick_165 : g_dc cX0_tick 165 (.istore_n 2) 1 166 := ⟨by decide +kernel, rfl⟩
theorem e_X0_tick_166 : g_dc cX0_tick 166 (.iconst 0) 1 167 := ⟨by decide +kernel, rfl⟩
theorem e_X0_tick_167 : g_dc cX0_tick 167 (.istore_n 3) 1 168 := ⟨by decide +kernel, rfl⟩
theorem e_X0_tick_168 : g_dc cX0_tick 168 (.iload_n 3) 1 169 := ⟨by decide +kernel, rfl⟩
theorem e_X0_tick_169 : g_dc cX0_tick 169 (.bipush 10) 2 171 := ⟨by decide +kernel, rfl⟩
theorem e_X0_tick_171 : g_dc cX0_tick 171 (.if_icmp .ge 22) 3 174 := ⟨by decide +kernel, rfl⟩
theorem e_X0_tick_174 : g_dc cX0_tick 174 (.iload_n 2) 1 175 := ⟨by decide +kernel, rfl⟩
theorem e_X0_tick_175 : g_dc cX0_tick 175 (.iconst 1) 1 176 := ⟨by decide +kernel, rfl⟩
theorem e_X0_tick_176 : g_dc cX0_tick 176 (.iload_n 3) 1 177 := ⟨by decide +kernel, rfl⟩
theorem e_X0_tick_177 : g_dc cX0_tick 177 (.ishl) 1 178 := ⟨by decide +kernel, rfl⟩
theorem e_X0_tick_178 : g_dc cX0_tick 178 (.iand) 1 179 := ⟨by decide +kernel, rfl⟩
theorem e_X0_tick_179 : g_dc cX0_tick 179 (.ifCond .eq 8) 3 182 := ⟨by decide +kernel, rfl⟩
theorem e_X0_tick_182 : g_dc cX0_tick 182 (.aload_n 0) 1 183 := ⟨by decide +kernel, rfl⟩
theorem e_X0_tick_183 : g_dc cX0_tick 183 (.iload_n 3) 1 184 := ⟨by decide +kernel, rfl⟩
theorem e_X0_tick_184 : g_dc cX0_tick 184 (.invokevirtual 129) 3 187 := ⟨by decide +kernel, rfl⟩
theorem e_X0_tick_187 : g_dc cX0_tick 187 (.iinc 3 1) 3 190 := ⟨by decide +kernel, rfl⟩
theorem e_X0_tick_190 : g_dc cX0_tick 190 (.goto (-22)) 3 193 := ⟨by decide +kernel, rfl⟩
theorem e_X0_tick_193 : g_dc cX0_tick 193 (.aload_n 0) 1 194 := ⟨by decide +kernel, rfl⟩
theorem e_X0_tick_194 : g_dc cX0_tick 194 (.getfield 35) 3 197 := ⟨by decide +kernel, rfl⟩
theorem e_X0_tick_197 : g_dc cX0_tick 197 (.dup) 1 198 := ⟨by decide +kernel, rfl⟩
theorem e_X0_tick_198 : g_dc cX0_tick 198 (.getfield 132) 3 201 := ⟨by decide +kernel, rfl⟩
theorem e_X0_tick_201 : g_dc cX0_tick 201 (.aload_n 0) 1 202 := ⟨by decide +kernel, rfl⟩
theorem e_X0_tick_202 : g_dc cX0_tick 202 (.getfield 68) 3 205 := ⟨by decide +kernel, rfl⟩
theorem e_X0_tick_205 : g_dc cX0_tick 205 (.ior) 1 206 := ⟨by decide +kernel, rfl⟩
theorem e_X0_tick_206 : g_dc cX0_tick 206 (.putfield 132) 3 209 := ⟨by decide +kernel, rfl⟩
theorem e_X0_tick_209 : g_dc cX0_tick 209 (.return_) 1 210 := ⟨by decide +kernel, rfl⟩
def md_X0_tick : List Nat := [602, 603, 604, 605, 606, 673, 675, 692, 693, 694, 695, 696, 698]
def mr_X0_tick : List Nat := [23, 24, 38, 39, 40, 44, 45, 46]
set_option maxHeartbeats 4000000 in
set_option maxRecDepth 100000 in
theorem w_X0_tick (l : Launch) (X : gX) (ad : Nat → Nat) (F : Nat → Int32) (R : Nat → Nat → Int32) (hI : g_ok LK_wX F) (hA : g_okR LA_wX R) (a0 : Int32) : g_Cv l X yX0_tick cX0_tick 5 5 0 0 [.ref (ad 37), .int a0] (wX X ad F R) (fun w => ∃ (F' : Nat → Int32) (R' : Nat → Nat → Int32), w = wX X ad F' R' ∧ g_ok LK_wX F' ∧ g_okR LA_wX R' ∧ g_fr md_X0_tick F F' ∧ g_fr mr_X0_tick R R') := by
  refine g_mv (by decide +kernel) (Nat.le_of_ble_eq_true rfl) (fun E cx hret => ?_)
  refine g_aload_n cx 0 rfl e_X0_tick_0 ?_
  refine g_iload_n cx 1 rfl e_X0_tick_1 ?_
  refine g_cVvW cx [.int a0] [] (w_X0_pullCloth l X ad F R hI hA a0) ml_X0_105 yV_X0_pullCloth e_X0_tick_2 (by unfold g_rr; decide) (by decide) 37 rfl rfl rfl (Nat.le_of_ble_eq_true rfl) (fun w2 h3 => ?_)
  obtain ⟨F4, R5, rfl, oF4, oR5, cF4, cR5⟩ := h3
  have fF4 : g_fr md_X0_tick F F4 := g_fr_c (g_fr_rf F) cF4 rfl
  have fR5 : g_fr mr_X0_tick R R5 := g_fr_c (g_fr_rf R) cR5 rfl
  refine g_aload_n cx 0 rfl e_X0_tick_5 ?_
  refine g_iconst cx 0 (by decide) e_X0_tick_6 ?_
  refine g_put cx cl_X0 fl_X0_65 37 (wX X ad (upd F4 605 0) R5) e_X0_tick_7 rfl rfl rfl rfl (Nat.le_of_ble_eq_true rfl) rfl ?_
  obtain ⟨F6, hF6⟩ : ∃ z, z = upd F4 605 0 := ⟨_, rfl⟩
  rw [← hF6]
  have oF6 : g_ok LK_wX F6 := by rw [hF6]; exact g_ok_u oF4 rfl
  have fF6 : g_fr md_X0_tick F F6 := by rw [hF6]; exact g_fr_u fF4 rfl
  refine g_aload_n cx 0 rfl e_X0_tick_10 ?_
  refine g_iconst cx 0 (by decide) e_X0_tick_11 ?_
  refine g_put cx cl_X0 fl_X0_68 37 (wX X ad (upd F6 606 0) R5) e_X0_tick_12 rfl rfl rfl rfl (Nat.le_of_ble_eq_true rfl) rfl ?_
  obtain ⟨F7, hF7⟩ : ∃ z, z = upd F6 606 0 := ⟨_, rfl⟩
  rw [← hF7]
  have oF7 : g_ok LK_wX F7 := by rw [hF7]; exact g_ok_u oF6 rfl
  have fF7 : g_fr md_X0_tick F F7 := by rw [hF7]; exact g_fr_u fF6 rfl
  refine g_aload_n cx 0 rfl e_X0_tick_15 ?_
  refine g_get cx cl_X0 fl_X0_35 37 (.ref (ad 43)) e_X0_tick_16 rfl rfl ?_
  refine g_cViW cx [] [] (w_X4_standingSet l X ad F7 R5 oF7 oR5) ml_X0_101 yV_X4_standingSet e_X0_tick_19 (by unfold g_rr; decide) (by decide) 43 rfl rfl rfl (Nat.le_of_ble_eq_true rfl) (fun r8 w9 h10 => ?_)
  obtain ⟨rfl, pr8⟩ := h10
  refine g_istore_n cx [(2, .int r8), (0, .ref (ad 37)), (1, .int a0)] e_X0_tick_22 (by decide) rfl ?_
  refine g_iconst cx 0 (by decide) e_X0_tick_23 ?_
  refine g_istore_n cx [(3, .int 0), (2, .int r8), (0, .ref (ad 37)), (1, .int a0)] e_X0_tick_24 (by decide) rfl ?_
  have J25 : ∀ (N : Nat) (F12 : Nat → Int32) (R13 : Nat → Nat → Int32) (y11 : Int32), (g_ok LK_wX F12) → (g_fr md_X0_tick F F12) → (g_okR LA_wX R13) → (g_fr mr_X0_tick R R13) → (jv 0 10 y11) → (2147483647 - y11.toInt).toNat < N → G X E 5 0 0 (wX X ad F12 R13) [(0, .ref (ad 37)), (2, .int r8), (3, .int y11)] 25 [] := by
    intro N
    induction N with
    | zero => intro F12 R13 y11 oF12 fF12 oR13 fR13 py11 hm; exact absurd hm (Nat.not_lt_zero _)
    | succ N ih25 =>
      intro F12 R13 y11 oF12 fF12 oR13 fR13 py11 hm25
      refine g_iload_n cx 2 rfl e_X0_tick_25 ?_
      refine g_bipush cx 10 (by decide) e_X0_tick_26 ?_
      refine g_icmp_ge cx 75 e_X0_tick_28 (by decide) (fun zc14 => ?_) (fun zc14 => ?_)
      · have p15 := gn_ge 10 10 (gc_le zc14) py11 (jv_k (x := 10) 10 (by decide)) (by decide)
        refine g_aload_n cx 0 rfl e_X0_tick_75 ?_
        refine g_get cx cl_X0 fl_X0_35 37 (.ref (ad 43)) e_X0_tick_76 rfl rfl ?_
        refine g_cViW cx [] [] (w_X4_standingSet l X ad F12 R13 oF12 oR13) ml_X0_101 yV_X4_standingSet e_X0_tick_79 (by unfold g_rr; decide) (by decide) 43 rfl rfl rfl (Nat.le_of_ble_eq_true rfl) (fun r16 w17 h18 => ?_)
        obtain ⟨rfl, pr16⟩ := h18
        refine g_istore_n cx [(2, .int r16), (0, .ref (ad 37)), (3, .int y11)] e_X0_tick_82 (by decide) rfl ?_
        refine g_iconst cx 0 (by decide) e_X0_tick_83 ?_
        refine g_istore_n cx [(3, .int 0), (2, .int r16), (0, .ref (ad 37))] e_X0_tick_84 (by decide) rfl ?_
        have J85 : ∀ (N : Nat) (F20 : Nat → Int32) (R21 : Nat → Nat → Int32) (y19 : Int32), (g_ok LK_wX F20) → (g_fr md_X0_tick F F20) → (g_okR LA_wX R21) → (g_fr mr_X0_tick R R21) → (jv 0 10 y19) → (2147483647 - y19.toInt).toNat < N → G X E 5 0 0 (wX X ad F20 R21) [(0, .ref (ad 37)), (2, .int r16), (3, .int y19)] 85 [] := by
          intro N
          induction N with
          | zero => intro F20 R21 y19 oF20 fF20 oR21 fR21 py19 hm; exact absurd hm (Nat.not_lt_zero _)
          | succ N ih85 =>
            intro F20 R21 y19 oF20 fF20 oR21 fR21 py19 hm85
            refine g_iload_n cx 2 rfl e_X0_tick_85 ?_
            refine g_bipush cx 10 (by decide) e_X0_tick_86 ?_
            refine g_icmp_ge cx 110 e_X0_tick_88 (by decide) (fun zc22 => ?_) (fun zc22 => ?_)
            · have p23 := gn_ge 10 10 (gc_le zc22) py19 (jv_k (x := 10) 10 (by decide)) (by decide)
              refine g_aload_n cx 0 rfl e_X0_tick_110 ?_
              refine g_cVvW cx [] [] (w_X0_lineUp l X ad F20 R21 oF20 oR21) ml_X0_123 yV_X0_lineUp e_X0_tick_111 (by unfold g_rr; decide) (by decide) 37 rfl rfl rfl (Nat.le_of_ble_eq_true rfl) (fun w25 h26 => ?_)
              obtain ⟨F27, R28, rfl, oF27, oR28, cF27, cR28⟩ := h26
              have fF27 : g_fr md_X0_tick F F27 := g_fr_c fF20 cF27 rfl
              have fR28 : g_fr mr_X0_tick R R28 := g_fr_c fR21 cR28 rfl
              refine g_iconst cx 0 (by decide) e_X0_tick_114 ?_
              refine g_istore_n cx [(3, .int 0), (0, .ref (ad 37)), (2, .int r16)] e_X0_tick_115 (by decide) rfl ?_
              have J116 : ∀ (N : Nat) (F30 : Nat → Int32) (R31 : Nat → Nat → Int32) (y29 : Int32), (g_ok LK_wX F30) → (g_fr md_X0_tick F F30) → (g_okR LA_wX R31) → (g_fr mr_X0_tick R R31) → (jv 0 9 y29) → (2147483647 - y29.toInt).toNat < N → G X E 5 0 0 (wX X ad F30 R31) [(0, .ref (ad 37)), (3, .int y29)] 116 [] := by
                intro N
                induction N with
                | zero => intro F30 R31 y29 oF30 fF30 oR31 fR31 py29 hm; exact absurd hm (Nat.not_lt_zero _)
                | succ N ih116 =>
                  intro F30 R31 y29 oF30 fF30 oR31 fR31 py29 hm116
                  refine g_iload_n cx 1 rfl e_X0_tick_116 ?_
                  refine g_iconst cx 1 (by decide) e_X0_tick_117 ?_
                  refine g_iadd cx e_X0_tick_118 ?_
                  refine g_topi (fun x32 ex32 => ?_)
                  have zx32 := jv_add 1 10 ex32 py29 (jv_k (x := 1) 1 (by decide)) (by decide)
                  refine g_aload_n cx 0 rfl e_X0_tick_119 ?_
                  refine g_get cx cl_X0 fl_X0_56 37 (.int (F30 602)) e_X0_tick_120 rfl rfl ?_
                  have J158 : G X E 5 0 0 (wX X ad F30 R31) [(0, .ref (ad 37))] 158 [] := by
                    refine g_aload_n cx 0 rfl e_X0_tick_158 ?_
                    refine g_get cx cl_X0 fl_X0_35 37 (.ref (ad 43)) e_X0_tick_159 rfl rfl ?_
                    refine g_cViW cx [] [] (w_X4_standingSet l X ad F30 R31 oF30 oR31) ml_X0_101 yV_X4_standingSet e_X0_tick_162 (by unfold g_rr; decide) (by decide) 43 rfl rfl rfl (Nat.le_of_ble_eq_true rfl) (fun r33 w34 h35 => ?_)
                    obtain ⟨rfl, pr33⟩ := h35
                    refine g_istore_n cx [(2, .int r33), (0, .ref (ad 37))] e_X0_tick_165 (by decide) rfl ?_
                    refine g_iconst cx 0 (by decide) e_X0_tick_166 ?_
                    refine g_istore_n cx [(3, .int 0), (2, .int r33), (0, .ref (ad 37))] e_X0_tick_167 (by decide) rfl ?_
                    have J168 : ∀ (N : Nat) (F37 : Nat → Int32) (R38 : Nat → Nat → Int32) (y36 : Int32), (g_ok LK_wX F37) → (g_fr md_X0_tick F F37) → (g_okR LA_wX R38) → (g_fr mr_X0_tick R R38) → (jv 0 10 y36) → (2147483647 - y36.toInt).toNat < N → G X E 5 0 0 (wX X ad F37 R38) [(0, .ref (ad 37)), (2, .int r33), (3, .int y36)] 168 [] := by
                      intro N
                      induction N with
                      | zero => intro F37 R38 y36 oF37 fF37 oR38 fR38 py36 hm; exact absurd hm (Nat.not_lt_zero _)
                      | succ N ih168 =>
                        intro F37 R38 y36 oF37 fF37 oR38 fR38 py36 hm168
                        refine g_iload_n cx 2 rfl e_X0_tick_168 ?_
                        refine g_bipush cx 10 (by decide) e_X0_tick_169 ?_
                        refine g_icmp_ge cx 193 e_X0_tick_171 (by decide) (fun zc39 => ?_) (fun zc39 => ?_)
                        · have p40 := gn_ge 10 10 (gc_le zc39) py36 (jv_k (x := 10) 10 (by decide)) (by decide)
                          refine g_aload_n cx 0 rfl e_X0_tick_193 ?_
                          refine g_get cx cl_X0 fl_X0_35 37 (.ref (ad 43)) e_X0_tick_194 rfl rfl ?_
                          refine g_dup cx rfl e_X0_tick_197 ?_
                          refine g_getN cx cl_X4 fn_X0_132 43 (.int (F37 695)) e_X0_tick_198 rfl rfl ?_
                          refine g_aload_n cx 0 rfl e_X0_tick_201 ?_
                          refine g_get cx cl_X0 fl_X0_68 37 (.int (F37 606)) e_X0_tick_202 rfl rfl ?_
                          refine g_ior cx e_X0_tick_205 ?_
                          refine g_topi (fun x41 ex41 => ?_)
                          refine g_putN cx cl_X4 fn_X0_132 43 (wX X ad (upd F37 695 x41) R38) e_X0_tick_206 rfl rfl rfl rfl (Nat.le_of_ble_eq_true rfl) rfl ?_
                          obtain ⟨F42, hF42⟩ : ∃ z, z = upd F37 695 x41 := ⟨_, rfl⟩
                          rw [← hF42]
                          have oF42 : g_ok LK_wX F42 := by rw [hF42]; exact g_ok_u oF37 rfl
                          have fF42 : g_fr md_X0_tick F F42 := by rw [hF42]; exact g_fr_u fF37 rfl
                          exact hret e_X0_tick_209 (Nat.le_of_ble_eq_true rfl) (Nat.le_of_ble_eq_true rfl) ⟨F42, R38, rfl, oF42, oR38, fF42, fR38⟩
                        · have p43 := gn_lt 0 9 (gc_nle zc39) py36 (jv_k (x := 10) 10 (by decide)) (by decide)
                          refine g_iload_n cx 1 rfl e_X0_tick_174 ?_
                          refine g_iconst cx 1 (by decide) e_X0_tick_175 ?_
                          refine g_iload_n cx 2 rfl e_X0_tick_176 ?_
                          refine g_ishl cx e_X0_tick_177 ?_
                          refine g_topi (fun x44 ex44 => ?_)
                          refine g_iand cx e_X0_tick_178 ?_
                          refine g_topi (fun x45 ex45 => ?_)
                          have J187 : ∀ (F46 : Nat → Int32) (R47 : Nat → Nat → Int32), (g_ok LK_wX F46) → (g_fr md_X0_tick F F46) → (g_okR LA_wX R47) → (g_fr mr_X0_tick R R47) → G X E 5 0 0 (wX X ad F46 R47) [(0, .ref (ad 37)), (2, .int r33), (3, .int y36)] 187 [] := by
                            intro F46 R47 oF46 fF46 oR47 fR47
                            obtain ⟨x48, ex48⟩ : ∃ z : Int32, z = y36 + Int32.ofInt 1 := ⟨_, rfl⟩
                            refine g_iinc cx x48 [(3, .int x48), (0, .ref (ad 37)), (2, .int r33)] 2 e_X0_tick_187 rfl ex48.symm (by decide) rfl ?_
                            have zx48 := jv_add 1 10 (show x48 = y36 + 1 from ex48) p43 (jv_k (x := 1) 1 (by decide)) (by decide)
                            refine g_goto cx 168 e_X0_tick_190 (by decide) ?_
                            refine g_lsub [1, 2, 0] [(0, .ref (ad 37)), (2, .int r33), (3, .int x48)] rfl ?_
                            exact ih168 F46 R47 x48 oF46 fF46 oR47 fR47 (jv_w zx48.2 (by decide)) (Nat.lt_of_lt_of_le (show (2147483647 - x48.toInt).toNat < (2147483647 - y36.toInt).toNat from by have q0 := (jv_k (x := 1) 1 (by decide)).1; have q1 := (jv_k (x := 1) 1 (by decide)).2; have q2 := (jv_k (x := 10) 10 (by decide)).1; have q3 := (jv_k (x := 10) 10 (by decide)).2; have q4 := zx32.2.1; have q5 := zx32.2.2; have q6 := zx48.2.1; have q7 := zx48.2.2; have q8 := p15.1; have q9 := p15.2; have q10 := p23.1; have q11 := p23.2; have q12 := py29.1; have q13 := py29.2; have q14 := p43.1; have q15 := p43.2; have q16 := (gc_le zc14); have q17 := (gc_le zc22); have q18 := (g_eq0 zx32.1); have q19 := (gc_nle zc39); have q20 := (g_eq0 zx48.1); omega) (Nat.le_of_lt_succ hm168))
                          refine g_if_eq cx 187 e_X0_tick_179 (by decide) (fun zc49 => ?_) (fun zc49 => ?_)
                          · have p50 := gn_eq 0 0 (gc_eq zc49) (jv_t x45) (jv_k (x := 0) 0 (by decide)) (by decide)
                            exact J187 F37 R38 oF37 fF37 oR38 fR38
                          · refine g_aload_n cx 0 rfl e_X0_tick_182 ?_
                            refine g_iload_n cx 2 rfl e_X0_tick_183 ?_
                            refine g_cVvW cx [.int y36] [] (w_X0_lead l X ad F37 R38 oF37 oR38 y36 p43) ml_X0_129 yV_X0_lead e_X0_tick_184 (by unfold g_rr; decide) (by decide) 37 rfl rfl rfl (Nat.le_of_ble_eq_true rfl) (fun w52 h53 => ?_)
                            obtain ⟨F54, R55, rfl, oF54, oR55, cF54, cR55⟩ := h53
                            have fF54 : g_fr md_X0_tick F F54 := g_fr_c fF37 cF54 rfl
                            have fR55 : g_fr mr_X0_tick R R55 := g_fr_c fR38 cR55 rfl
                            exact J187 F54 R55 oF54 fF54 oR55 fR55
                    refine g_lsub [2, 1, 0] [(0, .ref (ad 37)), (2, .int r33), (3, .int 0)] rfl ?_
                    exact J168 _ F30 R31 0 oF30 fF30 oR31 fR31 (jv_w (jv_k (x := 0) 0 (by decide)) (by decide)) (Nat.lt_succ_self _)
                  refine g_icmp_ge cx 158 e_X0_tick_123 (by decide) (fun zc56 => ?_) (fun zc56 => ?_)
                  · have p57 := gn_le (-2147483648) 10 (gc_le zc56) (jv_t (F30 602)) zx32.2 (by decide)
                    refine g_lsub [0] [(0, .ref (ad 37))] rfl ?_
                    exact J158  
                  · have p58 := gn_gt 2 2147483647 (gc_nle zc56) (jv_t (F30 602)) zx32.2 (by decide)
                    refine g_iload_n cx 1 rfl e_X0_tick_126 ?_
                    refine g_iconst cx 1 (by decide) e_X0_tick_127 ?_
                    refine g_iadd cx e_X0_tick_128 ?_
                    refine g_topi (fun x59 ex59 => ?_)
                    have zx59 := jv_add 1 10 ex59 py29 (jv_k (x := 1) 1 (by decide)) (by decide)
                    refine g_bipush cx 10 (by decide) e_X0_tick_129 ?_
                    refine g_icmp_ge cx 158 e_X0_tick_131 (by decide) (fun zc60 => ?_) (fun zc60 => ?_)
                    · have p61 := gn_ge 10 10 (gc_le zc60) zx59.2 (jv_k (x := 10) 10 (by decide)) (by decide)
                      have p62 : jv 9 9 y29 := ⟨by have q0 := (jv_k (x := 1) 1 (by decide)).1; have q1 := (jv_k (x := 1) 1 (by decide)).2; have q2 := (jv_k (x := 10) 10 (by decide)).1; have q3 := (jv_k (x := 10) 10 (by decide)).2; have q4 := zx32.2.1; have q5 := zx32.2.2; have q6 := p61.1; have q7 := p61.2; have q8 := py29.1; have q9 := py29.2; have q10 := (g_eq0 zx32.1); have q11 := (g_eq0 zx59.1); have q12 := (gc_le zc60); omega, by have q0 := (jv_k (x := 1) 1 (by decide)).1; have q1 := (jv_k (x := 1) 1 (by decide)).2; have q2 := (jv_k (x := 10) 10 (by decide)).1; have q3 := (jv_k (x := 10) 10 (by decide)).2; have q4 := zx32.2.1; have q5 := zx32.2.2; have q6 := p61.1; have q7 := p61.2; have q8 := py29.1; have q9 := py29.2; have q10 := (g_eq0 zx32.1); have q11 := (g_eq0 zx59.1); have q12 := (gc_le zc60); omega⟩
                      refine g_lsub [0] [(0, .ref (ad 37))] rfl ?_
                      exact J158  
                    · have p63 := gn_lt 1 9 (gc_nle zc60) zx59.2 (jv_k (x := 10) 10 (by decide)) (by decide)
                      have p64 : jv 0 8 y29 := ⟨by have q0 := (jv_k (x := 1) 1 (by decide)).1; have q1 := (jv_k (x := 1) 1 (by decide)).2; have q2 := (jv_k (x := 10) 10 (by decide)).1; have q3 := (jv_k (x := 10) 10 (by decide)).2; have q4 := zx32.2.1; have q5 := zx32.2.2; have q6 := p63.1; have q7 := p63.2; have q8 := py29.1; have q9 := py29.2; have q10 := (g_eq0 zx32.1); have q11 := (g_eq0 zx59.1); have q12 := (gc_nle zc60); omega, by have q0 := (jv_k (x := 1) 1 (by decide)).1; have q1 := (jv_k (x := 1) 1 (by decide)).2; have q2 := (jv_k (x := 10) 10 (by decide)).1; have q3 := (jv_k (x := 10) 10 (by decide)).2; have q4 := zx32.2.1; have q5 := zx32.2.2; have q6 := p63.1; have q7 := p63.2; have q8 := py29.1; have q9 := py29.2; have q10 := (g_eq0 zx32.1); have q11 := (g_eq0 zx59.1); have q12 := (gc_nle zc60); omega⟩
                      refine g_aload_n cx 0 rfl e_X0_tick_134 ?_
                      refine g_aload_n cx 0 rfl e_X0_tick_135 ?_
                      refine g_get cx cl_X0 fl_X0_46 37 (.ref (ad 40)) e_X0_tick_136 rfl rfl ?_
                      refine g_iload_n cx 1 rfl e_X0_tick_139 ?_
                      refine g_iald cx 40 e_X0_tick_140 rfl (jv_ix 10 p64 (by decide)) ?_
                      refine g_topi (fun x65 ex65 => ?_)
                      refine g_aload_n cx 0 rfl e_X0_tick_141 ?_
                      refine g_get cx cl_X0 fl_X0_46 37 (.ref (ad 40)) e_X0_tick_142 rfl rfl ?_
                      refine g_iload_n cx 1 rfl e_X0_tick_145 ?_
                      refine g_iconst cx 1 (by decide) e_X0_tick_146 ?_
                      refine g_iadd cx e_X0_tick_147 ?_
                      refine g_topi (fun x66 ex66 => ?_)
                      have zx66 := jv_add 1 9 ex66 p64 (jv_k (x := 1) 1 (by decide)) (by decide)
                      refine g_iald cx 40 e_X0_tick_148 rfl (jv_ix 10 zx66.2 (by decide)) ?_
                      refine g_topi (fun x67 ex67 => ?_)
                      refine g_cVvW cx [.int x65, .int x67] [] (w_X0_touch l X ad F30 R31 oF30 oR31 x65 x67) ml_X0_126 yV_X0_touch e_X0_tick_149 (by unfold g_rr; decide) (by decide) 37 rfl rfl rfl (Nat.le_of_ble_eq_true rfl) (fun w69 h70 => ?_)
                      obtain ⟨F71, R72, rfl, oF71, oR72, cF71, cR72⟩ := h70
                      have fF71 : g_fr md_X0_tick F F71 := g_fr_c fF30 cF71 rfl
                      have fR72 : g_fr mr_X0_tick R R72 := g_fr_c fR31 cR72 rfl
                      obtain ⟨x73, ex73⟩ : ∃ z : Int32, z = y29 + Int32.ofInt 1 := ⟨_, rfl⟩
                      refine g_iinc cx x73 [(3, .int x73), (0, .ref (ad 37))] 1 e_X0_tick_152 rfl ex73.symm (by decide) rfl ?_
                      have zx73 := jv_add 1 9 (show x73 = y29 + 1 from ex73) p64 (jv_k (x := 1) 1 (by decide)) (by decide)
                      refine g_goto cx 116 e_X0_tick_155 (by decide) ?_
                      refine g_lsub [1, 0] [(0, .ref (ad 37)), (3, .int x73)] rfl ?_
                      exact ih116 F71 R72 x73 oF71 fF71 oR72 fR72 (jv_w zx73.2 (by decide)) (Nat.lt_of_lt_of_le (show (2147483647 - x73.toInt).toNat < (2147483647 - y29.toInt).toNat from by have q0 := (jv_k (x := 1) 1 (by decide)).1; have q1 := (jv_k (x := 1) 1 (by decide)).2; have q2 := (jv_k (x := 10) 10 (by decide)).1; have q3 := (jv_k (x := 10) 10 (by decide)).2; have q4 := p58.1; have q5 := p58.2; have q6 := zx32.2.1; have q7 := zx32.2.2; have q8 := p63.1; have q9 := p63.2; have q10 := zx66.2.1; have q11 := zx66.2.2; have q12 := zx73.2.1; have q13 := zx73.2.2; have q14 := p15.1; have q15 := p15.2; have q16 := p23.1; have q17 := p23.2; have q18 := p64.1; have q19 := p64.2; have q20 := (gc_le zc14); have q21 := (gc_le zc22); have q22 := (g_eq0 zx32.1); have q23 := (gc_nle zc56); have q24 := (g_eq0 zx59.1); have q25 := (gc_nle zc60); have q26 := (g_eq0 zx66.1); have q27 := (g_eq0 zx73.1); omega) (Nat.le_of_lt_succ hm116))
              refine g_lsub [1, 0] [(0, .ref (ad 37)), (3, .int 0)] rfl ?_
              exact J116 _ F27 R28 0 oF27 fF27 oR28 fR28 (jv_w (jv_k (x := 0) 0 (by decide)) (by decide)) (Nat.lt_succ_self _)
            · have p74 := gn_lt 0 9 (gc_nle zc22) py19 (jv_k (x := 10) 10 (by decide)) (by decide)
              refine g_iload_n cx 1 rfl e_X0_tick_91 ?_
              refine g_iconst cx 1 (by decide) e_X0_tick_92 ?_
              refine g_iload_n cx 2 rfl e_X0_tick_93 ?_
              refine g_ishl cx e_X0_tick_94 ?_
              refine g_topi (fun x75 ex75 => ?_)
              refine g_iand cx e_X0_tick_95 ?_
              refine g_topi (fun x76 ex76 => ?_)
              have J104 : ∀ (F77 : Nat → Int32) (R78 : Nat → Nat → Int32), (g_ok LK_wX F77) → (g_fr md_X0_tick F F77) → (g_okR LA_wX R78) → (g_fr mr_X0_tick R R78) → G X E 5 0 0 (wX X ad F77 R78) [(0, .ref (ad 37)), (2, .int r16), (3, .int y19)] 104 [] := by
                intro F77 R78 oF77 fF77 oR78 fR78
                obtain ⟨x79, ex79⟩ : ∃ z : Int32, z = y19 + Int32.ofInt 1 := ⟨_, rfl⟩
                refine g_iinc cx x79 [(3, .int x79), (0, .ref (ad 37)), (2, .int r16)] 2 e_X0_tick_104 rfl ex79.symm (by decide) rfl ?_
                have zx79 := jv_add 1 10 (show x79 = y19 + 1 from ex79) p74 (jv_k (x := 1) 1 (by decide)) (by decide)
                refine g_goto cx 85 e_X0_tick_107 (by decide) ?_
                refine g_lsub [1, 2, 0] [(0, .ref (ad 37)), (2, .int r16), (3, .int x79)] rfl ?_
                exact ih85 F77 R78 x79 oF77 fF77 oR78 fR78 (jv_w zx79.2 (by decide)) (Nat.lt_of_lt_of_le (show (2147483647 - x79.toInt).toNat < (2147483647 - y19.toInt).toNat from by have q0 := (jv_k (x := 1) 1 (by decide)).1; have q1 := (jv_k (x := 1) 1 (by decide)).2; have q2 := (jv_k (x := 10) 10 (by decide)).1; have q3 := (jv_k (x := 10) 10 (by decide)).2; have q4 := zx79.2.1; have q5 := zx79.2.2; have q6 := p15.1; have q7 := p15.2; have q8 := p74.1; have q9 := p74.2; have q10 := (gc_le zc14); have q11 := (gc_nle zc22); have q12 := (g_eq0 zx79.1); omega) (Nat.le_of_lt_succ hm85))
              refine g_if_eq cx 104 e_X0_tick_96 (by decide) (fun zc80 => ?_) (fun zc80 => ?_)
              · have p81 := gn_eq 0 0 (gc_eq zc80) (jv_t x76) (jv_k (x := 0) 0 (by decide)) (by decide)
                exact J104 F20 R21 oF20 fF20 oR21 fR21
              · refine g_aload_n cx 0 rfl e_X0_tick_99 ?_
                refine g_iload_n cx 2 rfl e_X0_tick_100 ?_
                refine g_cVvW cx [.int y19] [] (w_X0_slide l X ad F20 R21 oF20 oR21 y19 p74) ml_X0_120 yV_X0_slide e_X0_tick_101 (by unfold g_rr; decide) (by decide) 37 rfl rfl rfl (Nat.le_of_ble_eq_true rfl) (fun w83 h84 => ?_)
                obtain ⟨F85, R86, rfl, oF85, oR86, cF85, cR86⟩ := h84
                have fF85 : g_fr md_X0_tick F F85 := g_fr_c fF20 cF85 rfl
                have fR86 : g_fr mr_X0_tick R R86 := g_fr_c fR21 cR86 rfl
                exact J104 F85 R86 oF85 fF85 oR86 fR86
        refine g_lsub [2, 1, 0] [(0, .ref (ad 37)), (2, .int r16), (3, .int 0)] rfl ?_
        exact J85 _ F12 R13 0 oF12 fF12 oR13 fR13 (jv_w (jv_k (x := 0) 0 (by decide)) (by decide)) (Nat.lt_succ_self _)
      · have p87 := gn_lt 0 9 (gc_nle zc14) py11 (jv_k (x := 10) 10 (by decide)) (by decide)
        refine g_iload_n cx 1 rfl e_X0_tick_31 ?_
        refine g_iconst cx 1 (by decide) e_X0_tick_32 ?_
        refine g_iload_n cx 2 rfl e_X0_tick_33 ?_
        refine g_ishl cx e_X0_tick_34 ?_
        refine g_topi (fun x88 ex88 => ?_)
        refine g_iand cx e_X0_tick_35 ?_
        refine g_topi (fun x89 ex89 => ?_)
        have J69 : ∀ (F90 : Nat → Int32) (R91 : Nat → Nat → Int32), (g_ok LK_wX F90) → (g_fr md_X0_tick F F90) → (g_okR LA_wX R91) → (g_fr mr_X0_tick R R91) → G X E 5 0 0 (wX X ad F90 R91) [(0, .ref (ad 37)), (2, .int r8), (3, .int y11)] 69 [] := by
          intro F90 R91 oF90 fF90 oR91 fR91
          obtain ⟨x92, ex92⟩ : ∃ z : Int32, z = y11 + Int32.ofInt 1 := ⟨_, rfl⟩
          refine g_iinc cx x92 [(3, .int x92), (0, .ref (ad 37)), (2, .int r8)] 2 e_X0_tick_69 rfl ex92.symm (by decide) rfl ?_
          have zx92 := jv_add 1 10 (show x92 = y11 + 1 from ex92) p87 (jv_k (x := 1) 1 (by decide)) (by decide)
          refine g_goto cx 25 e_X0_tick_72 (by decide) ?_
          refine g_lsub [1, 2, 0] [(0, .ref (ad 37)), (2, .int r8), (3, .int x92)] rfl ?_
          exact ih25 F90 R91 x92 oF90 fF90 oR91 fR91 (jv_w zx92.2 (by decide)) (Nat.lt_of_lt_of_le (show (2147483647 - x92.toInt).toNat < (2147483647 - y11.toInt).toNat from by have q0 := (jv_k (x := 1) 1 (by decide)).1; have q1 := (jv_k (x := 1) 1 (by decide)).2; have q2 := (jv_k (x := 10) 10 (by decide)).1; have q3 := (jv_k (x := 10) 10 (by decide)).2; have q4 := zx92.2.1; have q5 := zx92.2.2; have q6 := p87.1; have q7 := p87.2; have q8 := (gc_nle zc14); have q9 := (g_eq0 zx92.1); omega) (Nat.le_of_lt_succ hm25))
        refine g_if_eq cx 69 e_X0_tick_36 (by decide) (fun zc93 => ?_) (fun zc93 => ?_)
        · have p94 := gn_eq 0 0 (gc_eq zc93) (jv_t x89) (jv_k (x := 0) 0 (by decide)) (by decide)
          exact J69 F12 R13 oF12 fF12 oR13 fR13
        · refine g_aload_n cx 0 rfl e_X0_tick_39 ?_
          refine g_get cx cl_X0 fl_X0_39 37 (.ref (ad 38)) e_X0_tick_40 rfl rfl ?_
          refine g_iload_n cx 2 rfl e_X0_tick_43 ?_
          refine g_iald cx 38 e_X0_tick_44 rfl (jv_ix 10 p87 (by decide)) ?_
          refine g_topi (fun x95 ex95 => ?_)
          refine g_istore cx [(4, .int x95), (0, .ref (ad 37)), (2, .int r8), (3, .int y11)] e_X0_tick_45 (by decide) rfl ?_
          refine g_aload_n cx 1 rfl e_X0_tick_47 ?_
          refine g_iload_n cx 3 rfl e_X0_tick_48 ?_
          refine g_cVvW cx [.int y11] [] (w_X0_feelCloth l X ad F12 R13 oF12 oR13 y11 p87) ml_X0_108 yV_X0_feelCloth e_X0_tick_49 (by unfold g_rr; decide) (by decide) 37 rfl rfl rfl (Nat.le_of_ble_eq_true rfl) (fun w97 h98 => ?_)
          obtain ⟨F99, R100, rfl, oF99, oR100, cF99, cR100⟩ := h98
          have fF99 : g_fr md_X0_tick F F99 := g_fr_c fF12 cF99 rfl
          have fR100 : g_fr mr_X0_tick R R100 := g_fr_c fR13 cR100 rfl
          refine g_aload_n cx 1 rfl e_X0_tick_52 ?_
          refine g_iload_n cx 3 rfl e_X0_tick_53 ?_
          refine g_aload_n cx 1 rfl e_X0_tick_54 ?_
          refine g_get cx cl_X0 fl_X0_39 37 (.ref (ad 38)) e_X0_tick_55 rfl rfl ?_
          refine g_iload_n cx 3 rfl e_X0_tick_58 ?_
          refine g_iald cx 38 e_X0_tick_59 rfl (jv_ix 10 p87 (by decide)) ?_
          refine g_topi (fun x101 ex101 => ?_)
          refine g_iload cx 0 rfl e_X0_tick_60 ?_
          refine g_isub cx e_X0_tick_62 ?_
          refine g_topi (fun x102 ex102 => ?_)
          refine g_mabs cx ml_X0_111 e_X0_tick_63 ⟨Nat.le_of_ble_eq_true rfl, Nat.le_of_ble_eq_true rfl⟩ (by decide) ?_
          refine g_topi (fun x103 ex103 => ?_)
          refine g_cVvW cx [.int y11, .int x103] [] (w_X0_shake l X ad F99 R100 oF99 oR100 y11 x103 p87) ml_X0_116 yV_X0_shake e_X0_tick_66 (by unfold g_rr; decide) (by decide) 37 rfl rfl rfl (Nat.le_of_ble_eq_true rfl) (fun w105 h106 => ?_)
          obtain ⟨F107, R108, rfl, oF107, oR108, cF107, cR108⟩ := h106
          have fF107 : g_fr md_X0_tick F F107 := g_fr_c fF99 cF107 rfl
          have fR108 : g_fr mr_X0_tick R R108 := g_fr_c fR100 cR108 rfl
          refine g_lsub [1, 2, 3] [(0, .ref (ad 37)), (2, .int r8), (3, .int y11)] rfl ?_
          exact J69 F107 R108 oF107 fF107 oR108 fR108
  refine g_lsub [2, 1, 0] [(0, .ref (ad 37)), (2, .int r8), (3, .int 0)] rfl ?_
  exact J25 _ F7 R5 0 oF7 fF7 oR5 fR5 (jv_w (jv_k (x := 0) 0 (by decide)) (by decide)) (Nat.lt_succ_self _)
theorem e_X0_moves_0 : g_dc cX0_moves 0 (.aload_n 0) 1 1 := ⟨by decide +kernel, rfl⟩
theorem e_X0_moves_1 : g_dc cX0_moves 1 (.getfield 35) 3 4 := ⟨by decide +kernel, rfl⟩
theorem e_X0_moves_4 : g_dc cX0_moves 4 (.invokevirtual 101) 3 7 := ⟨by decide +kernel, rfl⟩
theorem e_X0_moves_7 : g_dc cX0_moves 7 (.istore_n 1) 1 8 := ⟨by decide +kernel, rfl⟩
theorem e_X0_moves_8 : g_dc cX0_moves 8 (.iconst 0) 1 9 := ⟨by decide +kernel, rfl⟩
theorem e_X0_moves_9 : g_dc cX0_moves 9 (.istore_n 2) 1 10 := ⟨by decide +kernel, rfl⟩
theorem e_X0_moves_10 : g_dc cX0_moves 10 (.iload_n 2) 1 11 := ⟨by decide +kernel, rfl⟩
theorem e_X0_moves_11 : g_dc cX0_moves 11 (.bipush 10) 2 13 := ⟨by decide +kernel, rfl⟩
theorem e_X0_moves_13 : g_dc cX0_moves 13 (.if_icmp .ge 28) 3 16 := ⟨by decide +kernel, rfl⟩
theorem e_X0_moves_16 : g_dc cX0_moves 16 (.aload_n 0) 1 17 := ⟨by decide +kernel, rfl⟩
theorem e_X0_moves_17 : g_dc cX0_moves 17 (.getfield 39) 3 20 := ⟨by decide +kernel, rfl⟩
theorem e_X0_moves_20 : g_dc cX0_moves 20 (.iload_n 2) 1 21 := ⟨by decide +kernel, rfl⟩
theorem e_X0_moves_21 : g_dc cX0_moves 21 (.iaload) 1 22 := ⟨by decide +kernel, rfl⟩
theorem e_X0_moves_22 : g_dc cX0_moves 22 (.ifCond .le 13) 3 25 := ⟨by decide +kernel, rfl⟩
theorem e_X0_moves_25 : g_dc cX0_moves 25 (.iload_n 1) 1 26 := ⟨by decide +kernel, rfl⟩
theorem e_X0_moves_26 : g_dc cX0_moves 26 (.iconst 1) 1 27 := ⟨by decide +kernel, rfl⟩
theorem e_X0_moves_27 : g_dc cX0_moves 27 (.iload_n 2) 1 28 := ⟨by decide +kernel, rfl⟩
theorem e_X0_moves_28 : g_dc cX0_moves 28 (.ishl) 1 29 := ⟨by decide +kernel, rfl⟩
theorem e_X0_moves_29 : g_dc cX0_moves 29 (.iand) 1 30 := ⟨by decide +kernel, rfl⟩
theorem e_X0_moves_30 : g_dc cX0_moves 30 (.ifCond .eq 5) 3 33 := ⟨by decide +kernel, rfl⟩
theorem e_X0_moves_33 : g_dc cX0_moves 33 (.iconst 1) 1 34 := ⟨by decide +kernel, rfl⟩
theorem e_X0_moves_34 : g_dc cX0_moves 34 (.ireturn) 1 35 := ⟨by decide +kernel, rfl⟩
theorem e_X0_moves_35 : g_dc cX0_moves 35 (.iinc 2 1) 3 38 := ⟨by decide +kernel, rfl⟩
theorem e_X0_moves_38 : g_dc cX0_moves 38 (.goto (-28)) 3 41 := ⟨by decide +kernel, rfl⟩
theorem e_X0_moves_41 : g_dc cX0_moves 41 (.iconst 0) 1 42 := ⟨by decide +kernel, rfl⟩
theorem e_X0_moves_42 : g_dc cX0_moves 42 (.ireturn) 1 43 := ⟨by decide +kernel, rfl⟩
set_option maxHeartbeats 4000000 in
set_option maxRecDepth 100000 in
theorem w_X0_moves (l : Launch) (X : gX) (ad : Nat → Nat) (F : Nat → Int32) (R : Nat → Nat → Int32) (hI : g_ok LK_wX F) (hA : g_okR LA_wX R) : g_Ci l X yX0_moves cX0_moves 3 (some .boolean) 2 0 0 [.ref (ad 37)] (wX X ad F R) (fun r w => w = wX X ad F R ∧ jv 0 1 r) := by
  refine g_mi (by decide +kernel) (Nat.le_of_ble_eq_true rfl) (fun E cx hret => ?_)
  refine g_aload_n cx 0 rfl e_X0_moves_0 ?_
  refine g_get cx cl_X0 fl_X0_35 37 (.ref (ad 43)) e_X0_moves_1 rfl rfl ?_
  refine g_cViW cx [] [] (w_X4_standingSet l X ad F R hI hA) ml_X0_101 yV_X4_standingSet e_X0_moves_4 (by unfold g_rr; decide) (by decide) 43 rfl rfl rfl (Nat.le_of_ble_eq_true rfl) (fun r1 w2 h3 => ?_)
  obtain ⟨rfl, pr1⟩ := h3
  refine g_istore_n cx [(1, .int r1), (0, .ref (ad 37))] e_X0_moves_7 (by decide) rfl ?_
  refine g_iconst cx 0 (by decide) e_X0_moves_8 ?_
  refine g_istore_n cx [(2, .int 0), (1, .int r1), (0, .ref (ad 37))] e_X0_moves_9 (by decide) rfl ?_
  have J10 : ∀ (N : Nat) (y4 : Int32), (jv 0 10 y4) → (2147483647 - y4.toInt).toNat < N → G X E 3 0 0 (wX X ad F R) [(0, .ref (ad 37)), (1, .int r1), (2, .int y4)] 10 [] := by
    intro N
    induction N with
    | zero => intro y4 py4 hm; exact absurd hm (Nat.not_lt_zero _)
    | succ N ih10 =>
      intro y4 py4 hm10
      refine g_iload_n cx 2 rfl e_X0_moves_10 ?_
      refine g_bipush cx 10 (by decide) e_X0_moves_11 ?_
      refine g_icmp_ge cx 41 e_X0_moves_13 (by decide) (fun zc5 => ?_) (fun zc5 => ?_)
      · have p6 := gn_ge 10 10 (gc_le zc5) py4 (jv_k (x := 10) 10 (by decide)) (by decide)
        refine g_iconst cx 0 (by decide) e_X0_moves_41 ?_
        exact hret e_X0_moves_42 (Nat.le_of_ble_eq_true rfl) (Nat.le_of_ble_eq_true rfl) rfl ⟨rfl, (jv_w (jv_k (x := 0) 0 (by decide)) (by decide))⟩
      · have p7 := gn_lt 0 9 (gc_nle zc5) py4 (jv_k (x := 10) 10 (by decide)) (by decide)
        refine g_aload_n cx 0 rfl e_X0_moves_16 ?_
        refine g_get cx cl_X0 fl_X0_39 37 (.ref (ad 38)) e_X0_moves_17 rfl rfl ?_
        refine g_iload_n cx 2 rfl e_X0_moves_20 ?_
        refine g_iald cx 38 e_X0_moves_21 rfl (jv_ix 10 p7 (by decide)) ?_
        refine g_topi (fun x8 ex8 => ?_)
        have J35 : G X E 3 0 0 (wX X ad F R) [(0, .ref (ad 37)), (1, .int r1), (2, .int y4)] 35 [] := by
          obtain ⟨x9, ex9⟩ : ∃ z : Int32, z = y4 + Int32.ofInt 1 := ⟨_, rfl⟩
          refine g_iinc cx x9 [(2, .int x9), (0, .ref (ad 37)), (1, .int r1)] 2 e_X0_moves_35 rfl ex9.symm (by decide) rfl ?_
          have zx9 := jv_add 1 10 (show x9 = y4 + 1 from ex9) p7 (jv_k (x := 1) 1 (by decide)) (by decide)
          refine g_goto cx 10 e_X0_moves_38 (by decide) ?_
          refine g_lsub [1, 2, 0] [(0, .ref (ad 37)), (1, .int r1), (2, .int x9)] rfl ?_
          exact ih10 x9 (jv_w zx9.2 (by decide)) (Nat.lt_of_lt_of_le (show (2147483647 - x9.toInt).toNat < (2147483647 - y4.toInt).toNat from by have q0 := (jv_k (x := 1) 1 (by decide)).1; have q1 := (jv_k (x := 1) 1 (by decide)).2; have q2 := (jv_k (x := 10) 10 (by decide)).1; have q3 := (jv_k (x := 10) 10 (by decide)).2; have q4 := zx9.2.1; have q5 := zx9.2.2; have q6 := p7.1; have q7 := p7.2; have q8 := (gc_nle zc5); have q9 := (g_eq0 zx9.1); omega) (Nat.le_of_lt_succ hm10))
        refine g_if_le cx 35 e_X0_moves_22 (by decide) (fun zc10 => ?_) (fun zc10 => ?_)
        · have p11 := gn_le (-2147483648) 0 (gc_le zc10) (jv_t x8) (jv_k (x := 0) 0 (by decide)) (by decide)
          exact J35  
        · have p12 := gn_gt 1 2147483647 (gc_nle zc10) (jv_t x8) (jv_k (x := 0) 0 (by decide)) (by decide)
          refine g_iload_n cx 1 rfl e_X0_moves_25 ?_
          refine g_iconst cx 1 (by decide) e_X0_moves_26 ?_
          refine g_iload_n cx 2 rfl e_X0_moves_27 ?_
          refine g_ishl cx e_X0_moves_28 ?_
          refine g_topi (fun x13 ex13 => ?_)
          refine g_iand cx e_X0_moves_29 ?_
          refine g_topi (fun x14 ex14 => ?_)
          refine g_if_eq cx 35 e_X0_moves_30 (by decide) (fun zc15 => ?_) (fun zc15 => ?_)
          · have p16 := gn_eq 0 0 (gc_eq zc15) (jv_t x14) (jv_k (x := 0) 0 (by decide)) (by decide)
            exact J35  
          · refine g_iconst cx 1 (by decide) e_X0_moves_33 ?_
            exact hret e_X0_moves_34 (Nat.le_of_ble_eq_true rfl) (Nat.le_of_ble_eq_true rfl) rfl ⟨rfl, (jv_w (jv_k (x := 1) 1 (by decide)) (by decide))⟩
  refine g_lsub [2, 1, 0] [(0, .ref (ad 37)), (1, .int r1), (2, .int 0)] rfl ?_
  exact J10 _ 0 (jv_w (jv_k (x := 0) 0 (by decide)) (by decide)) (Nat.lt_succ_self _)
theorem e_X0_run_0 : g_dc cX0_run 0 (.aload_n 0) 1 1 := ⟨by decide +kernel, rfl⟩
theorem e_X0_run_1 : g_dc cX0_run 1 (.invokevirtual 75) 3 4 := ⟨by decide +kernel, rfl⟩
theorem e_X0_run_4 : g_dc cX0_run 4 (.iconst 0) 1 5 := ⟨by decide +kernel, rfl⟩
theorem e_X0_run_5 : g_dc cX0_run 5 (.istore_n 1) 1 6 := ⟨by decide +kernel, rfl⟩
theorem e_X0_run_6 : g_dc cX0_run 6 (.iload_n 1) 1 7 := ⟨by decide +kernel, rfl⟩
theorem e_X0_run_7 : g_dc cX0_run 7 (.sipush 300) 3 10 := ⟨by decide +kernel, rfl⟩
theorem e_X0_run_10 : g_dc cX0_run 10 (.if_icmp .ge 42) 3 13 := ⟨by decide +kernel, rfl⟩
theorem e_X0_run_13 : g_dc cX0_run 13 (.iload_n 1) 1 14 := ⟨by decide +kernel, rfl⟩
theorem e_X0_run_14 : g_dc cX0_run 14 (.aload_n 0) 1 15 := ⟨by decide +kernel, rfl⟩
theorem e_X0_run_15 : g_dc cX0_run 15 (.getfield 21) 3 18 := ⟨by decide +kernel, rfl⟩
theorem e_X0_run_18 : g_dc cX0_run 18 (.getfield 78) 3 21 := ⟨by decide +kernel, rfl⟩
theorem e_X0_run_21 : g_dc cX0_run 21 (.if_icmp .lt 10) 3 24 := ⟨by decide +kernel, rfl⟩
theorem e_X0_run_24 : g_dc cX0_run 24 (.aload_n 0) 1 25 := ⟨by decide +kernel, rfl⟩
theorem e_X0_run_25 : g_dc cX0_run 25 (.invokevirtual 81) 3 28 := ⟨by decide +kernel, rfl⟩
theorem e_X0_run_28 : g_dc cX0_run 28 (.ifCond .eq 24) 3 31 := ⟨by decide +kernel, rfl⟩
theorem e_X0_run_31 : g_dc cX0_run 31 (.aload_n 0) 1 32 := ⟨by decide +kernel, rfl⟩
theorem e_X0_run_32 : g_dc cX0_run 32 (.iload_n 1) 1 33 := ⟨by decide +kernel, rfl⟩
theorem e_X0_run_33 : g_dc cX0_run 33 (.invokevirtual 85) 3 36 := ⟨by decide +kernel, rfl⟩
theorem e_X0_run_36 : g_dc cX0_run 36 (.aload_n 0) 1 37 := ⟨by decide +kernel, rfl⟩
theorem e_X0_run_37 : g_dc cX0_run 37 (.getfield 35) 3 40 := ⟨by decide +kernel, rfl⟩
theorem e_X0_run_40 : g_dc cX0_run 40 (.iload_n 1) 1 41 := ⟨by decide +kernel, rfl⟩
theorem e_X0_run_41 : g_dc cX0_run 41 (.iconst 1) 1 42 := ⟨by decide +kernel, rfl⟩
theorem e_X0_run_42 : g_dc cX0_run 42 (.iadd) 1 43 := ⟨by decide +kernel, rfl⟩
theorem e_X0_run_43 : g_dc cX0_run 43 (.putfield 89) 3 46 := ⟨by decide +kernel, rfl⟩
theorem e_X0_run_46 : g_dc cX0_run 46 (.iinc 1 1) 3 49 := ⟨by decide +kernel, rfl⟩
theorem e_X0_run_49 : g_dc cX0_run 49 (.goto (-43)) 3 52 := ⟨by decide +kernel, rfl⟩
theorem e_X0_run_52 : g_dc cX0_run 52 (.return_) 1 53 := ⟨by decide +kernel, rfl⟩
def md_X0_run : List Nat := [601, 602, 603, 604, 605, 606, 673, 675, 691, 692, 693, 694, 695, 696, 697, 698]
def mr_X0_run : List Nat := [23, 24, 38, 39, 40, 41, 44, 45, 46]
set_option maxHeartbeats 4000000 in
set_option maxRecDepth 100000 in
theorem w_X0_run (l : Launch) (X : gX) (ad : Nat → Nat) (F : Nat → Int32) (R : Nat → Nat → Int32) (hI : g_ok LK_wX F) (hA : g_okR LA_wX R) : g_Cv l X yX0_run cX0_run 2 6 0 0 [.ref (ad 37)] (wX X ad F R) (fun w => ∃ (F' : Nat → Int32) (R' : Nat → Nat → Int32), w = wX X ad F' R' ∧ g_ok LK_wX F' ∧ g_okR LA_wX R' ∧ g_fr md_X0_run F F' ∧ g_fr mr_X0_run R R') := by
  refine g_mv (by decide +kernel) (Nat.le_of_ble_eq_true rfl) (fun E cx hret => ?_)
  refine g_aload_n cx 0 rfl e_X0_run_0 ?_
  refine g_cVvW cx [] [] (w_X0_begin l X ad F R hI hA) ml_X0_75 yV_X0_begin e_X0_run_1 (by unfold g_rr; decide) (by decide) 37 rfl rfl rfl (Nat.le_of_ble_eq_true rfl) (fun w2 h3 => ?_)
  obtain ⟨F4, R5, rfl, oF4, oR5, cF4, cR5⟩ := h3
  have fF4 : g_fr md_X0_run F F4 := g_fr_c (g_fr_rf F) cF4 rfl
  have fR5 : g_fr mr_X0_run R R5 := g_fr_c (g_fr_rf R) cR5 rfl
  refine g_iconst cx 0 (by decide) e_X0_run_4 ?_
  refine g_istore_n cx [(1, .int 0), (0, .ref (ad 37))] e_X0_run_5 (by decide) rfl ?_
  have J6 : ∀ (N : Nat) (F7 : Nat → Int32) (R8 : Nat → Nat → Int32) (y6 : Int32), (g_ok LK_wX F7) → (g_fr md_X0_run F F7) → (g_okR LA_wX R8) → (g_fr mr_X0_run R R8) → (jv 0 300 y6) → (2147483647 - y6.toInt).toNat < N → G X E 2 0 0 (wX X ad F7 R8) [(0, .ref (ad 37)), (1, .int y6)] 6 [] := by
    intro N
    induction N with
    | zero => intro F7 R8 y6 oF7 fF7 oR8 fR8 py6 hm; exact absurd hm (Nat.not_lt_zero _)
    | succ N ih6 =>
      intro F7 R8 y6 oF7 fF7 oR8 fR8 py6 hm6
      refine g_iload_n cx 1 rfl e_X0_run_6 ?_
      refine g_sipush cx 300 (by decide) e_X0_run_7 ?_
      have J52 : G X E 2 0 0 (wX X ad F7 R8) [] 52 [] := by
        exact hret e_X0_run_52 (Nat.le_of_ble_eq_true rfl) (Nat.le_of_ble_eq_true rfl) ⟨F7, R8, rfl, oF7, oR8, fF7, fR8⟩
      refine g_icmp_ge cx 52 e_X0_run_10 (by decide) (fun zc9 => ?_) (fun zc9 => ?_)
      · have p10 := gn_ge 300 300 (gc_le zc9) py6 (jv_k (x := 300) 300 (by decide)) (by decide)
        refine g_lsub [] [] rfl ?_
        exact J52  
      · have p11 := gn_lt 0 299 (gc_nle zc9) py6 (jv_k (x := 300) 300 (by decide)) (by decide)
        refine g_iload_n cx 1 rfl e_X0_run_13 ?_
        refine g_aload_n cx 0 rfl e_X0_run_14 ?_
        refine g_get cx cl_X0 fl_X0_21 37 (.ref (ad 15)) e_X0_run_15 rfl rfl ?_
        refine g_getN cx cl_X5 fn_X0_78 15 (.int (F7 241)) e_X0_run_18 rfl rfl ?_
        refine g_toi (F 241) (fF7 241 rfl) ?_
        have J31 : G X E 2 0 0 (wX X ad F7 R8) [(0, .ref (ad 37)), (1, .int y6)] 31 [] := by
          refine g_aload_n cx 0 rfl e_X0_run_31 ?_
          refine g_iload_n cx 1 rfl e_X0_run_32 ?_
          refine g_cVvW cx [.int y6] [] (w_X0_tick l X ad F7 R8 oF7 oR8 y6) ml_X0_85 yV_X0_tick e_X0_run_33 (by unfold g_rr; decide) (by decide) 37 rfl rfl rfl (Nat.le_of_ble_eq_true rfl) (fun w13 h14 => ?_)
          obtain ⟨F15, R16, rfl, oF15, oR16, cF15, cR16⟩ := h14
          have fF15 : g_fr md_X0_run F F15 := g_fr_c fF7 cF15 rfl
          have fR16 : g_fr mr_X0_run R R16 := g_fr_c fR8 cR16 rfl
          refine g_aload_n cx 0 rfl e_X0_run_36 ?_
          refine g_get cx cl_X0 fl_X0_35 37 (.ref (ad 43)) e_X0_run_37 rfl rfl ?_
          refine g_iload_n cx 1 rfl e_X0_run_40 ?_
          refine g_iconst cx 1 (by decide) e_X0_run_41 ?_
          refine g_iadd cx e_X0_run_42 ?_
          refine g_topi (fun x17 ex17 => ?_)
          have zx17 := jv_add 1 300 ex17 p11 (jv_k (x := 1) 1 (by decide)) (by decide)
          refine g_putN cx cl_X4 fn_X0_89 43 (wX X ad (upd F15 697 x17) R16) e_X0_run_43 rfl rfl rfl rfl (Nat.le_of_ble_eq_true rfl) rfl ?_
          obtain ⟨F18, hF18⟩ : ∃ z, z = upd F15 697 x17 := ⟨_, rfl⟩
          rw [← hF18]
          have oF18 : g_ok LK_wX F18 := by rw [hF18]; exact g_ok_u oF15 rfl
          have fF18 : g_fr md_X0_run F F18 := by rw [hF18]; exact g_fr_u fF15 rfl
          obtain ⟨x19, ex19⟩ : ∃ z : Int32, z = y6 + Int32.ofInt 1 := ⟨_, rfl⟩
          refine g_iinc cx x19 [(1, .int x19), (0, .ref (ad 37))] 1 e_X0_run_46 rfl ex19.symm (by decide) rfl ?_
          have zx19 := jv_add 1 300 (show x19 = y6 + 1 from ex19) p11 (jv_k (x := 1) 1 (by decide)) (by decide)
          refine g_goto cx 6 e_X0_run_49 (by decide) ?_
          refine g_lsub [1, 0] [(0, .ref (ad 37)), (1, .int x19)] rfl ?_
          exact ih6 F18 R16 x19 oF18 fF18 oR16 fR16 (jv_w zx19.2 (by decide)) (Nat.lt_of_lt_of_le (show (2147483647 - x19.toInt).toNat < (2147483647 - y6.toInt).toNat from by have q0 := (jv_k (x := 1) 1 (by decide)).1; have q1 := (jv_k (x := 1) 1 (by decide)).2; have q2 := (jv_k (x := 300) 300 (by decide)).1; have q3 := (jv_k (x := 300) 300 (by decide)).2; have q4 := zx17.2.1; have q5 := zx17.2.2; have q6 := zx19.2.1; have q7 := zx19.2.2; have q8 := p11.1; have q9 := p11.2; have q10 := (gc_nle zc9); have q11 := (g_eq0 zx17.1); have q12 := (g_eq0 zx19.1); omega) (Nat.le_of_lt_succ hm6))
        refine g_icmp_lt cx 31 e_X0_run_21 (by decide) (fun zc20 => ?_) (fun zc20 => ?_)
        · have p21 := gn_lt 0 59 (gc_lt zc20) p11 (g_ok_g hI 4 rfl) (by decide)
          have p22 := gn_gt 1 60 (gc_lt zc20) (g_ok_g hI 4 rfl) p11 (by decide)
          exact J31  
        · refine g_aload_n cx 0 rfl e_X0_run_24 ?_
          refine g_cViW cx [] [] (w_X0_moves l X ad F7 R8 oF7 oR8) ml_X0_81 yV_X0_moves e_X0_run_25 (by unfold g_rr; decide) (by decide) 37 rfl rfl rfl (Nat.le_of_ble_eq_true rfl) (fun r23 w24 h25 => ?_)
          obtain ⟨rfl, pr23⟩ := h25
          refine g_if_eq cx 52 e_X0_run_28 (by decide) (fun zc26 => ?_) (fun zc26 => ?_)
          · have p27 := gn_eq 0 0 (gc_eq zc26) pr23 (jv_k (x := 0) 0 (by decide)) (by decide)
            refine g_lsub [] [] rfl ?_
            exact J52  
          · have p28 := gn_neL 1 1 (gc_ne zc26) pr23 (jv_k (x := 0) 0 (by decide)) (by decide)
            exact J31  
  refine g_lsub [1, 0] [(0, .ref (ad 37)), (1, .int 0)] rfl ?_
  exact J6 _ F4 R5 0 oF4 fF4 oR5 fR5 (jv_w (jv_k (x := 0) 0 (by decide)) (by decide)) (Nat.lt_succ_self _)
