def sp_X8_foldPlace_5 (F : Nat → Int32) (R : Nat → Nat → Int32) (a0 : Int32) : Int32 :=
  k_lt (a0 * (F 80)) (fun x1 => k_lt (x1 / 6) (fun x3 => x3))
theorem e_X8_foldPlace_0 : g_dc cX8_foldPlace 0 (.iload_n 1) 1 1 := ⟨by decide +kernel, rfl⟩
theorem e_X8_foldPlace_1 : g_dc cX8_foldPlace 1 (.aload_n 0) 1 2 := ⟨by decide +kernel, rfl⟩
theorem e_X8_foldPlace_2 : g_dc cX8_foldPlace 2 (.getfield 9) 3 5 := ⟨by decide +kernel, rfl⟩
theorem e_X8_foldPlace_5 : g_dc cX8_foldPlace 5 (.imul) 1 6 := ⟨by decide +kernel, rfl⟩
theorem e_X8_foldPlace_6 : g_dc cX8_foldPlace 6 (.bipush 6) 2 8 := ⟨by decide +kernel, rfl⟩
theorem e_X8_foldPlace_8 : g_dc cX8_foldPlace 8 (.idiv) 1 9 := ⟨by decide +kernel, rfl⟩
theorem e_X8_foldPlace_9 : g_dc cX8_foldPlace 9 (.ireturn) 1 10 := ⟨by decide +kernel, rfl⟩
set_option maxHeartbeats 4000000 in
set_option maxRecDepth 100000 in
theorem w_X8_foldPlace_5 (l : Launch) (X : gX) (ad : Nat → Nat) (F : Nat → Int32) (R : Nat → Nat → Int32) (hI : g_ok LK_wX F) (hA : g_okR LA_wX R) (a0 : Int32) : g_Ci l X yX8_foldPlace cX8_foldPlace 2 (some .int) 1 0 0 [.ref (ad 5), .int a0] (wX X ad F R) (fun r w => w = wX X ad F R ∧ jv (-2147483648) 2147483647 r ∧ r = sp_X8_foldPlace_5 F R a0) := by
  refine g_mi (by decide +kernel) (Nat.le_of_ble_eq_true rfl) (fun E cx hret => ?_)
  obtain ⟨SP, hSP⟩ : ∃ z, z = sp_X8_foldPlace_5 F R a0 := ⟨_, rfl⟩
  have hk0 := hSP
  unfold sp_X8_foldPlace_5 at hk0
  refine g_iload_n cx 1 rfl e_X8_foldPlace_0 ?_
  refine g_aload_n cx 0 rfl e_X8_foldPlace_1 ?_
  refine g_get cx cl_X8 fl_X8_9 5 (.int (F 80)) e_X8_foldPlace_2 rfl rfl ?_
  refine g_imul cx e_X8_foldPlace_5 ?_
  refine g_topi (fun x1 ex1 => ?_)
  have hk2 := k_ls hk0 ex1
  refine g_bipush cx 6 (by decide) e_X8_foldPlace_6 ?_
  refine g_idiv cx (by decide) e_X8_foldPlace_8 ?_
  refine g_topi (fun x3 ex3 => ?_)
  have hk4 := k_ls hk2 ex3
  exact hret e_X8_foldPlace_9 (Nat.le_of_ble_eq_true rfl) (Nat.le_of_ble_eq_true rfl) rfl ⟨rfl, (jv_t x3), (hk4.symm.trans hSP)⟩
def K_X8_hasFold_5_37  (y5 : Int32) : Int32 :=
  y5
def K_X8_hasFold_5_36   : Int32 :=
  K_X8_hasFold_5_37 0
def sp_X8_hasFold_5 (F : Nat → Int32) (R : Nat → Nat → Int32) (a0 : Int32) : Int32 :=
  k_lt (g_in a0 0 5) (fun r1 => if r1 = 0 then K_X8_hasFold_5_36 else k_lt (1 <<< (a0 &&& 31)) (fun x12 => k_lt ((F 82) &&& x12) (fun x14 => if x14 = 0 then K_X8_hasFold_5_36 else k_lt (sp_X8_foldPlace_5 F R a0) (fun r20 => if (F 81) ≤ r20 then K_X8_hasFold_5_36 else K_X8_hasFold_5_37 1))))
theorem e_X8_hasFold_0 : g_dc cX8_hasFold 0 (.iload_n 1) 1 1 := ⟨by decide +kernel, rfl⟩
theorem e_X8_hasFold_1 : g_dc cX8_hasFold 1 (.iconst 0) 1 2 := ⟨by decide +kernel, rfl⟩
theorem e_X8_hasFold_2 : g_dc cX8_hasFold 2 (.iconst 5) 1 3 := ⟨by decide +kernel, rfl⟩
theorem e_X8_hasFold_3 : g_dc cX8_hasFold 3 (.invokestatic 31) 3 6 := ⟨by decide +kernel, rfl⟩
theorem e_X8_hasFold_6 : g_dc cX8_hasFold 6 (.ifCond .eq 30) 3 9 := ⟨by decide +kernel, rfl⟩
theorem e_X8_hasFold_9 : g_dc cX8_hasFold 9 (.aload_n 0) 1 10 := ⟨by decide +kernel, rfl⟩
theorem e_X8_hasFold_10 : g_dc cX8_hasFold 10 (.getfield 18) 3 13 := ⟨by decide +kernel, rfl⟩
theorem e_X8_hasFold_13 : g_dc cX8_hasFold 13 (.iconst 1) 1 14 := ⟨by decide +kernel, rfl⟩
theorem e_X8_hasFold_14 : g_dc cX8_hasFold 14 (.iload_n 1) 1 15 := ⟨by decide +kernel, rfl⟩
theorem e_X8_hasFold_15 : g_dc cX8_hasFold 15 (.ishl) 1 16 := ⟨by decide +kernel, rfl⟩
theorem e_X8_hasFold_16 : g_dc cX8_hasFold 16 (.iand) 1 17 := ⟨by decide +kernel, rfl⟩
theorem e_X8_hasFold_17 : g_dc cX8_hasFold 17 (.ifCond .eq 19) 3 20 := ⟨by decide +kernel, rfl⟩
theorem e_X8_hasFold_20 : g_dc cX8_hasFold 20 (.aload_n 0) 1 21 := ⟨by decide +kernel, rfl⟩
theorem e_X8_hasFold_21 : g_dc cX8_hasFold 21 (.iload_n 1) 1 22 := ⟨by decide +kernel, rfl⟩
theorem e_X8_hasFold_22 : g_dc cX8_hasFold 22 (.invokevirtual 35) 3 25 := ⟨by decide +kernel, rfl⟩
theorem e_X8_hasFold_25 : g_dc cX8_hasFold 25 (.aload_n 0) 1 26 := ⟨by decide +kernel, rfl⟩
theorem e_X8_hasFold_26 : g_dc cX8_hasFold 26 (.getfield 15) 3 29 := ⟨by decide +kernel, rfl⟩
theorem e_X8_hasFold_29 : g_dc cX8_hasFold 29 (.if_icmp .ge 7) 3 32 := ⟨by decide +kernel, rfl⟩
theorem e_X8_hasFold_32 : g_dc cX8_hasFold 32 (.iconst 1) 1 33 := ⟨by decide +kernel, rfl⟩
theorem e_X8_hasFold_33 : g_dc cX8_hasFold 33 (.goto 4) 3 36 := ⟨by decide +kernel, rfl⟩
theorem e_X8_hasFold_36 : g_dc cX8_hasFold 36 (.iconst 0) 1 37 := ⟨by decide +kernel, rfl⟩
theorem e_X8_hasFold_37 : g_dc cX8_hasFold 37 (.ireturn) 1 38 := ⟨by decide +kernel, rfl⟩
set_option maxHeartbeats 4000000 in
set_option maxRecDepth 100000 in
theorem w_X8_hasFold_5 (l : Launch) (X : gX) (ad : Nat → Nat) (F : Nat → Int32) (R : Nat → Nat → Int32) (hI : g_ok LK_wX F) (hA : g_okR LA_wX R) (a0 : Int32) : g_Ci l X yX8_hasFold cX8_hasFold 2 (some .boolean) 2 0 0 [.ref (ad 5), .int a0] (wX X ad F R) (fun r w => w = wX X ad F R ∧ jv 0 1 r ∧ r = sp_X8_hasFold_5 F R a0) := by
  refine g_mi (by decide +kernel) (Nat.le_of_ble_eq_true rfl) (fun E cx hret => ?_)
  obtain ⟨SP, hSP⟩ : ∃ z, z = sp_X8_hasFold_5 F R a0 := ⟨_, rfl⟩
  have hk0 := hSP
  unfold sp_X8_hasFold_5 at hk0
  refine g_iload_n cx 1 rfl e_X8_hasFold_0 ?_
  refine g_iconst cx 0 (by decide) e_X8_hasFold_1 ?_
  refine g_iconst cx 5 (by decide) e_X8_hasFold_2 ?_
  refine g_cNiW cx [.int a0, .int 0, .int 5] [] (c_X10_within l X (wX X ad F R) a0 0 5) mn_X8_31 yS_X10_within e_X8_hasFold_3 (by unfold g_rr; decide) (by decide) rfl (Nat.le_of_ble_eq_true rfl) (fun r1 w2 h3 => ?_)
  obtain ⟨rfl, hr1⟩ := h3
  have pr1 : jv 0 1 r1 := by rw [hr1]; exact gi_01 _ _ _
  have hk4 := k_ls hk0 hr1
  have J37 : ∀ (y5 : Int32), (jv 0 1 y5) → (SP = K_X8_hasFold_5_37 y5) → G X E 2 0 0 (wX X ad F R) [] 37 [.int y5] := by
    intro y5 py5 hkJ37
    unfold K_X8_hasFold_5_37 at hkJ37
    exact hret e_X8_hasFold_37 (Nat.le_of_ble_eq_true rfl) (Nat.le_of_ble_eq_true rfl) (g_narb py5) ⟨rfl, py5, (hkJ37.symm.trans hSP)⟩
  have J36 : (SP = K_X8_hasFold_5_36) → G X E 2 0 0 (wX X ad F R) [] 36 [] := by
    intro   hkJ36
    unfold K_X8_hasFold_5_36 at hkJ36
    refine g_iconst cx 0 (by decide) e_X8_hasFold_36 ?_
    exact J37 0 (jv_w (jv_k (x := 0) 0 (by decide)) (by decide)) hkJ36
  refine g_if_eq cx 36 e_X8_hasFold_6 (by decide) (fun zc6 => ?_) (fun zc6 => ?_)
  · have p7 := gn_eq 0 0 (gc_eq zc6) pr1 (jv_k (x := 0) 0 (by decide)) (by decide)
    have hk8 := hk4.trans (if_pos zc6)
    refine g_lsub [] [] rfl ?_
    exact J36  hk8
  · have p9 := gn_neL 1 1 (gc_ne zc6) pr1 (jv_k (x := 0) 0 (by decide)) (by decide)
    have p10 := jv_i 0 5 (jv_t a0) (gi_in (A := 0) (B := 5) hr1 zc6 (by decide) (by decide)) (by decide)
    have hk11 := hk4.trans (if_neg zc6)
    refine g_aload_n cx 0 rfl e_X8_hasFold_9 ?_
    refine g_get cx cl_X8 fl_X8_18 5 (.int (F 82)) e_X8_hasFold_10 rfl rfl ?_
    refine g_iconst cx 1 (by decide) e_X8_hasFold_13 ?_
    refine g_iload_n cx 1 rfl e_X8_hasFold_14 ?_
    refine g_ishl cx e_X8_hasFold_15 ?_
    refine g_topi (fun x12 ex12 => ?_)
    have hk13 := k_ls hk11 ex12
    refine g_iand cx e_X8_hasFold_16 ?_
    refine g_topi (fun x14 ex14 => ?_)
    have hk15 := k_ls hk13 ex14
    refine g_if_eq cx 36 e_X8_hasFold_17 (by decide) (fun zc16 => ?_) (fun zc16 => ?_)
    · have p17 := gn_eq 0 0 (gc_eq zc16) (jv_t x14) (jv_k (x := 0) 0 (by decide)) (by decide)
      have hk18 := hk15.trans (if_pos zc16)
      refine g_lsub [] [] rfl ?_
      exact J36  hk18
    · have hk19 := hk15.trans (if_neg zc16)
      refine g_aload_n cx 0 rfl e_X8_hasFold_20 ?_
      refine g_iload_n cx 1 rfl e_X8_hasFold_21 ?_
      refine g_cViW cx [.int a0] [] (w_X8_foldPlace_5 l X ad F R hI hA a0) ml_X8_35 yV_X8_foldPlace e_X8_hasFold_22 (by unfold g_rr; decide) (by decide) 5 rfl rfl rfl (Nat.le_of_ble_eq_true rfl) (fun r20 w21 h22 => ?_)
      obtain ⟨rfl, pr20, hx23⟩ := h22
      have hk24 := k_ls hk19 hx23
      refine g_aload_n cx 0 rfl e_X8_hasFold_25 ?_
      refine g_get cx cl_X8 fl_X8_15 5 (.int (F 81)) e_X8_hasFold_26 rfl rfl ?_
      refine g_icmp_ge cx 36 e_X8_hasFold_29 (by decide) (fun zc25 => ?_) (fun zc25 => ?_)
      · have hk26 := hk24.trans (if_pos zc25)
        refine g_lsub [] [] rfl ?_
        exact J36  hk26
      · have p27 := gn_lt (-2147483648) 2147483646 (gc_nle zc25) pr20 (jv_t (F 81)) (by decide)
        have p28 := gn_gt (-2147483647) 2147483647 (gc_nle zc25) (jv_t (F 81)) pr20 (by decide)
        have hk29 := hk24.trans (if_neg zc25)
        refine g_iconst cx 1 (by decide) e_X8_hasFold_32 ?_
        refine g_goto cx 37 e_X8_hasFold_33 (by decide) ?_
        refine g_lsub [] [] rfl ?_
        exact J37 1 (jv_w (jv_k (x := 1) 1 (by decide)) (by decide)) hk29
def K_X0_begin_88 (b44 : (Nat → Int32) → (Nat → Nat → Int32) → (Int32) → (Nat → Int32) × (Nat → Nat → Int32)) (y17 : Int32) (F31 : Nat → Int32) (R32 : Nat → Nat → Int32) : (Nat → Int32) × (Nat → Nat → Int32) :=
  k_lt (y17 + 1) (fun x34 => b44 F31 R32 x34)
def KB_X0_begin_44 (b44 : (Nat → Int32) → (Nat → Nat → Int32) → (Int32) → (Nat → Int32) × (Nat → Nat → Int32))  (F18 : Nat → Int32) (R19 : Nat → Nat → Int32) (y17 : Int32) : (Nat → Int32) × (Nat → Nat → Int32) :=
  if 6 ≤ y17 then (F18, R19) else k_lt (sp_X8_hasFold_5 F18 R19 y17) (fun r26 => if r26 = 0 then K_X0_begin_88 b44 y17 F18 R19 else k_lt (sp_X8_foldPlace_5 F18 R19 y17) (fun r41 => k_lt (g_u R19 41 (upd (R19 41) (Int32.toNatClampNeg (F18 601)) r41)) (fun R46 => k_lt ((F18 601) + 1) (fun x48 => k_lt (upd F18 601 x48) (fun F50 => K_X0_begin_88 b44 y17 F50 R46)))))
def K_X0_begin_44  : Nat → (Nat → Int32) → (Nat → Nat → Int32) → (Int32) → (Nat → Int32) × (Nat → Nat → Int32)
  | 0 => fun F18 R19 _ => (F18, R19)
  | n + 1 => KB_X0_begin_44 (K_X0_begin_44 n)
def KB_X0_begin_18 (b18 : (Nat → Nat → Int32) → (Int32) → (Nat → Int32) × (Nat → Nat → Int32)) (F8 : Nat → Int32) (R11 : Nat → Nat → Int32) (y10 : Int32) : (Nat → Int32) × (Nat → Nat → Int32) :=
  if 10 ≤ y10 then k_lt (upd F8 601 0) (fun F15 => K_X0_begin_44 8589934592 F15 R11 0) else k_lt (g_u R11 38 (upd (R11 38) (Int32.toNatClampNeg y10) 0)) (fun R54 => k_lt (y10 + 1) (fun x56 => b18 R54 x56))
def K_X0_begin_18 (F8 : Nat → Int32) : Nat → (Nat → Nat → Int32) → (Int32) → (Nat → Int32) × (Nat → Nat → Int32)
  | 0 => fun R11 _ => (F8, R11)
  | n + 1 => KB_X0_begin_18 (K_X0_begin_18 F8 n) F8
def sp_X0_begin (F : Nat → Int32) (R : Nat → Nat → Int32) : (Nat → Int32) × (Nat → Nat → Int32) :=
  k_lt2 (sp_X4_begin_r5 F R) (fun F5 R6 => k_lt (upd F5 603 0) (fun F8 => K_X0_begin_18 F8 8589934592 R6 0))
theorem e_X0_begin_0 : g_dc cX0_begin 0 (.aload_n 0) 1 1 := ⟨by decide +kernel, rfl⟩
theorem e_X0_begin_1 : g_dc cX0_begin 1 (.getfield 35) 3 4 := ⟨by decide +kernel, rfl⟩
theorem e_X0_begin_4 : g_dc cX0_begin 4 (.aload_n 0) 1 5 := ⟨by decide +kernel, rfl⟩
theorem e_X0_begin_5 : g_dc cX0_begin 5 (.getfield 12) 3 8 := ⟨by decide +kernel, rfl⟩
theorem e_X0_begin_8 : g_dc cX0_begin 8 (.invokevirtual 90) 3 11 := ⟨by decide +kernel, rfl⟩
theorem e_X0_begin_11 : g_dc cX0_begin 11 (.aload_n 0) 1 12 := ⟨by decide +kernel, rfl⟩
theorem e_X0_begin_12 : g_dc cX0_begin 12 (.iconst 0) 1 13 := ⟨by decide +kernel, rfl⟩
theorem e_X0_begin_13 : g_dc cX0_begin 13 (.putfield 59) 3 16 := ⟨by decide +kernel, rfl⟩
theorem e_X0_begin_16 : g_dc cX0_begin 16 (.iconst 0) 1 17 := ⟨by decide +kernel, rfl⟩
theorem e_X0_begin_17 : g_dc cX0_begin 17 (.istore_n 1) 1 18 := ⟨by decide +kernel, rfl⟩
theorem e_X0_begin_18 : g_dc cX0_begin 18 (.iload_n 1) 1 19 := ⟨by decide +kernel, rfl⟩
theorem e_X0_begin_19 : g_dc cX0_begin 19 (.bipush 10) 2 21 := ⟨by decide +kernel, rfl⟩
theorem e_X0_begin_21 : g_dc cX0_begin 21 (.if_icmp .ge 16) 3 24 := ⟨by decide +kernel, rfl⟩
theorem e_X0_begin_24 : g_dc cX0_begin 24 (.aload_n 0) 1 25 := ⟨by decide +kernel, rfl⟩
theorem e_X0_begin_25 : g_dc cX0_begin 25 (.getfield 39) 3 28 := ⟨by decide +kernel, rfl⟩
theorem e_X0_begin_28 : g_dc cX0_begin 28 (.iload_n 1) 1 29 := ⟨by decide +kernel, rfl⟩
theorem e_X0_begin_29 : g_dc cX0_begin 29 (.iconst 0) 1 30 := ⟨by decide +kernel, rfl⟩
theorem e_X0_begin_30 : g_dc cX0_begin 30 (.iastore) 1 31 := ⟨by decide +kernel, rfl⟩
theorem e_X0_begin_31 : g_dc cX0_begin 31 (.iinc 1 1) 3 34 := ⟨by decide +kernel, rfl⟩
theorem e_X0_begin_34 : g_dc cX0_begin 34 (.goto (-16)) 3 37 := ⟨by decide +kernel, rfl⟩
theorem e_X0_begin_37 : g_dc cX0_begin 37 (.aload_n 0) 1 38 := ⟨by decide +kernel, rfl⟩
theorem e_X0_begin_38 : g_dc cX0_begin 38 (.iconst 0) 1 39 := ⟨by decide +kernel, rfl⟩
theorem e_X0_begin_39 : g_dc cX0_begin 39 (.putfield 52) 3 42 := ⟨by decide +kernel, rfl⟩
theorem e_X0_begin_42 : g_dc cX0_begin 42 (.iconst 0) 1 43 := ⟨by decide +kernel, rfl⟩
theorem e_X0_begin_43 : g_dc cX0_begin 43 (.istore_n 1) 1 44 := ⟨by decide +kernel, rfl⟩
theorem e_X0_begin_44 : g_dc cX0_begin 44 (.iload_n 1) 1 45 := ⟨by decide +kernel, rfl⟩
theorem e_X0_begin_45 : g_dc cX0_begin 45 (.bipush 6) 2 47 := ⟨by decide +kernel, rfl⟩
theorem e_X0_begin_47 : g_dc cX0_begin 47 (.if_icmp .ge 47) 3 50 := ⟨by decide +kernel, rfl⟩
theorem e_X0_begin_50 : g_dc cX0_begin 50 (.aload_n 0) 1 51 := ⟨by decide +kernel, rfl⟩
theorem e_X0_begin_51 : g_dc cX0_begin 51 (.getfield 12) 3 54 := ⟨by decide +kernel, rfl⟩
theorem e_X0_begin_54 : g_dc cX0_begin 54 (.iload_n 1) 1 55 := ⟨by decide +kernel, rfl⟩
theorem e_X0_begin_55 : g_dc cX0_begin 55 (.invokevirtual 93) 3 58 := ⟨by decide +kernel, rfl⟩
theorem e_X0_begin_58 : g_dc cX0_begin 58 (.ifCond .eq 30) 3 61 := ⟨by decide +kernel, rfl⟩
theorem e_X0_begin_61 : g_dc cX0_begin 61 (.aload_n 0) 1 62 := ⟨by decide +kernel, rfl⟩
theorem e_X0_begin_62 : g_dc cX0_begin 62 (.getfield 49) 3 65 := ⟨by decide +kernel, rfl⟩
theorem e_X0_begin_65 : g_dc cX0_begin 65 (.aload_n 0) 1 66 := ⟨by decide +kernel, rfl⟩
theorem e_X0_begin_66 : g_dc cX0_begin 66 (.getfield 52) 3 69 := ⟨by decide +kernel, rfl⟩
theorem e_X0_begin_69 : g_dc cX0_begin 69 (.aload_n 0) 1 70 := ⟨by decide +kernel, rfl⟩
theorem e_X0_begin_70 : g_dc cX0_begin 70 (.getfield 12) 3 73 := ⟨by decide +kernel, rfl⟩
theorem e_X0_begin_73 : g_dc cX0_begin 73 (.iload_n 1) 1 74 := ⟨by decide +kernel, rfl⟩
theorem e_X0_begin_74 : g_dc cX0_begin 74 (.invokevirtual 97) 3 77 := ⟨by decide +kernel, rfl⟩
theorem e_X0_begin_77 : g_dc cX0_begin 77 (.iastore) 1 78 := ⟨by decide +kernel, rfl⟩
theorem e_X0_begin_78 : g_dc cX0_begin 78 (.aload_n 0) 1 79 := ⟨by decide +kernel, rfl⟩
theorem e_X0_begin_79 : g_dc cX0_begin 79 (.dup) 1 80 := ⟨by decide +kernel, rfl⟩
theorem e_X0_begin_80 : g_dc cX0_begin 80 (.getfield 52) 3 83 := ⟨by decide +kernel, rfl⟩
theorem e_X0_begin_83 : g_dc cX0_begin 83 (.iconst 1) 1 84 := ⟨by decide +kernel, rfl⟩
theorem e_X0_begin_84 : g_dc cX0_begin 84 (.iadd) 1 85 := ⟨by decide +kernel, rfl⟩
theorem e_X0_begin_85 : g_dc cX0_begin 85 (.putfield 52) 3 88 := ⟨by decide +kernel, rfl⟩
theorem e_X0_begin_88 : g_dc cX0_begin 88 (.iinc 1 1) 3 91 := ⟨by decide +kernel, rfl⟩
theorem e_X0_begin_91 : g_dc cX0_begin 91 (.goto (-47)) 3 94 := ⟨by decide +kernel, rfl⟩
theorem e_X0_begin_94 : g_dc cX0_begin 94 (.return_) 1 95 := ⟨by decide +kernel, rfl⟩
def md_X0_begin : List Nat := [601, 603, 691, 692, 693, 694, 695, 696, 697, 698]
def mr_X0_begin : List Nat := [38, 41, 44, 45, 46]
set_option maxHeartbeats 4000000 in
set_option maxRecDepth 100000 in
theorem w_X0_begin (l : Launch) (X : gX) (ad : Nat → Nat) (F : Nat → Int32) (R : Nat → Nat → Int32) (hI : g_ok LK_wX F) (hA : g_okR LA_wX R) : g_Cv l X yX0_begin cX0_begin 2 4 0 0 [.ref (ad 37)] (wX X ad F R) (fun w => ∃ (F' : Nat → Int32) (R' : Nat → Nat → Int32), w = wX X ad F' R' ∧ g_ok LK_wX F' ∧ g_okR LA_wX R' ∧ g_fr md_X0_begin F F' ∧ g_fr mr_X0_begin R R' ∧ (F', R') = sp_X0_begin F R) := by
  refine g_mv (by decide +kernel) (Nat.le_of_ble_eq_true rfl) (fun E cx hret => ?_)
  obtain ⟨SP, hSP⟩ : ∃ z, z = sp_X0_begin F R := ⟨_, rfl⟩
  have hk0 := hSP
  unfold sp_X0_begin at hk0
  refine g_aload_n cx 0 rfl e_X0_begin_0 ?_
  refine g_get cx cl_X0 fl_X0_35 37 (.ref (ad 43)) e_X0_begin_1 rfl rfl ?_
  refine g_aload_n cx 0 rfl e_X0_begin_4 ?_
  refine g_get cx cl_X0 fl_X0_12 37 (.ref (ad 5)) e_X0_begin_5 rfl rfl ?_
  refine g_cVvW cx [.ref (ad 5)] [] (w_X4_begin_r5 l X ad F R hI hA) ml_X0_90 yV_X4_begin e_X0_begin_8 (by unfold g_rr; decide) (by decide) 43 rfl rfl rfl (Nat.le_of_ble_eq_true rfl) (fun w2 h3 => ?_)
  obtain ⟨F5, R6, rfl, oF5, oR6, cF5, cR6, hx4⟩ := h3
  have hk7 := k_ls2 hk0 hx4
  have fF5 : g_fr md_X0_begin F F5 := g_fr_c (g_fr_rf F) cF5 rfl
  have fR6 : g_fr mr_X0_begin R R6 := g_fr_c (g_fr_rf R) cR6 rfl
  refine g_aload_n cx 0 rfl e_X0_begin_11 ?_
  refine g_iconst cx 0 (by decide) e_X0_begin_12 ?_
  refine g_put cx cl_X0 fl_X0_59 37 (wX X ad (upd F5 603 0) R6) e_X0_begin_13 rfl rfl rfl rfl (Nat.le_of_ble_eq_true rfl) rfl ?_
  obtain ⟨F8, hF8⟩ : ∃ z, z = upd F5 603 0 := ⟨_, rfl⟩
  rw [← hF8]
  have hk9 := k_ls hk7 hF8
  have oF8 : g_ok LK_wX F8 := by rw [hF8]; exact g_ok_u oF5 rfl
  have fF8 : g_fr md_X0_begin F F8 := by rw [hF8]; exact g_fr_u fF5 rfl
  refine g_iconst cx 0 (by decide) e_X0_begin_16 ?_
  refine g_istore_n cx [(1, .int 0), (0, .ref (ad 37))] e_X0_begin_17 (by decide) rfl ?_
  have J18 : ∀ (N : Nat) (R11 : Nat → Nat → Int32) (y10 : Int32), (g_okR LA_wX R11) → (g_fr mr_X0_begin R R11) → (jv 0 10 y10) → (SP = K_X0_begin_18 F8 N R11 y10) → (2147483647 - y10.toInt).toNat < N → G X E 2 0 0 (wX X ad F8 R11) [(0, .ref (ad 37)), (1, .int y10)] 18 [] := by
    intro N
    induction N with
    | zero => intro R11 y10 oR11 fR11 py10 hkJ18 hm; exact absurd hm (Nat.not_lt_zero _)
    | succ N ih18 =>
      intro R11 y10 oR11 fR11 py10 hkJ18 hm18
      have hkK18 : SP = KB_X0_begin_18 (K_X0_begin_18 F8 N) F8 R11 y10 := hkJ18
      obtain ⟨b18, hb18⟩ : ∃ z, z = K_X0_begin_18 F8 N := ⟨_, rfl⟩
      rw [← hb18] at hkK18
      unfold KB_X0_begin_18 at hkK18
      refine g_iload_n cx 1 rfl e_X0_begin_18 ?_
      refine g_bipush cx 10 (by decide) e_X0_begin_19 ?_
      refine g_icmp_ge cx 37 e_X0_begin_21 (by decide) (fun zc12 => ?_) (fun zc12 => ?_)
      · have p13 := gn_ge 10 10 (gc_le zc12) py10 (jv_k (x := 10) 10 (by decide)) (by decide)
        have hk14 := hkK18.trans (if_pos zc12)
        refine g_aload_n cx 0 rfl e_X0_begin_37 ?_
        refine g_iconst cx 0 (by decide) e_X0_begin_38 ?_
        refine g_put cx cl_X0 fl_X0_52 37 (wX X ad (upd F8 601 0) R11) e_X0_begin_39 rfl rfl rfl rfl (Nat.le_of_ble_eq_true rfl) rfl ?_
        obtain ⟨F15, hF15⟩ : ∃ z, z = upd F8 601 0 := ⟨_, rfl⟩
        rw [← hF15]
        have hk16 := k_ls hk14 hF15
        have oF15 : g_ok LK_wX F15 := by rw [hF15]; exact g_ok_u oF8 rfl
        have fF15 : g_fr md_X0_begin F F15 := by rw [hF15]; exact g_fr_u fF8 rfl
        refine g_iconst cx 0 (by decide) e_X0_begin_42 ?_
        refine g_istore_n cx [(1, .int 0), (0, .ref (ad 37))] e_X0_begin_43 (by decide) rfl ?_
        have J44 : ∀ (N : Nat) (F18 : Nat → Int32) (R19 : Nat → Nat → Int32) (y17 : Int32), (g_ok LK_wX F18) → (g_fr md_X0_begin F F18) → (g_okR LA_wX R19) → (g_fr mr_X0_begin R R19) → (jv 0 6 y17) → (0 ≤ (F18 601).toInt ∧ (F18 601).toInt ≤ y17.toInt) → (SP = K_X0_begin_44 N F18 R19 y17) → (2147483647 - y17.toInt).toNat < N → G X E 2 0 0 (wX X ad F18 R19) [(0, .ref (ad 37)), (1, .int y17)] 44 [] := by
          intro N
          induction N with
          | zero => intro F18 R19 y17 oF18 fF18 oR19 fR19 py17 zi44_0 hkJ44 hm; exact absurd hm (Nat.not_lt_zero _)
          | succ N ih44 =>
            intro F18 R19 y17 oF18 fF18 oR19 fR19 py17 zi44_0 hkJ44 hm44
            have hkK44 : SP = KB_X0_begin_44 (K_X0_begin_44 N) F18 R19 y17 := hkJ44
            obtain ⟨b44, hb44⟩ : ∃ z, z = K_X0_begin_44 N := ⟨_, rfl⟩
            rw [← hb44] at hkK44
            unfold KB_X0_begin_44 at hkK44
            have p20 : jv 0 6 (F18 601) := ⟨by have q0 := (jv_t (F18 601)).1; have q1 := (jv_t (F18 601)).2; have q2 := py17.1; have q3 := py17.2; have q4 := zi44_0; omega, by have q0 := (jv_t (F18 601)).1; have q1 := (jv_t (F18 601)).2; have q2 := py17.1; have q3 := py17.2; have q4 := zi44_0; omega⟩
            refine g_iload_n cx 1 rfl e_X0_begin_44 ?_
            refine g_bipush cx 6 (by decide) e_X0_begin_45 ?_
            refine g_icmp_ge cx 94 e_X0_begin_47 (by decide) (fun zc21 => ?_) (fun zc21 => ?_)
            · have p22 := gn_ge 6 6 (gc_le zc21) py17 (jv_k (x := 6) 6 (by decide)) (by decide)
              have hk23 := hkK44.trans (if_pos zc21)
              exact hret e_X0_begin_94 (Nat.le_of_ble_eq_true rfl) (Nat.le_of_ble_eq_true rfl) ⟨F18, R19, rfl, oF18, oR19, fF18, fR19, (hk23.symm.trans hSP)⟩
            · have p24 := gn_lt 0 5 (gc_nle zc21) py17 (jv_k (x := 6) 6 (by decide)) (by decide)
              have hk25 := hkK44.trans (if_neg zc21)
              refine g_aload_n cx 0 rfl e_X0_begin_50 ?_
              refine g_get cx cl_X0 fl_X0_12 37 (.ref (ad 5)) e_X0_begin_51 rfl rfl ?_
              refine g_iload_n cx 1 rfl e_X0_begin_54 ?_
              refine g_cViW cx [.int y17] [] (w_X8_hasFold_5 l X ad F18 R19 oF18 oR19 y17) ml_X0_93 yV_X8_hasFold e_X0_begin_55 (by unfold g_rr; decide) (by decide) 5 rfl rfl rfl (Nat.le_of_ble_eq_true rfl) (fun r26 w27 h28 => ?_)
              obtain ⟨rfl, pr26, hx29⟩ := h28
              have hk30 := k_ls hk25 hx29
              have J88 : ∀ (F31 : Nat → Int32) (R32 : Nat → Nat → Int32), (g_ok LK_wX F31) → (g_fr md_X0_begin F F31) → (g_okR LA_wX R32) → (g_fr mr_X0_begin R R32) → (0 ≤ (F31 601).toInt ∧ (F31 601).toInt ≤ y17.toInt + 1) → (SP = K_X0_begin_88 b44 y17 F31 R32) → G X E 2 0 0 (wX X ad F31 R32) [(0, .ref (ad 37)), (1, .int y17)] 88 [] := by
                intro F31 R32 oF31 fF31 oR32 fR32 zi88_0 hkJ88
                unfold K_X0_begin_88 at hkJ88
                have p33 : jv 0 7 (F31 601) := ⟨by have q0 := (jv_k (x := 6) 6 (by decide)).1; have q1 := (jv_k (x := 6) 6 (by decide)).2; have q2 := p20.1; have q3 := p20.2; have q4 := (jv_t (F31 601)).1; have q5 := (jv_t (F31 601)).2; have q6 := p24.1; have q7 := p24.2; have q8 := zi44_0; have q9 := (gc_nle zc21); have q10 := zi88_0; omega, by have q0 := (jv_k (x := 6) 6 (by decide)).1; have q1 := (jv_k (x := 6) 6 (by decide)).2; have q2 := p20.1; have q3 := p20.2; have q4 := (jv_t (F31 601)).1; have q5 := (jv_t (F31 601)).2; have q6 := p24.1; have q7 := p24.2; have q8 := zi44_0; have q9 := (gc_nle zc21); have q10 := zi88_0; omega⟩
                obtain ⟨x34, ex34⟩ : ∃ z : Int32, z = y17 + Int32.ofInt 1 := ⟨_, rfl⟩
                have hk35 := k_ls hkJ88 (show x34 = y17 + 1 from ex34)
                refine g_iinc cx x34 [(1, .int x34), (0, .ref (ad 37))] 1 e_X0_begin_88 rfl ex34.symm (by decide) rfl ?_
                have zx34 := jv_add 1 6 (show x34 = y17 + 1 from ex34) p24 (jv_k (x := 1) 1 (by decide)) (by decide)
                refine g_goto cx 44 e_X0_begin_91 (by decide) ?_
                refine g_lsub [1, 0] [(0, .ref (ad 37)), (1, .int x34)] rfl ?_
                exact ih44 F31 R32 x34 oF31 fF31 oR32 fR32 (jv_w zx34.2 (by decide)) (by have q0 := (jv_k (x := 1) 1 (by decide)).1; have q1 := (jv_k (x := 1) 1 (by decide)).2; have q2 := (jv_k (x := 6) 6 (by decide)).1; have q3 := (jv_k (x := 6) 6 (by decide)).2; have q4 := p20.1; have q5 := p20.2; have q6 := p33.1; have q7 := p33.2; have q8 := zx34.2.1; have q9 := zx34.2.2; have q10 := p24.1; have q11 := p24.2; have q12 := zi44_0; have q13 := (gc_nle zc21); have q14 := zi88_0; have q15 := (g_eq0 zx34.1); omega) (hk35.trans (by rw [hb44])) (Nat.lt_of_lt_of_le (show (2147483647 - x34.toInt).toNat < (2147483647 - y17.toInt).toNat from by have q0 := (jv_k (x := 1) 1 (by decide)).1; have q1 := (jv_k (x := 1) 1 (by decide)).2; have q2 := (jv_k (x := 6) 6 (by decide)).1; have q3 := (jv_k (x := 6) 6 (by decide)).2; have q4 := p20.1; have q5 := p20.2; have q6 := p33.1; have q7 := p33.2; have q8 := zx34.2.1; have q9 := zx34.2.2; have q10 := p24.1; have q11 := p24.2; have q12 := zi44_0; have q13 := (gc_nle zc21); have q14 := zi88_0; have q15 := (g_eq0 zx34.1); omega) (Nat.le_of_lt_succ hm44))
              refine g_if_eq cx 88 e_X0_begin_58 (by decide) (fun zc36 => ?_) (fun zc36 => ?_)
              · have p37 := gn_eq 0 0 (gc_eq zc36) pr26 (jv_k (x := 0) 0 (by decide)) (by decide)
                have hk38 := hk30.trans (if_pos zc36)
                exact J88 F18 R19 oF18 fF18 oR19 fR19 (by have q0 := (jv_k (x := 6) 6 (by decide)).1; have q1 := (jv_k (x := 6) 6 (by decide)).2; have q2 := p20.1; have q3 := p20.2; have q4 := p24.1; have q5 := p24.2; have q6 := zi44_0; have q7 := (gc_nle zc21); omega) hk38
              · have p39 := gn_neL 1 1 (gc_ne zc36) pr26 (jv_k (x := 0) 0 (by decide)) (by decide)
                have hk40 := hk30.trans (if_neg zc36)
                refine g_aload_n cx 0 rfl e_X0_begin_61 ?_
                refine g_get cx cl_X0 fl_X0_49 37 (.ref (ad 41)) e_X0_begin_62 rfl rfl ?_
                refine g_aload_n cx 0 rfl e_X0_begin_65 ?_
                refine g_get cx cl_X0 fl_X0_52 37 (.int (F18 601)) e_X0_begin_66 rfl rfl ?_
                refine g_aload_n cx 0 rfl e_X0_begin_69 ?_
                refine g_get cx cl_X0 fl_X0_12 37 (.ref (ad 5)) e_X0_begin_70 rfl rfl ?_
                refine g_iload_n cx 1 rfl e_X0_begin_73 ?_
                refine g_cViW cx [.int y17] [.int (F18 601), .ref (ad 41)] (w_X8_foldPlace_5 l X ad F18 R19 oF18 oR19 y17) ml_X0_97 yV_X8_foldPlace e_X0_begin_74 (by unfold g_rr; decide) (by decide) 5 rfl rfl rfl (Nat.le_of_ble_eq_true rfl) (fun r41 w42 h43 => ?_)
                obtain ⟨rfl, pr41, hx44⟩ := h43
                have hk45 := k_ls hk40 hx44
                refine g_iast cx 41 (wX X ad F18 (g_u R19 41 (upd (R19 41) (Int32.toNatClampNeg (F18 601)) r41))) e_X0_begin_77 rfl (vp_in_iff.mpr ⟨by have q0 := (jv_k (x := 6) 6 (by decide)).1; have q1 := (jv_k (x := 6) 6 (by decide)).2; have q2 := p20.1; have q3 := p20.2; have q4 := p24.1; have q5 := p24.2; have q6 := zi44_0; have q7 := (gc_nle zc21); omega, by have q0 := (jv_k (x := 6) 6 (by decide)).1; have q1 := (jv_k (x := 6) 6 (by decide)).2; have q2 := p20.1; have q3 := p20.2; have q4 := p24.1; have q5 := p24.2; have q6 := zi44_0; have q7 := (gc_nle zc21); omega⟩) rfl ?_
                obtain ⟨R46, hR46⟩ : ∃ z, z = g_u R19 41 (upd (R19 41) (Int32.toNatClampNeg (F18 601)) r41) := ⟨_, rfl⟩
                rw [← hR46]
                have hk47 := k_ls hk45 hR46
                have oR46 : g_okR LA_wX R46 := by rw [hR46]; exact g_okR_u oR19 rfl
                have fR46 : g_fr mr_X0_begin R R46 := by rw [hR46]; exact g_fr_r fR19 rfl
                refine g_aload_n cx 0 rfl e_X0_begin_78 ?_
                refine g_dup cx rfl e_X0_begin_79 ?_
                refine g_get cx cl_X0 fl_X0_52 37 (.int (F18 601)) e_X0_begin_80 rfl rfl ?_
                refine g_iconst cx 1 (by decide) e_X0_begin_83 ?_
                refine g_iadd cx e_X0_begin_84 ?_
                refine g_topi (fun x48 ex48 => ?_)
                have hk49 := k_ls hk47 ex48
                have zx48 := jv_add 1 7 ex48 p20 (jv_k (x := 1) 1 (by decide)) (by decide)
                refine g_put cx cl_X0 fl_X0_52 37 (wX X ad (upd F18 601 x48) R46) e_X0_begin_85 rfl rfl rfl rfl (Nat.le_of_ble_eq_true rfl) rfl ?_
                obtain ⟨F50, hF50⟩ : ∃ z, z = upd F18 601 x48 := ⟨_, rfl⟩
                rw [← hF50]
                have hk51 := k_ls hk49 hF50
                have oF50 : g_ok LK_wX F50 := by rw [hF50]; exact g_ok_u oF18 rfl
                have fF50 : g_fr md_X0_begin F F50 := by rw [hF50]; exact g_fr_u fF18 rfl
                exact J88 F50 R46 oF50 fF50 oR46 fR46 (by have q0 := (jv_k (x := 1) 1 (by decide)).1; have q1 := (jv_k (x := 1) 1 (by decide)).2; have q2 := (jv_k (x := 6) 6 (by decide)).1; have q3 := (jv_k (x := 6) 6 (by decide)).2; have q4 := p20.1; have q5 := p20.2; have q6 := (jv_t (F50 601)).1; have q7 := (jv_t (F50 601)).2; have q8 := zx48.2.1; have q9 := zx48.2.2; have q10 := p24.1; have q11 := p24.2; have q12 := zi44_0; have q13 := (gc_nle zc21); have q14 := (g_eq0 zx48.1); have q15 := (congrArg Int32.toInt (show F50 601 = x48 from (g_pu1 hF50))); omega) hk51
        refine g_lsub [1, 0] [(0, .ref (ad 37)), (1, .int 0)] rfl ?_
        exact J44 8589934592 F15 R11 0 oF15 fF15 oR11 fR11 (jv_w (jv_k (x := 0) 0 (by decide)) (by decide)) (by have q0 := (jv_k (x := 0) 0 (by decide)).1; have q1 := (jv_k (x := 0) 0 (by decide)).2; have q2 := (jv_t (F15 601)).1; have q3 := (jv_t (F15 601)).2; have q4 := (congrArg Int32.toInt (show F15 601 = 0 from (g_pu1 hF15))); omega) hk16 (show (2147483647 - (0 : Int32).toInt).toNat < 8589934592 from by have q0 := (jv_k (x := 0) 0 (by decide)).1; have q1 := (jv_k (x := 0) 0 (by decide)).2; omega)
      · have p52 := gn_lt 0 9 (gc_nle zc12) py10 (jv_k (x := 10) 10 (by decide)) (by decide)
        have hk53 := hkK18.trans (if_neg zc12)
        refine g_aload_n cx 0 rfl e_X0_begin_24 ?_
        refine g_get cx cl_X0 fl_X0_39 37 (.ref (ad 38)) e_X0_begin_25 rfl rfl ?_
        refine g_iload_n cx 1 rfl e_X0_begin_28 ?_
        refine g_iconst cx 0 (by decide) e_X0_begin_29 ?_
        refine g_iast cx 38 (wX X ad F8 (g_u R11 38 (upd (R11 38) (Int32.toNatClampNeg y10) 0))) e_X0_begin_30 rfl (jv_ix 10 p52 (by decide)) rfl ?_
        obtain ⟨R54, hR54⟩ : ∃ z, z = g_u R11 38 (upd (R11 38) (Int32.toNatClampNeg y10) 0) := ⟨_, rfl⟩
        rw [← hR54]
        have hk55 := k_ls hk53 hR54
        have oR54 : g_okR LA_wX R54 := by rw [hR54]; exact g_okR_u oR11 rfl
        have fR54 : g_fr mr_X0_begin R R54 := by rw [hR54]; exact g_fr_r fR11 rfl
        obtain ⟨x56, ex56⟩ : ∃ z : Int32, z = y10 + Int32.ofInt 1 := ⟨_, rfl⟩
        have hk57 := k_ls hk55 (show x56 = y10 + 1 from ex56)
        refine g_iinc cx x56 [(1, .int x56), (0, .ref (ad 37))] 1 e_X0_begin_31 rfl ex56.symm (by decide) rfl ?_
        have zx56 := jv_add 1 10 (show x56 = y10 + 1 from ex56) p52 (jv_k (x := 1) 1 (by decide)) (by decide)
        refine g_goto cx 18 e_X0_begin_34 (by decide) ?_
        refine g_lsub [1, 0] [(0, .ref (ad 37)), (1, .int x56)] rfl ?_
        exact ih18 R54 x56 oR54 fR54 (jv_w zx56.2 (by decide)) (hk57.trans (by rw [hb18])) (Nat.lt_of_lt_of_le (show (2147483647 - x56.toInt).toNat < (2147483647 - y10.toInt).toNat from by have q0 := (jv_k (x := 1) 1 (by decide)).1; have q1 := (jv_k (x := 1) 1 (by decide)).2; have q2 := (jv_k (x := 10) 10 (by decide)).1; have q3 := (jv_k (x := 10) 10 (by decide)).2; have q4 := zx56.2.1; have q5 := zx56.2.2; have q6 := p52.1; have q7 := p52.2; have q8 := (gc_nle zc12); have q9 := (g_eq0 zx56.1); omega) (Nat.le_of_lt_succ hm18))
  refine g_lsub [1, 0] [(0, .ref (ad 37)), (1, .int 0)] rfl ?_
  exact J18 8589934592 R6 0 oR6 fR6 (jv_w (jv_k (x := 0) 0 (by decide)) (by decide)) hk9 (show (2147483647 - (0 : Int32).toInt).toNat < 8589934592 from by have q0 := (jv_k (x := 0) 0 (by decide)).1; have q1 := (jv_k (x := 0) 0 (by decide)).2; omega)
def K_X5_paceAt_15_28  (y1 : Int32) : Int32 :=
  y1
def K_X5_paceAt_15_27   : Int32 :=
  K_X5_paceAt_15_28 0
def sp_X5_paceAt_15 (F : Nat → Int32) (R : Nat → Nat → Int32) (a0 : Int32) : Int32 :=
  if a0 < 0 then K_X5_paceAt_15_27 else if (F 241) ≤ a0 then K_X5_paceAt_15_27 else k_lt (R 16 (Int32.toNatClampNeg a0)) (fun x13 => K_X5_paceAt_15_28 x13)
set_option maxHeartbeats 4000000 in
set_option maxRecDepth 100000 in
theorem w_X5_paceAt_15 (l : Launch) (X : gX) (ad : Nat → Nat) (F : Nat → Int32) (R : Nat → Nat → Int32) (hI : g_ok LK_wX F) (hA : g_okR LA_wX R) (a0 : Int32) : g_Ci l X yX5_paceAt cX5_paceAt 2 (some .int) 1 0 0 [.ref (ad 15), .int a0] (wX X ad F R) (fun r w => w = wX X ad F R ∧ jv (-2147483648) 2147483647 r ∧ r = sp_X5_paceAt_15 F R a0) := by
  refine g_mi (by decide +kernel) (Nat.le_of_ble_eq_true rfl) (fun E cx hret => ?_)
  obtain ⟨SP, hSP⟩ : ∃ z, z = sp_X5_paceAt_15 F R a0 := ⟨_, rfl⟩
  have hk0 := hSP
  unfold sp_X5_paceAt_15 at hk0
  refine g_iload_n cx 1 rfl e_X5_paceAt_0 ?_
  have J28 : ∀ (y1 : Int32), (jv (-2147483648) 2147483647 y1) → (SP = K_X5_paceAt_15_28 y1) → G X E 2 0 0 (wX X ad F R) [] 28 [.int y1] := by
    intro y1 py1 hkJ28
    unfold K_X5_paceAt_15_28 at hkJ28
    exact hret e_X5_paceAt_28 (Nat.le_of_ble_eq_true rfl) (Nat.le_of_ble_eq_true rfl) rfl ⟨rfl, py1, (hkJ28.symm.trans hSP)⟩
  have J27 : (SP = K_X5_paceAt_15_27) → G X E 2 0 0 (wX X ad F R) [] 27 [] := by
    intro   hkJ27
    unfold K_X5_paceAt_15_27 at hkJ27
    refine g_iconst cx 0 (by decide) e_X5_paceAt_27 ?_
    exact J28 0 (jv_w (jv_k (x := 0) 0 (by decide)) (by decide)) hkJ27
  refine g_if_lt cx 27 e_X5_paceAt_1 (by decide) (fun zc2 => ?_) (fun zc2 => ?_)
  · have p3 := gn_lt (-2147483648) (-1) (gc_lt zc2) (jv_t a0) (jv_k (x := 0) 0 (by decide)) (by decide)
    have hk4 := hk0.trans (if_pos zc2)
    refine g_lsub [] [] rfl ?_
    exact J27  hk4
  · have p5 := gn_ge 0 2147483647 (gc_nlt zc2) (jv_t a0) (jv_k (x := 0) 0 (by decide)) (by decide)
    have hk6 := hk0.trans (if_neg zc2)
    refine g_iload_n cx 1 rfl e_X5_paceAt_4 ?_
    refine g_aload_n cx 0 rfl e_X5_paceAt_5 ?_
    refine g_get cx cl_X5 fl_X5_15 15 (.int (F 241)) e_X5_paceAt_6 rfl rfl ?_
    refine g_icmp_ge cx 27 e_X5_paceAt_9 (by decide) (fun zc7 => ?_) (fun zc7 => ?_)
    · have hk8 := hk6.trans (if_pos zc7)
      refine g_lsub [] [] rfl ?_
      exact J27  hk8
    · have p9 := gn_lt 0 59 (gc_nle zc7) p5 (g_ok_g hI 4 rfl) (by decide)
      have p10 := gn_gt 1 60 (gc_nle zc7) (g_ok_g hI 4 rfl) p5 (by decide)
      have hk11 := hk6.trans (if_neg zc7)
      refine g_iload_n cx 1 rfl e_X5_paceAt_12 ?_
      refine g_bipush cx 60 (by decide) e_X5_paceAt_13 ?_
      refine g_icmp_ge cx 27 e_X5_paceAt_15 (by decide) (fun zc12 => ?_) (fun zc12 => ?_)
      · exact (gf_le (gc_le zc12) (jv_k (x := 60) 60 (by decide)) p9 (by decide)).elim
      · refine g_aload_n cx 0 rfl e_X5_paceAt_18 ?_
        refine g_get cx cl_X5 fl_X5_9 15 (.ref (ad 16)) e_X5_paceAt_19 rfl rfl ?_
        refine g_iload_n cx 1 rfl e_X5_paceAt_22 ?_
        refine g_iald cx 16 e_X5_paceAt_23 rfl (jv_ix 60 p9 (by decide)) ?_
        refine g_topi (fun x13 ex13 => ?_)
        have hk14 := k_ls hk11 ex13
        refine g_goto cx 28 e_X5_paceAt_24 (by decide) ?_
        refine g_lsub [] [] rfl ?_
        exact J28 x13 (jv_t x13) hk14
def K_X0_pullCloth_98 (r1 : Int32) (F21 : Nat → Int32) (R22 : Nat → Nat → Int32) (y20 : Int32) : (Nat → Int32) × (Nat → Nat → Int32) :=
  k_lt (r1 - y20) (fun x23 => k_lt (if 0 < x23 then x23 else 0) (fun x25 => k_lt (upd F21 604 x25) (fun F27 => k_lt ((F21 603) + x25) (fun x29 => k_lt (upd F27 603 x29) (fun F31 => k_lt ((F21 698) - x25) (fun x33 => k_lt (if 0 < x33 then x33 else 0) (fun x35 => k_lt (upd F31 698 x35) (fun F37 => (F37, R22)))))))))
def K_X0_pullCloth_32 (a0 : Int32) (r1 : Int32) (F7 : Nat → Int32) (R8 : Nat → Nat → Int32) (y6 : Int32) : (Nat → Int32) × (Nat → Nat → Int32) :=
  k_lt2 (sp_X2_forget_17 F7 R8) (fun F13 R14 => k_lt (g_u R14 23 (upd (R14 23) 0 a0)) (fun R16 => k_lt (g_u R16 23 (upd (R16 23) 1 r1)) (fun R18 => if y6 = (-1) then K_X0_pullCloth_98 r1 F13 R18 0 else k_lt (g_u R18 23 (upd (R18 23) 2 y6)) (fun R43 => k_lt3 (sp_X2_ask_17 F13 R43 2) (fun r45 F49 R50 => k_lt (g_u R50 23 (upd (R50 23) 2 0)) (fun R52 => K_X0_pullCloth_98 r1 F49 R52 r45))))))
def sp_X0_pullCloth (F : Nat → Int32) (R : Nat → Nat → Int32) (a0 : Int32) : (Nat → Int32) × (Nat → Nat → Int32) :=
  k_lt (sp_X5_paceAt_15 F R a0) (fun r1 => if (F 241) ≤ a0 then K_X0_pullCloth_32 a0 r1 F R (-1) else k_lt3 (sp_X1_draw F R a0) (fun r59 F63 R64 => K_X0_pullCloth_32 a0 r1 F63 R64 r59))
theorem e_X0_pullCloth_0 : g_dc cX0_pullCloth 0 (.aload_n 0) 1 1 := ⟨by decide +kernel, rfl⟩
theorem e_X0_pullCloth_1 : g_dc cX0_pullCloth 1 (.getfield 21) 3 4 := ⟨by decide +kernel, rfl⟩
theorem e_X0_pullCloth_4 : g_dc cX0_pullCloth 4 (.iload_n 1) 1 5 := ⟨by decide +kernel, rfl⟩
theorem e_X0_pullCloth_5 : g_dc cX0_pullCloth 5 (.invokevirtual 135) 3 8 := ⟨by decide +kernel, rfl⟩
theorem e_X0_pullCloth_8 : g_dc cX0_pullCloth 8 (.istore_n 2) 1 9 := ⟨by decide +kernel, rfl⟩
theorem e_X0_pullCloth_9 : g_dc cX0_pullCloth 9 (.iload_n 1) 1 10 := ⟨by decide +kernel, rfl⟩
theorem e_X0_pullCloth_10 : g_dc cX0_pullCloth 10 (.aload_n 0) 1 11 := ⟨by decide +kernel, rfl⟩
theorem e_X0_pullCloth_11 : g_dc cX0_pullCloth 11 (.getfield 21) 3 14 := ⟨by decide +kernel, rfl⟩
theorem e_X0_pullCloth_14 : g_dc cX0_pullCloth 14 (.getfield 78) 3 17 := ⟨by decide +kernel, rfl⟩
theorem e_X0_pullCloth_17 : g_dc cX0_pullCloth 17 (.if_icmp .ge 14) 3 20 := ⟨by decide +kernel, rfl⟩
theorem e_X0_pullCloth_20 : g_dc cX0_pullCloth 20 (.aload_n 0) 1 21 := ⟨by decide +kernel, rfl⟩
theorem e_X0_pullCloth_21 : g_dc cX0_pullCloth 21 (.getfield 28) 3 24 := ⟨by decide +kernel, rfl⟩
theorem e_X0_pullCloth_24 : g_dc cX0_pullCloth 24 (.iload_n 1) 1 25 := ⟨by decide +kernel, rfl⟩
theorem e_X0_pullCloth_25 : g_dc cX0_pullCloth 25 (.invokevirtual 138) 3 28 := ⟨by decide +kernel, rfl⟩
theorem e_X0_pullCloth_28 : g_dc cX0_pullCloth 28 (.goto 4) 3 31 := ⟨by decide +kernel, rfl⟩
theorem e_X0_pullCloth_31 : g_dc cX0_pullCloth 31 (.iconst (-1)) 1 32 := ⟨by decide +kernel, rfl⟩
theorem e_X0_pullCloth_32 : g_dc cX0_pullCloth 32 (.istore_n 3) 1 33 := ⟨by decide +kernel, rfl⟩
theorem e_X0_pullCloth_33 : g_dc cX0_pullCloth 33 (.iconst 0) 1 34 := ⟨by decide +kernel, rfl⟩
theorem e_X0_pullCloth_34 : g_dc cX0_pullCloth 34 (.istore 4) 2 36 := ⟨by decide +kernel, rfl⟩
theorem e_X0_pullCloth_36 : g_dc cX0_pullCloth 36 (.aload_n 0) 1 37 := ⟨by decide +kernel, rfl⟩
theorem e_X0_pullCloth_37 : g_dc cX0_pullCloth 37 (.getfield 71) 3 40 := ⟨by decide +kernel, rfl⟩
theorem e_X0_pullCloth_40 : g_dc cX0_pullCloth 40 (.invokevirtual 141) 3 43 := ⟨by decide +kernel, rfl⟩
theorem e_X0_pullCloth_43 : g_dc cX0_pullCloth 43 (.aload_n 0) 1 44 := ⟨by decide +kernel, rfl⟩
theorem e_X0_pullCloth_44 : g_dc cX0_pullCloth 44 (.getfield 71) 3 47 := ⟨by decide +kernel, rfl⟩
theorem e_X0_pullCloth_47 : g_dc cX0_pullCloth 47 (.getfield 146) 3 50 := ⟨by decide +kernel, rfl⟩
theorem e_X0_pullCloth_50 : g_dc cX0_pullCloth 50 (.iconst 0) 1 51 := ⟨by decide +kernel, rfl⟩
theorem e_X0_pullCloth_51 : g_dc cX0_pullCloth 51 (.iload_n 1) 1 52 := ⟨by decide +kernel, rfl⟩
theorem e_X0_pullCloth_52 : g_dc cX0_pullCloth 52 (.iastore) 1 53 := ⟨by decide +kernel, rfl⟩
theorem e_X0_pullCloth_53 : g_dc cX0_pullCloth 53 (.aload_n 0) 1 54 := ⟨by decide +kernel, rfl⟩
theorem e_X0_pullCloth_54 : g_dc cX0_pullCloth 54 (.getfield 71) 3 57 := ⟨by decide +kernel, rfl⟩
theorem e_X0_pullCloth_57 : g_dc cX0_pullCloth 57 (.getfield 146) 3 60 := ⟨by decide +kernel, rfl⟩
theorem e_X0_pullCloth_60 : g_dc cX0_pullCloth 60 (.iconst 1) 1 61 := ⟨by decide +kernel, rfl⟩
theorem e_X0_pullCloth_61 : g_dc cX0_pullCloth 61 (.iload_n 2) 1 62 := ⟨by decide +kernel, rfl⟩
theorem e_X0_pullCloth_62 : g_dc cX0_pullCloth 62 (.iastore) 1 63 := ⟨by decide +kernel, rfl⟩
theorem e_X0_pullCloth_63 : g_dc cX0_pullCloth 63 (.iload_n 3) 1 64 := ⟨by decide +kernel, rfl⟩
theorem e_X0_pullCloth_64 : g_dc cX0_pullCloth 64 (.iconst (-1)) 1 65 := ⟨by decide +kernel, rfl⟩
theorem e_X0_pullCloth_65 : g_dc cX0_pullCloth 65 (.if_icmp .eq 33) 3 68 := ⟨by decide +kernel, rfl⟩
theorem e_X0_pullCloth_68 : g_dc cX0_pullCloth 68 (.aload_n 0) 1 69 := ⟨by decide +kernel, rfl⟩
theorem e_X0_pullCloth_69 : g_dc cX0_pullCloth 69 (.getfield 71) 3 72 := ⟨by decide +kernel, rfl⟩
theorem e_X0_pullCloth_72 : g_dc cX0_pullCloth 72 (.getfield 146) 3 75 := ⟨by decide +kernel, rfl⟩
theorem e_X0_pullCloth_75 : g_dc cX0_pullCloth 75 (.iconst 2) 1 76 := ⟨by decide +kernel, rfl⟩
theorem e_X0_pullCloth_76 : g_dc cX0_pullCloth 76 (.iload_n 3) 1 77 := ⟨by decide +kernel, rfl⟩
theorem e_X0_pullCloth_77 : g_dc cX0_pullCloth 77 (.iastore) 1 78 := ⟨by decide +kernel, rfl⟩
theorem e_X0_pullCloth_78 : g_dc cX0_pullCloth 78 (.aload_n 0) 1 79 := ⟨by decide +kernel, rfl⟩
theorem e_X0_pullCloth_79 : g_dc cX0_pullCloth 79 (.getfield 71) 3 82 := ⟨by decide +kernel, rfl⟩
theorem e_X0_pullCloth_82 : g_dc cX0_pullCloth 82 (.iconst 2) 1 83 := ⟨by decide +kernel, rfl⟩
theorem e_X0_pullCloth_83 : g_dc cX0_pullCloth 83 (.invokevirtual 149) 3 86 := ⟨by decide +kernel, rfl⟩
theorem e_X0_pullCloth_86 : g_dc cX0_pullCloth 86 (.istore 4) 2 88 := ⟨by decide +kernel, rfl⟩
theorem e_X0_pullCloth_88 : g_dc cX0_pullCloth 88 (.aload_n 0) 1 89 := ⟨by decide +kernel, rfl⟩
theorem e_X0_pullCloth_89 : g_dc cX0_pullCloth 89 (.getfield 71) 3 92 := ⟨by decide +kernel, rfl⟩
theorem e_X0_pullCloth_92 : g_dc cX0_pullCloth 92 (.getfield 146) 3 95 := ⟨by decide +kernel, rfl⟩
theorem e_X0_pullCloth_95 : g_dc cX0_pullCloth 95 (.iconst 2) 1 96 := ⟨by decide +kernel, rfl⟩
theorem e_X0_pullCloth_96 : g_dc cX0_pullCloth 96 (.iconst 0) 1 97 := ⟨by decide +kernel, rfl⟩
theorem e_X0_pullCloth_97 : g_dc cX0_pullCloth 97 (.iastore) 1 98 := ⟨by decide +kernel, rfl⟩
theorem e_X0_pullCloth_98 : g_dc cX0_pullCloth 98 (.aload_n 0) 1 99 := ⟨by decide +kernel, rfl⟩
theorem e_X0_pullCloth_99 : g_dc cX0_pullCloth 99 (.iconst 0) 1 100 := ⟨by decide +kernel, rfl⟩
theorem e_X0_pullCloth_100 : g_dc cX0_pullCloth 100 (.iload_n 2) 1 101 := ⟨by decide +kernel, rfl⟩
theorem e_X0_pullCloth_101 : g_dc cX0_pullCloth 101 (.iload 4) 2 103 := ⟨by decide +kernel, rfl⟩
theorem e_X0_pullCloth_103 : g_dc cX0_pullCloth 103 (.isub) 1 104 := ⟨by decide +kernel, rfl⟩
theorem e_X0_pullCloth_104 : g_dc cX0_pullCloth 104 (.invokestatic 152) 3 107 := ⟨by decide +kernel, rfl⟩
theorem e_X0_pullCloth_107 : g_dc cX0_pullCloth 107 (.putfield 62) 3 110 := ⟨by decide +kernel, rfl⟩
theorem e_X0_pullCloth_110 : g_dc cX0_pullCloth 110 (.aload_n 0) 1 111 := ⟨by decide +kernel, rfl⟩
theorem e_X0_pullCloth_111 : g_dc cX0_pullCloth 111 (.dup) 1 112 := ⟨by decide +kernel, rfl⟩
theorem e_X0_pullCloth_112 : g_dc cX0_pullCloth 112 (.getfield 59) 3 115 := ⟨by decide +kernel, rfl⟩
theorem e_X0_pullCloth_115 : g_dc cX0_pullCloth 115 (.aload_n 0) 1 116 := ⟨by decide +kernel, rfl⟩
theorem e_X0_pullCloth_116 : g_dc cX0_pullCloth 116 (.getfield 62) 3 119 := ⟨by decide +kernel, rfl⟩
theorem e_X0_pullCloth_119 : g_dc cX0_pullCloth 119 (.iadd) 1 120 := ⟨by decide +kernel, rfl⟩
theorem e_X0_pullCloth_120 : g_dc cX0_pullCloth 120 (.putfield 59) 3 123 := ⟨by decide +kernel, rfl⟩
theorem e_X0_pullCloth_123 : g_dc cX0_pullCloth 123 (.aload_n 0) 1 124 := ⟨by decide +kernel, rfl⟩
theorem e_X0_pullCloth_124 : g_dc cX0_pullCloth 124 (.getfield 35) 3 127 := ⟨by decide +kernel, rfl⟩
theorem e_X0_pullCloth_127 : g_dc cX0_pullCloth 127 (.iconst 0) 1 128 := ⟨by decide +kernel, rfl⟩
theorem e_X0_pullCloth_128 : g_dc cX0_pullCloth 128 (.aload_n 0) 1 129 := ⟨by decide +kernel, rfl⟩
theorem e_X0_pullCloth_129 : g_dc cX0_pullCloth 129 (.getfield 35) 3 132 := ⟨by decide +kernel, rfl⟩
theorem e_X0_pullCloth_132 : g_dc cX0_pullCloth 132 (.getfield 156) 3 135 := ⟨by decide +kernel, rfl⟩
theorem e_X0_pullCloth_135 : g_dc cX0_pullCloth 135 (.aload_n 0) 1 136 := ⟨by decide +kernel, rfl⟩
theorem e_X0_pullCloth_136 : g_dc cX0_pullCloth 136 (.getfield 62) 3 139 := ⟨by decide +kernel, rfl⟩
theorem e_X0_pullCloth_139 : g_dc cX0_pullCloth 139 (.isub) 1 140 := ⟨by decide +kernel, rfl⟩
theorem e_X0_pullCloth_140 : g_dc cX0_pullCloth 140 (.invokestatic 152) 3 143 := ⟨by decide +kernel, rfl⟩
theorem e_X0_pullCloth_143 : g_dc cX0_pullCloth 143 (.putfield 156) 3 146 := ⟨by decide +kernel, rfl⟩
theorem e_X0_pullCloth_146 : g_dc cX0_pullCloth 146 (.return_) 1 147 := ⟨by decide +kernel, rfl⟩
def md_X0_pullCloth : List Nat := [603, 604, 673, 675, 698]
def mr_X0_pullCloth : List Nat := [23, 24]
set_option maxHeartbeats 4000000 in
set_option maxRecDepth 100000 in
theorem w_X0_pullCloth (l : Launch) (X : gX) (ad : Nat → Nat) (F : Nat → Int32) (R : Nat → Nat → Int32) (hI : g_ok LK_wX F) (hA : g_okR LA_wX R) (a0 : Int32) : g_Cv l X yX0_pullCloth cX0_pullCloth 5 4 0 0 [.ref (ad 37), .int a0] (wX X ad F R) (fun w => ∃ (F' : Nat → Int32) (R' : Nat → Nat → Int32), w = wX X ad F' R' ∧ g_ok LK_wX F' ∧ g_okR LA_wX R' ∧ g_fr md_X0_pullCloth F F' ∧ g_fr mr_X0_pullCloth R R' ∧ (F', R') = sp_X0_pullCloth F R a0) := by
  refine g_mv (by decide +kernel) (Nat.le_of_ble_eq_true rfl) (fun E cx hret => ?_)
  obtain ⟨SP, hSP⟩ : ∃ z, z = sp_X0_pullCloth F R a0 := ⟨_, rfl⟩
  have hk0 := hSP
  unfold sp_X0_pullCloth at hk0
  refine g_aload_n cx 0 rfl e_X0_pullCloth_0 ?_
  refine g_get cx cl_X0 fl_X0_21 37 (.ref (ad 15)) e_X0_pullCloth_1 rfl rfl ?_
  refine g_iload_n cx 1 rfl e_X0_pullCloth_4 ?_
  refine g_cViW cx [.int a0] [] (w_X5_paceAt_15 l X ad F R hI hA a0) ml_X0_135 yV_X5_paceAt e_X0_pullCloth_5 (by unfold g_rr; decide) (by decide) 15 rfl rfl rfl (Nat.le_of_ble_eq_true rfl) (fun r1 w2 h3 => ?_)
  obtain ⟨rfl, pr1, hx4⟩ := h3
  have hk5 := k_ls hk0 hx4
  refine g_istore_n cx [(2, .int r1), (0, .ref (ad 37)), (1, .int a0)] e_X0_pullCloth_8 (by decide) rfl ?_
  refine g_iload_n cx 2 rfl e_X0_pullCloth_9 ?_
  refine g_aload_n cx 1 rfl e_X0_pullCloth_10 ?_
  refine g_get cx cl_X0 fl_X0_21 37 (.ref (ad 15)) e_X0_pullCloth_11 rfl rfl ?_
  refine g_getN cx cl_X5 fn_X0_78 15 (.int (F 241)) e_X0_pullCloth_14 rfl rfl ?_
  have J32 : ∀ (F7 : Nat → Int32) (R8 : Nat → Nat → Int32) (y6 : Int32), (g_ok LK_wX F7) → (g_fr md_X0_pullCloth F F7) → (g_okR LA_wX R8) → (g_fr mr_X0_pullCloth R R8) → (jv (-2147483648) 2147483647 y6) → (SP = K_X0_pullCloth_32 a0 r1 F7 R8 y6) → G X E 5 0 0 (wX X ad F7 R8) [(0, .ref (ad 37)), (1, .int a0), (2, .int r1)] 32 [.int y6] := by
    intro F7 R8 y6 oF7 fF7 oR8 fR8 py6 hkJ32
    unfold K_X0_pullCloth_32 at hkJ32
    refine g_istore_n cx [(3, .int y6), (0, .ref (ad 37)), (1, .int a0), (2, .int r1)] e_X0_pullCloth_32 (by decide) rfl ?_
    refine g_iconst cx 0 (by decide) e_X0_pullCloth_33 ?_
    refine g_istore cx [(4, .int 0), (3, .int y6), (0, .ref (ad 37)), (1, .int a0), (2, .int r1)] e_X0_pullCloth_34 (by decide) rfl ?_
    refine g_aload_n cx 2 rfl e_X0_pullCloth_36 ?_
    refine g_get cx cl_X0 fl_X0_71 37 (.ref (ad 17)) e_X0_pullCloth_37 rfl rfl ?_
    refine g_cVvW cx [] [] (w_X2_forget_17 l X ad F7 R8 oF7 oR8) ml_X0_141 yV_X2_forget e_X0_pullCloth_40 (by unfold g_rr; decide) (by decide) 17 rfl rfl rfl (Nat.le_of_ble_eq_true rfl) (fun w10 h11 => ?_)
    obtain ⟨F13, R14, rfl, oF13, oR14, cF13, cR14, hx12⟩ := h11
    have hk15 := k_ls2 hkJ32 hx12
    have fF13 : g_fr md_X0_pullCloth F F13 := g_fr_c fF7 cF13 rfl
    have fR14 : g_fr mr_X0_pullCloth R R14 := g_fr_c fR8 cR14 rfl
    refine g_aload_n cx 2 rfl e_X0_pullCloth_43 ?_
    refine g_get cx cl_X0 fl_X0_71 37 (.ref (ad 17)) e_X0_pullCloth_44 rfl rfl ?_
    refine g_getN cx cl_X2 fn_X0_146 17 (.ref (ad 23)) e_X0_pullCloth_47 rfl rfl ?_
    refine g_iconst cx 0 (by decide) e_X0_pullCloth_50 ?_
    refine g_iload_n cx 3 rfl e_X0_pullCloth_51 ?_
    refine g_iast cx 23 (wX X ad F13 (g_u R14 23 (upd (R14 23) 0 a0))) e_X0_pullCloth_52 rfl (jv_ix 12 (jv_k (x := 0) 0 (by decide)) (by decide)) rfl ?_
    obtain ⟨R16, hR16⟩ : ∃ z, z = g_u R14 23 (upd (R14 23) 0 a0) := ⟨_, rfl⟩
    rw [← hR16]
    have hk17 := k_ls hk15 hR16
    have oR16 : g_okR LA_wX R16 := by rw [hR16]; exact g_okR_u oR14 rfl
    have fR16 : g_fr mr_X0_pullCloth R R16 := by rw [hR16]; exact g_fr_r fR14 rfl
    refine g_aload_n cx 2 rfl e_X0_pullCloth_53 ?_
    refine g_get cx cl_X0 fl_X0_71 37 (.ref (ad 17)) e_X0_pullCloth_54 rfl rfl ?_
    refine g_getN cx cl_X2 fn_X0_146 17 (.ref (ad 23)) e_X0_pullCloth_57 rfl rfl ?_
    refine g_iconst cx 1 (by decide) e_X0_pullCloth_60 ?_
    refine g_iload_n cx 4 rfl e_X0_pullCloth_61 ?_
    refine g_iast cx 23 (wX X ad F13 (g_u R16 23 (upd (R16 23) 1 r1))) e_X0_pullCloth_62 rfl (jv_ix 12 (jv_k (x := 1) 1 (by decide)) (by decide)) rfl ?_
    obtain ⟨R18, hR18⟩ : ∃ z, z = g_u R16 23 (upd (R16 23) 1 r1) := ⟨_, rfl⟩
    rw [← hR18]
    have hk19 := k_ls hk17 hR18
    have oR18 : g_okR LA_wX R18 := by rw [hR18]; exact g_okR_u oR16 rfl
    have fR18 : g_fr mr_X0_pullCloth R R18 := by rw [hR18]; exact g_fr_r fR16 rfl
    refine g_iload_n cx 1 rfl e_X0_pullCloth_63 ?_
    refine g_iconst cx (-1) (by decide) e_X0_pullCloth_64 ?_
    have J98 : ∀ (F21 : Nat → Int32) (R22 : Nat → Nat → Int32) (y20 : Int32), (g_ok LK_wX F21) → (g_fr md_X0_pullCloth F F21) → (g_okR LA_wX R22) → (g_fr mr_X0_pullCloth R R22) → (jv 0 2147483647 y20) → (SP = K_X0_pullCloth_98 r1 F21 R22 y20) → G X E 5 0 0 (wX X ad F21 R22) [(0, .ref (ad 37)), (2, .int r1), (4, .int y20)] 98 [] := by
      intro F21 R22 y20 oF21 fF21 oR22 fR22 py20 hkJ98
      unfold K_X0_pullCloth_98 at hkJ98
      refine g_aload_n cx 0 rfl e_X0_pullCloth_98 ?_
      refine g_iconst cx 0 (by decide) e_X0_pullCloth_99 ?_
      refine g_iload_n cx 1 rfl e_X0_pullCloth_100 ?_
      refine g_iload cx 2 rfl e_X0_pullCloth_101 ?_
      refine g_isub cx e_X0_pullCloth_103 ?_
      refine g_topi (fun x23 ex23 => ?_)
      have hk24 := k_ls hkJ98 ex23
      refine g_mmax cx ml_X0_152 e_X0_pullCloth_104 ⟨Nat.le_of_ble_eq_true rfl, Nat.le_of_ble_eq_true rfl⟩ (by decide) ?_
      refine g_topi (fun x25 ex25 => ?_)
      have hk26 := k_ls hk24 ex25
      have px25 := jv_max 0 2147483647 ex25 (jv_k (x := 0) 0 (by decide)) (jv_t x23) (by decide)
      refine g_put cx cl_X0 fl_X0_62 37 (wX X ad (upd F21 604 x25) R22) e_X0_pullCloth_107 rfl rfl rfl rfl (Nat.le_of_ble_eq_true rfl) rfl ?_
      obtain ⟨F27, hF27⟩ : ∃ z, z = upd F21 604 x25 := ⟨_, rfl⟩
      rw [← hF27]
      have hk28 := k_ls hk26 hF27
      have oF27 : g_ok LK_wX F27 := by rw [hF27]; exact g_ok_u oF21 rfl
      have fF27 : g_fr md_X0_pullCloth F F27 := by rw [hF27]; exact g_fr_u fF21 rfl
      refine g_aload_n cx 0 rfl e_X0_pullCloth_110 ?_
      refine g_dup cx rfl e_X0_pullCloth_111 ?_
      refine g_get cx cl_X0 fl_X0_59 37 (.int (F27 603)) e_X0_pullCloth_112 rfl rfl ?_
      refine g_toi (F21 603) (g_pu2 hF27 rfl) ?_
      refine g_aload_n cx 0 rfl e_X0_pullCloth_115 ?_
      refine g_get cx cl_X0 fl_X0_62 37 (.int (F27 604)) e_X0_pullCloth_116 rfl rfl ?_
      refine g_toi x25 (g_pu1 hF27) ?_
      refine g_iadd cx e_X0_pullCloth_119 ?_
      refine g_topi (fun x29 ex29 => ?_)
      have hk30 := k_ls hk28 ex29
      refine g_put cx cl_X0 fl_X0_59 37 (wX X ad (upd F27 603 x29) R22) e_X0_pullCloth_120 rfl rfl rfl rfl (Nat.le_of_ble_eq_true rfl) rfl ?_
      obtain ⟨F31, hF31⟩ : ∃ z, z = upd F27 603 x29 := ⟨_, rfl⟩
      rw [← hF31]
      have hk32 := k_ls hk30 hF31
      have oF31 : g_ok LK_wX F31 := by rw [hF31]; exact g_ok_u oF27 rfl
      have fF31 : g_fr md_X0_pullCloth F F31 := by rw [hF31]; exact g_fr_u fF27 rfl
      refine g_aload_n cx 0 rfl e_X0_pullCloth_123 ?_
      refine g_get cx cl_X0 fl_X0_35 37 (.ref (ad 43)) e_X0_pullCloth_124 rfl rfl ?_
      refine g_iconst cx 0 (by decide) e_X0_pullCloth_127 ?_
      refine g_aload_n cx 0 rfl e_X0_pullCloth_128 ?_
      refine g_get cx cl_X0 fl_X0_35 37 (.ref (ad 43)) e_X0_pullCloth_129 rfl rfl ?_
      refine g_getN cx cl_X4 fn_X0_156 43 (.int (F31 698)) e_X0_pullCloth_132 rfl rfl ?_
      refine g_toi (F21 698) ((g_pu2 hF31 rfl).trans (g_pu2 hF27 rfl)) ?_
      refine g_aload_n cx 0 rfl e_X0_pullCloth_135 ?_
      refine g_get cx cl_X0 fl_X0_62 37 (.int (F31 604)) e_X0_pullCloth_136 rfl rfl ?_
      refine g_toi x25 ((g_pu2 hF31 rfl).trans (g_pu1 hF27)) ?_
      refine g_isub cx e_X0_pullCloth_139 ?_
      refine g_topi (fun x33 ex33 => ?_)
      have hk34 := k_ls hk32 ex33
      refine g_mmax cx ml_X0_152 e_X0_pullCloth_140 ⟨Nat.le_of_ble_eq_true rfl, Nat.le_of_ble_eq_true rfl⟩ (by decide) ?_
      refine g_topi (fun x35 ex35 => ?_)
      have hk36 := k_ls hk34 ex35
      have px35 := jv_max 0 2147483647 ex35 (jv_k (x := 0) 0 (by decide)) (jv_t x33) (by decide)
      refine g_putN cx cl_X4 fn_X0_156 43 (wX X ad (upd F31 698 x35) R22) e_X0_pullCloth_143 rfl rfl rfl rfl (Nat.le_of_ble_eq_true rfl) rfl ?_
      obtain ⟨F37, hF37⟩ : ∃ z, z = upd F31 698 x35 := ⟨_, rfl⟩
      rw [← hF37]
      have hk38 := k_ls hk36 hF37
      have oF37 : g_ok LK_wX F37 := by rw [hF37]; exact g_ok_u oF31 rfl
      have fF37 : g_fr md_X0_pullCloth F F37 := by rw [hF37]; exact g_fr_u fF31 rfl
      exact hret e_X0_pullCloth_146 (Nat.le_of_ble_eq_true rfl) (Nat.le_of_ble_eq_true rfl) ⟨F37, R22, rfl, oF37, oR22, fF37, fR22, (hk38.symm.trans hSP)⟩
    refine g_icmp_eq cx 98 e_X0_pullCloth_65 (by decide) (fun zc39 => ?_) (fun zc39 => ?_)
    · have p40 := gn_eq (-1) (-1) (gc_eq zc39) py6 (jv_k (x := (-1)) (-1) (by decide)) (by decide)
      have hk41 := hk19.trans (if_pos zc39)
      refine g_lsub [2, 4, 0] [(0, .ref (ad 37)), (2, .int r1), (4, .int 0)] rfl ?_
      exact J98 F13 R18 0 oF13 fF13 oR18 fR18 (jv_w (jv_k (x := 0) 0 (by decide)) (by decide)) hk41
    · have hk42 := hk19.trans (if_neg zc39)
      refine g_aload_n cx 2 rfl e_X0_pullCloth_68 ?_
      refine g_get cx cl_X0 fl_X0_71 37 (.ref (ad 17)) e_X0_pullCloth_69 rfl rfl ?_
      refine g_getN cx cl_X2 fn_X0_146 17 (.ref (ad 23)) e_X0_pullCloth_72 rfl rfl ?_
      refine g_iconst cx 2 (by decide) e_X0_pullCloth_75 ?_
      refine g_iload_n cx 1 rfl e_X0_pullCloth_76 ?_
      refine g_iast cx 23 (wX X ad F13 (g_u R18 23 (upd (R18 23) 2 y6))) e_X0_pullCloth_77 rfl (jv_ix 12 (jv_k (x := 2) 2 (by decide)) (by decide)) rfl ?_
      obtain ⟨R43, hR43⟩ : ∃ z, z = g_u R18 23 (upd (R18 23) 2 y6) := ⟨_, rfl⟩
      rw [← hR43]
      have hk44 := k_ls hk42 hR43
      have oR43 : g_okR LA_wX R43 := by rw [hR43]; exact g_okR_u oR18 rfl
      have fR43 : g_fr mr_X0_pullCloth R R43 := by rw [hR43]; exact g_fr_r fR18 rfl
      refine g_aload_n cx 2 rfl e_X0_pullCloth_78 ?_
      refine g_get cx cl_X0 fl_X0_71 37 (.ref (ad 17)) e_X0_pullCloth_79 rfl rfl ?_
      refine g_iconst cx 2 (by decide) e_X0_pullCloth_82 ?_
      refine g_cViW cx [.int 2] [] (w_X2_ask_17 l X ad F13 R43 oF13 oR43 2) ml_X0_149 yV_X2_ask e_X0_pullCloth_83 (by unfold g_rr; decide) (by decide) 17 rfl rfl rfl (Nat.le_of_ble_eq_true rfl) (fun r45 w46 h47 => ?_)
      obtain ⟨F49, R50, rfl, oF49, oR50, cF49, cR50, pr45, hx48⟩ := h47
      have hk51 := k_ls3 hk44 hx48
      have fF49 : g_fr md_X0_pullCloth F F49 := g_fr_c fF13 cF49 rfl
      have fR50 : g_fr mr_X0_pullCloth R R50 := g_fr_c fR43 cR50 rfl
      refine g_istore cx [(4, .int r45), (3, .int y6), (0, .ref (ad 37)), (1, .int a0), (2, .int r1)] e_X0_pullCloth_86 (by decide) rfl ?_
      refine g_aload_n cx 2 rfl e_X0_pullCloth_88 ?_
      refine g_get cx cl_X0 fl_X0_71 37 (.ref (ad 17)) e_X0_pullCloth_89 rfl rfl ?_
      refine g_getN cx cl_X2 fn_X0_146 17 (.ref (ad 23)) e_X0_pullCloth_92 rfl rfl ?_
      refine g_iconst cx 2 (by decide) e_X0_pullCloth_95 ?_
      refine g_iconst cx 0 (by decide) e_X0_pullCloth_96 ?_
      refine g_iast cx 23 (wX X ad F49 (g_u R50 23 (upd (R50 23) 2 0))) e_X0_pullCloth_97 rfl (jv_ix 12 (jv_k (x := 2) 2 (by decide)) (by decide)) rfl ?_
      obtain ⟨R52, hR52⟩ : ∃ z, z = g_u R50 23 (upd (R50 23) 2 0) := ⟨_, rfl⟩
      rw [← hR52]
      have hk53 := k_ls hk51 hR52
      have oR52 : g_okR LA_wX R52 := by rw [hR52]; exact g_okR_u oR50 rfl
      have fR52 : g_fr mr_X0_pullCloth R R52 := by rw [hR52]; exact g_fr_r fR50 rfl
      refine g_lsub [2, 4, 0] [(0, .ref (ad 37)), (2, .int r1), (4, .int r45)] rfl ?_
      exact J98 F49 R52 r45 oF49 fF49 oR52 fR52 (jv_w pr45 (by decide)) hk53
  refine g_icmp_ge cx 31 e_X0_pullCloth_17 (by decide) (fun zc54 => ?_) (fun zc54 => ?_)
  · have p55 := gn_ge 0 2147483647 (gc_le zc54) (jv_t a0) (g_ok_g hI 4 rfl) (by decide)
    have hk56 := hk5.trans (if_pos zc54)
    refine g_iconst cx (-1) (by decide) e_X0_pullCloth_31 ?_
    refine g_lsub [1, 2, 0] [(0, .ref (ad 37)), (1, .int a0), (2, .int r1)] rfl ?_
    exact J32 F R (-1) hI (g_fr_rf F) hA (g_fr_rf R) (jv_w (jv_k (x := (-1)) (-1) (by decide)) (by decide)) hk56
  · have p57 := gn_lt (-2147483648) 59 (gc_nle zc54) (jv_t a0) (g_ok_g hI 4 rfl) (by decide)
    have hk58 := hk5.trans (if_neg zc54)
    refine g_aload_n cx 1 rfl e_X0_pullCloth_20 ?_
    refine g_get cx cl_X0 fl_X0_28 37 (.ref (ad 42)) e_X0_pullCloth_21 rfl rfl ?_
    refine g_iload_n cx 2 rfl e_X0_pullCloth_24 ?_
    refine g_cViW cx [.int a0] [] (w_X1_draw l X ad F R hI hA a0) ml_X0_138 yV_X1_draw e_X0_pullCloth_25 (by unfold g_rr; decide) (by decide) 42 rfl rfl rfl (Nat.le_of_ble_eq_true rfl) (fun r59 w60 h61 => ?_)
    obtain ⟨F63, R64, rfl, oF63, oR64, cF63, cR64, pr59, hx62⟩ := h61
    have hk65 := k_ls3 hk58 hx62
    have fF63 : g_fr md_X0_pullCloth F F63 := g_fr_c (g_fr_rf F) cF63 rfl
    have fR64 : g_fr mr_X0_pullCloth R R64 := g_fr_c (g_fr_rf R) cR64 rfl
    refine g_goto cx 32 e_X0_pullCloth_28 (by decide) ?_
    refine g_lsub [1, 2, 0] [(0, .ref (ad 37)), (1, .int a0), (2, .int r1)] rfl ?_
    exact J32 F63 R64 r59 oF63 fF63 oR64 fR64 pr59 hk65
def sp_X0_describe (F : Nat → Int32) (R : Nat → Nat → Int32) (a0 : Int32) : (Nat → Int32) × (Nat → Nat → Int32) :=
  k_lt (g_u R 23 (upd (R 23) 3 a0)) (fun R1 => k_lt (sp_X8_side_5 F R1 a0 0) (fun r3 => k_lt (g_u R1 23 (upd (R1 23) 4 r3)) (fun R8 => k_lt (R8 44 (Int32.toNatClampNeg a0)) (fun x10 => k_lt (g_u R8 23 (upd (R8 23) 5 x10)) (fun R12 => k_lt (sp_X8_side_5 F R12 a0 2) (fun r14 => k_lt (g_u R12 23 (upd (R12 23) 6 r14)) (fun R19 => k_lt (sp_X8_side_5 F R19 a0 4) (fun r21 => k_lt (g_u R19 23 (upd (R19 23) 7 r21)) (fun R26 => k_lt (sp_X8_side_5 F R26 a0 5) (fun r28 => k_lt (g_u R26 23 (upd (R26 23) 8 r28)) (fun R33 => k_lt (R33 45 (Int32.toNatClampNeg a0)) (fun x35 => k_lt (g_u R33 23 (upd (R33 23) 9 x35)) (fun R37 => k_lt (R37 38 (Int32.toNatClampNeg a0)) (fun x39 => k_lt (g_u R37 23 (upd (R37 23) 10 x39)) (fun R41 => k_lt (g_u R41 23 (upd (R41 23) 11 (F 604))) (fun R43 => (F, R43)))))))))))))))))
theorem e_X0_describe_0 : g_dc cX0_describe 0 (.aload_n 0) 1 1 := ⟨by decide +kernel, rfl⟩
theorem e_X0_describe_1 : g_dc cX0_describe 1 (.getfield 71) 3 4 := ⟨by decide +kernel, rfl⟩
theorem e_X0_describe_4 : g_dc cX0_describe 4 (.getfield 146) 3 7 := ⟨by decide +kernel, rfl⟩
theorem e_X0_describe_7 : g_dc cX0_describe 7 (.iconst 3) 1 8 := ⟨by decide +kernel, rfl⟩
theorem e_X0_describe_8 : g_dc cX0_describe 8 (.iload_n 1) 1 9 := ⟨by decide +kernel, rfl⟩
theorem e_X0_describe_9 : g_dc cX0_describe 9 (.iastore) 1 10 := ⟨by decide +kernel, rfl⟩
theorem e_X0_describe_10 : g_dc cX0_describe 10 (.aload_n 0) 1 11 := ⟨by decide +kernel, rfl⟩
theorem e_X0_describe_11 : g_dc cX0_describe 11 (.getfield 71) 3 14 := ⟨by decide +kernel, rfl⟩
theorem e_X0_describe_14 : g_dc cX0_describe 14 (.getfield 146) 3 17 := ⟨by decide +kernel, rfl⟩
theorem e_X0_describe_17 : g_dc cX0_describe 17 (.iconst 4) 1 18 := ⟨by decide +kernel, rfl⟩
theorem e_X0_describe_18 : g_dc cX0_describe 18 (.aload_n 0) 1 19 := ⟨by decide +kernel, rfl⟩
theorem e_X0_describe_19 : g_dc cX0_describe 19 (.getfield 12) 3 22 := ⟨by decide +kernel, rfl⟩
theorem e_X0_describe_22 : g_dc cX0_describe 22 (.iload_n 1) 1 23 := ⟨by decide +kernel, rfl⟩
theorem e_X0_describe_23 : g_dc cX0_describe 23 (.iconst 0) 1 24 := ⟨by decide +kernel, rfl⟩
theorem e_X0_describe_24 : g_dc cX0_describe 24 (.invokevirtual 171) 3 27 := ⟨by decide +kernel, rfl⟩
theorem e_X0_describe_27 : g_dc cX0_describe 27 (.iastore) 1 28 := ⟨by decide +kernel, rfl⟩
theorem e_X0_describe_28 : g_dc cX0_describe 28 (.aload_n 0) 1 29 := ⟨by decide +kernel, rfl⟩
theorem e_X0_describe_29 : g_dc cX0_describe 29 (.getfield 71) 3 32 := ⟨by decide +kernel, rfl⟩
theorem e_X0_describe_32 : g_dc cX0_describe 32 (.getfield 146) 3 35 := ⟨by decide +kernel, rfl⟩
theorem e_X0_describe_35 : g_dc cX0_describe 35 (.iconst 5) 1 36 := ⟨by decide +kernel, rfl⟩
theorem e_X0_describe_36 : g_dc cX0_describe 36 (.aload_n 0) 1 37 := ⟨by decide +kernel, rfl⟩
theorem e_X0_describe_37 : g_dc cX0_describe 37 (.getfield 35) 3 40 := ⟨by decide +kernel, rfl⟩
theorem e_X0_describe_40 : g_dc cX0_describe 40 (.getfield 159) 3 43 := ⟨by decide +kernel, rfl⟩
theorem e_X0_describe_43 : g_dc cX0_describe 43 (.iload_n 1) 1 44 := ⟨by decide +kernel, rfl⟩
theorem e_X0_describe_44 : g_dc cX0_describe 44 (.iaload) 1 45 := ⟨by decide +kernel, rfl⟩
theorem e_X0_describe_45 : g_dc cX0_describe 45 (.iastore) 1 46 := ⟨by decide +kernel, rfl⟩
theorem e_X0_describe_46 : g_dc cX0_describe 46 (.aload_n 0) 1 47 := ⟨by decide +kernel, rfl⟩
theorem e_X0_describe_47 : g_dc cX0_describe 47 (.getfield 71) 3 50 := ⟨by decide +kernel, rfl⟩
theorem e_X0_describe_50 : g_dc cX0_describe 50 (.getfield 146) 3 53 := ⟨by decide +kernel, rfl⟩
theorem e_X0_describe_53 : g_dc cX0_describe 53 (.bipush 6) 2 55 := ⟨by decide +kernel, rfl⟩
theorem e_X0_describe_55 : g_dc cX0_describe 55 (.aload_n 0) 1 56 := ⟨by decide +kernel, rfl⟩
theorem e_X0_describe_56 : g_dc cX0_describe 56 (.getfield 12) 3 59 := ⟨by decide +kernel, rfl⟩
theorem e_X0_describe_59 : g_dc cX0_describe 59 (.iload_n 1) 1 60 := ⟨by decide +kernel, rfl⟩
theorem e_X0_describe_60 : g_dc cX0_describe 60 (.iconst 2) 1 61 := ⟨by decide +kernel, rfl⟩
theorem e_X0_describe_61 : g_dc cX0_describe 61 (.invokevirtual 171) 3 64 := ⟨by decide +kernel, rfl⟩
theorem e_X0_describe_64 : g_dc cX0_describe 64 (.iastore) 1 65 := ⟨by decide +kernel, rfl⟩
theorem e_X0_describe_65 : g_dc cX0_describe 65 (.aload_n 0) 1 66 := ⟨by decide +kernel, rfl⟩
theorem e_X0_describe_66 : g_dc cX0_describe 66 (.getfield 71) 3 69 := ⟨by decide +kernel, rfl⟩
theorem e_X0_describe_69 : g_dc cX0_describe 69 (.getfield 146) 3 72 := ⟨by decide +kernel, rfl⟩
theorem e_X0_describe_72 : g_dc cX0_describe 72 (.bipush 7) 2 74 := ⟨by decide +kernel, rfl⟩
theorem e_X0_describe_74 : g_dc cX0_describe 74 (.aload_n 0) 1 75 := ⟨by decide +kernel, rfl⟩
theorem e_X0_describe_75 : g_dc cX0_describe 75 (.getfield 12) 3 78 := ⟨by decide +kernel, rfl⟩
theorem e_X0_describe_78 : g_dc cX0_describe 78 (.iload_n 1) 1 79 := ⟨by decide +kernel, rfl⟩
theorem e_X0_describe_79 : g_dc cX0_describe 79 (.iconst 4) 1 80 := ⟨by decide +kernel, rfl⟩
theorem e_X0_describe_80 : g_dc cX0_describe 80 (.invokevirtual 171) 3 83 := ⟨by decide +kernel, rfl⟩
theorem e_X0_describe_83 : g_dc cX0_describe 83 (.iastore) 1 84 := ⟨by decide +kernel, rfl⟩
theorem e_X0_describe_84 : g_dc cX0_describe 84 (.aload_n 0) 1 85 := ⟨by decide +kernel, rfl⟩
theorem e_X0_describe_85 : g_dc cX0_describe 85 (.getfield 71) 3 88 := ⟨by decide +kernel, rfl⟩
theorem e_X0_describe_88 : g_dc cX0_describe 88 (.getfield 146) 3 91 := ⟨by decide +kernel, rfl⟩
theorem e_X0_describe_91 : g_dc cX0_describe 91 (.bipush 8) 2 93 := ⟨by decide +kernel, rfl⟩
theorem e_X0_describe_93 : g_dc cX0_describe 93 (.aload_n 0) 1 94 := ⟨by decide +kernel, rfl⟩
theorem e_X0_describe_94 : g_dc cX0_describe 94 (.getfield 12) 3 97 := ⟨by decide +kernel, rfl⟩
theorem e_X0_describe_97 : g_dc cX0_describe 97 (.iload_n 1) 1 98 := ⟨by decide +kernel, rfl⟩
theorem e_X0_describe_98 : g_dc cX0_describe 98 (.iconst 5) 1 99 := ⟨by decide +kernel, rfl⟩
theorem e_X0_describe_99 : g_dc cX0_describe 99 (.invokevirtual 171) 3 102 := ⟨by decide +kernel, rfl⟩
theorem e_X0_describe_102 : g_dc cX0_describe 102 (.iastore) 1 103 := ⟨by decide +kernel, rfl⟩
theorem e_X0_describe_103 : g_dc cX0_describe 103 (.aload_n 0) 1 104 := ⟨by decide +kernel, rfl⟩
theorem e_X0_describe_104 : g_dc cX0_describe 104 (.getfield 71) 3 107 := ⟨by decide +kernel, rfl⟩
theorem e_X0_describe_107 : g_dc cX0_describe 107 (.getfield 146) 3 110 := ⟨by decide +kernel, rfl⟩
theorem e_X0_describe_110 : g_dc cX0_describe 110 (.bipush 9) 2 112 := ⟨by decide +kernel, rfl⟩
theorem e_X0_describe_112 : g_dc cX0_describe 112 (.aload_n 0) 1 113 := ⟨by decide +kernel, rfl⟩
theorem e_X0_describe_113 : g_dc cX0_describe 113 (.getfield 35) 3 116 := ⟨by decide +kernel, rfl⟩
theorem e_X0_describe_116 : g_dc cX0_describe 116 (.getfield 174) 3 119 := ⟨by decide +kernel, rfl⟩
theorem e_X0_describe_119 : g_dc cX0_describe 119 (.iload_n 1) 1 120 := ⟨by decide +kernel, rfl⟩
theorem e_X0_describe_120 : g_dc cX0_describe 120 (.iaload) 1 121 := ⟨by decide +kernel, rfl⟩
theorem e_X0_describe_121 : g_dc cX0_describe 121 (.iastore) 1 122 := ⟨by decide +kernel, rfl⟩
theorem e_X0_describe_122 : g_dc cX0_describe 122 (.aload_n 0) 1 123 := ⟨by decide +kernel, rfl⟩
theorem e_X0_describe_123 : g_dc cX0_describe 123 (.getfield 71) 3 126 := ⟨by decide +kernel, rfl⟩
theorem e_X0_describe_126 : g_dc cX0_describe 126 (.getfield 146) 3 129 := ⟨by decide +kernel, rfl⟩
theorem e_X0_describe_129 : g_dc cX0_describe 129 (.bipush 10) 2 131 := ⟨by decide +kernel, rfl⟩
theorem e_X0_describe_131 : g_dc cX0_describe 131 (.aload_n 0) 1 132 := ⟨by decide +kernel, rfl⟩
theorem e_X0_describe_132 : g_dc cX0_describe 132 (.getfield 39) 3 135 := ⟨by decide +kernel, rfl⟩
theorem e_X0_describe_135 : g_dc cX0_describe 135 (.iload_n 1) 1 136 := ⟨by decide +kernel, rfl⟩
theorem e_X0_describe_136 : g_dc cX0_describe 136 (.iaload) 1 137 := ⟨by decide +kernel, rfl⟩
theorem e_X0_describe_137 : g_dc cX0_describe 137 (.iastore) 1 138 := ⟨by decide +kernel, rfl⟩
theorem e_X0_describe_138 : g_dc cX0_describe 138 (.aload_n 0) 1 139 := ⟨by decide +kernel, rfl⟩
theorem e_X0_describe_139 : g_dc cX0_describe 139 (.getfield 71) 3 142 := ⟨by decide +kernel, rfl⟩
theorem e_X0_describe_142 : g_dc cX0_describe 142 (.getfield 146) 3 145 := ⟨by decide +kernel, rfl⟩
theorem e_X0_describe_145 : g_dc cX0_describe 145 (.bipush 11) 2 147 := ⟨by decide +kernel, rfl⟩
theorem e_X0_describe_147 : g_dc cX0_describe 147 (.aload_n 0) 1 148 := ⟨by decide +kernel, rfl⟩
theorem e_X0_describe_148 : g_dc cX0_describe 148 (.getfield 62) 3 151 := ⟨by decide +kernel, rfl⟩
theorem e_X0_describe_151 : g_dc cX0_describe 151 (.iastore) 1 152 := ⟨by decide +kernel, rfl⟩
theorem e_X0_describe_152 : g_dc cX0_describe 152 (.return_) 1 153 := ⟨by decide +kernel, rfl⟩
def md_X0_describe : List Nat := []
def mr_X0_describe : List Nat := [23]
set_option maxHeartbeats 4000000 in
set_option maxRecDepth 100000 in
theorem w_X0_describe (l : Launch) (X : gX) (ad : Nat → Nat) (F : Nat → Int32) (R : Nat → Nat → Int32) (hI : g_ok LK_wX F) (hA : g_okR LA_wX R) (a0 : Int32) (pa0 : jv 0 9 a0) : g_Cv l X yX0_describe cX0_describe 2 3 0 0 [.ref (ad 37), .int a0] (wX X ad F R) (fun w => ∃ (F' : Nat → Int32) (R' : Nat → Nat → Int32), w = wX X ad F' R' ∧ g_ok LK_wX F' ∧ g_okR LA_wX R' ∧ g_fr md_X0_describe F F' ∧ g_fr mr_X0_describe R R' ∧ (F', R') = sp_X0_describe F R a0) := by
  refine g_mv (by decide +kernel) (Nat.le_of_ble_eq_true rfl) (fun E cx hret => ?_)
  obtain ⟨SP, hSP⟩ : ∃ z, z = sp_X0_describe F R a0 := ⟨_, rfl⟩
  have hk0 := hSP
  unfold sp_X0_describe at hk0
  refine g_aload_n cx 0 rfl e_X0_describe_0 ?_
  refine g_get cx cl_X0 fl_X0_71 37 (.ref (ad 17)) e_X0_describe_1 rfl rfl ?_
  refine g_getN cx cl_X2 fn_X0_146 17 (.ref (ad 23)) e_X0_describe_4 rfl rfl ?_
  refine g_iconst cx 3 (by decide) e_X0_describe_7 ?_
  refine g_iload_n cx 1 rfl e_X0_describe_8 ?_
  refine g_iast cx 23 (wX X ad F (g_u R 23 (upd (R 23) 3 a0))) e_X0_describe_9 rfl (jv_ix 12 (jv_k (x := 3) 3 (by decide)) (by decide)) rfl ?_
  obtain ⟨R1, hR1⟩ : ∃ z, z = g_u R 23 (upd (R 23) 3 a0) := ⟨_, rfl⟩
  rw [← hR1]
  have hk2 := k_ls hk0 hR1
  have oR1 : g_okR LA_wX R1 := by rw [hR1]; exact g_okR_u hA rfl
  have fR1 : g_fr mr_X0_describe R R1 := by rw [hR1]; exact g_fr_r (g_fr_rf R) rfl
  refine g_aload_n cx 0 rfl e_X0_describe_10 ?_
  refine g_get cx cl_X0 fl_X0_71 37 (.ref (ad 17)) e_X0_describe_11 rfl rfl ?_
  refine g_getN cx cl_X2 fn_X0_146 17 (.ref (ad 23)) e_X0_describe_14 rfl rfl ?_
  refine g_iconst cx 4 (by decide) e_X0_describe_17 ?_
  refine g_aload_n cx 0 rfl e_X0_describe_18 ?_
  refine g_get cx cl_X0 fl_X0_12 37 (.ref (ad 5)) e_X0_describe_19 rfl rfl ?_
  refine g_iload_n cx 1 rfl e_X0_describe_22 ?_
  refine g_iconst cx 0 (by decide) e_X0_describe_23 ?_
  refine g_cViW cx [.int a0, .int 0] [.int 4, .ref (ad 23)] (w_X8_side_5 l X ad F R1 hI oR1 a0 0) ml_X0_171 yV_X8_side e_X0_describe_24 (by unfold g_rr; decide) (by decide) 5 rfl rfl rfl (Nat.le_of_ble_eq_true rfl) (fun r3 w4 h5 => ?_)
  obtain ⟨rfl, pr3, hx6⟩ := h5
  have hk7 := k_ls hk2 hx6
  refine g_iast cx 23 (wX X ad F (g_u R1 23 (upd (R1 23) 4 r3))) e_X0_describe_27 rfl (jv_ix 12 (jv_k (x := 4) 4 (by decide)) (by decide)) rfl ?_
  obtain ⟨R8, hR8⟩ : ∃ z, z = g_u R1 23 (upd (R1 23) 4 r3) := ⟨_, rfl⟩
  rw [← hR8]
  have hk9 := k_ls hk7 hR8
  have oR8 : g_okR LA_wX R8 := by rw [hR8]; exact g_okR_u oR1 rfl
  have fR8 : g_fr mr_X0_describe R R8 := by rw [hR8]; exact g_fr_r fR1 rfl
  refine g_aload_n cx 0 rfl e_X0_describe_28 ?_
  refine g_get cx cl_X0 fl_X0_71 37 (.ref (ad 17)) e_X0_describe_29 rfl rfl ?_
  refine g_getN cx cl_X2 fn_X0_146 17 (.ref (ad 23)) e_X0_describe_32 rfl rfl ?_
  refine g_iconst cx 5 (by decide) e_X0_describe_35 ?_
  refine g_aload_n cx 0 rfl e_X0_describe_36 ?_
  refine g_get cx cl_X0 fl_X0_35 37 (.ref (ad 43)) e_X0_describe_37 rfl rfl ?_
  refine g_getN cx cl_X4 fn_X0_159 43 (.ref (ad 44)) e_X0_describe_40 rfl rfl ?_
  refine g_iload_n cx 1 rfl e_X0_describe_43 ?_
  refine g_iald cx 44 e_X0_describe_44 rfl (jv_ix 10 pa0 (by decide)) ?_
  refine g_topi (fun x10 ex10 => ?_)
  have hk11 := k_ls hk9 ex10
  refine g_iast cx 23 (wX X ad F (g_u R8 23 (upd (R8 23) 5 x10))) e_X0_describe_45 rfl (jv_ix 12 (jv_k (x := 5) 5 (by decide)) (by decide)) rfl ?_
  obtain ⟨R12, hR12⟩ : ∃ z, z = g_u R8 23 (upd (R8 23) 5 x10) := ⟨_, rfl⟩
  rw [← hR12]
  have hk13 := k_ls hk11 hR12
  have oR12 : g_okR LA_wX R12 := by rw [hR12]; exact g_okR_u oR8 rfl
  have fR12 : g_fr mr_X0_describe R R12 := by rw [hR12]; exact g_fr_r fR8 rfl
  refine g_aload_n cx 0 rfl e_X0_describe_46 ?_
  refine g_get cx cl_X0 fl_X0_71 37 (.ref (ad 17)) e_X0_describe_47 rfl rfl ?_
  refine g_getN cx cl_X2 fn_X0_146 17 (.ref (ad 23)) e_X0_describe_50 rfl rfl ?_
  refine g_bipush cx 6 (by decide) e_X0_describe_53 ?_
  refine g_aload_n cx 0 rfl e_X0_describe_55 ?_
  refine g_get cx cl_X0 fl_X0_12 37 (.ref (ad 5)) e_X0_describe_56 rfl rfl ?_
  refine g_iload_n cx 1 rfl e_X0_describe_59 ?_
  refine g_iconst cx 2 (by decide) e_X0_describe_60 ?_
  refine g_cViW cx [.int a0, .int 2] [.int 6, .ref (ad 23)] (w_X8_side_5 l X ad F R12 hI oR12 a0 2) ml_X0_171 yV_X8_side e_X0_describe_61 (by unfold g_rr; decide) (by decide) 5 rfl rfl rfl (Nat.le_of_ble_eq_true rfl) (fun r14 w15 h16 => ?_)
  obtain ⟨rfl, pr14, hx17⟩ := h16
  have hk18 := k_ls hk13 hx17
  refine g_iast cx 23 (wX X ad F (g_u R12 23 (upd (R12 23) 6 r14))) e_X0_describe_64 rfl (jv_ix 12 (jv_k (x := 6) 6 (by decide)) (by decide)) rfl ?_
  obtain ⟨R19, hR19⟩ : ∃ z, z = g_u R12 23 (upd (R12 23) 6 r14) := ⟨_, rfl⟩
  rw [← hR19]
  have hk20 := k_ls hk18 hR19
  have oR19 : g_okR LA_wX R19 := by rw [hR19]; exact g_okR_u oR12 rfl
  have fR19 : g_fr mr_X0_describe R R19 := by rw [hR19]; exact g_fr_r fR12 rfl
  refine g_aload_n cx 0 rfl e_X0_describe_65 ?_
  refine g_get cx cl_X0 fl_X0_71 37 (.ref (ad 17)) e_X0_describe_66 rfl rfl ?_
  refine g_getN cx cl_X2 fn_X0_146 17 (.ref (ad 23)) e_X0_describe_69 rfl rfl ?_
  refine g_bipush cx 7 (by decide) e_X0_describe_72 ?_
  refine g_aload_n cx 0 rfl e_X0_describe_74 ?_
  refine g_get cx cl_X0 fl_X0_12 37 (.ref (ad 5)) e_X0_describe_75 rfl rfl ?_
  refine g_iload_n cx 1 rfl e_X0_describe_78 ?_
  refine g_iconst cx 4 (by decide) e_X0_describe_79 ?_
  refine g_cViW cx [.int a0, .int 4] [.int 7, .ref (ad 23)] (w_X8_side_5 l X ad F R19 hI oR19 a0 4) ml_X0_171 yV_X8_side e_X0_describe_80 (by unfold g_rr; decide) (by decide) 5 rfl rfl rfl (Nat.le_of_ble_eq_true rfl) (fun r21 w22 h23 => ?_)
  obtain ⟨rfl, pr21, hx24⟩ := h23
  have hk25 := k_ls hk20 hx24
  refine g_iast cx 23 (wX X ad F (g_u R19 23 (upd (R19 23) 7 r21))) e_X0_describe_83 rfl (jv_ix 12 (jv_k (x := 7) 7 (by decide)) (by decide)) rfl ?_
  obtain ⟨R26, hR26⟩ : ∃ z, z = g_u R19 23 (upd (R19 23) 7 r21) := ⟨_, rfl⟩
  rw [← hR26]
  have hk27 := k_ls hk25 hR26
  have oR26 : g_okR LA_wX R26 := by rw [hR26]; exact g_okR_u oR19 rfl
  have fR26 : g_fr mr_X0_describe R R26 := by rw [hR26]; exact g_fr_r fR19 rfl
  refine g_aload_n cx 0 rfl e_X0_describe_84 ?_
  refine g_get cx cl_X0 fl_X0_71 37 (.ref (ad 17)) e_X0_describe_85 rfl rfl ?_
  refine g_getN cx cl_X2 fn_X0_146 17 (.ref (ad 23)) e_X0_describe_88 rfl rfl ?_
  refine g_bipush cx 8 (by decide) e_X0_describe_91 ?_
  refine g_aload_n cx 0 rfl e_X0_describe_93 ?_
  refine g_get cx cl_X0 fl_X0_12 37 (.ref (ad 5)) e_X0_describe_94 rfl rfl ?_
  refine g_iload_n cx 1 rfl e_X0_describe_97 ?_
  refine g_iconst cx 5 (by decide) e_X0_describe_98 ?_
  refine g_cViW cx [.int a0, .int 5] [.int 8, .ref (ad 23)] (w_X8_side_5 l X ad F R26 hI oR26 a0 5) ml_X0_171 yV_X8_side e_X0_describe_99 (by unfold g_rr; decide) (by decide) 5 rfl rfl rfl (Nat.le_of_ble_eq_true rfl) (fun r28 w29 h30 => ?_)
  obtain ⟨rfl, pr28, hx31⟩ := h30
  have hk32 := k_ls hk27 hx31
  refine g_iast cx 23 (wX X ad F (g_u R26 23 (upd (R26 23) 8 r28))) e_X0_describe_102 rfl (jv_ix 12 (jv_k (x := 8) 8 (by decide)) (by decide)) rfl ?_
  obtain ⟨R33, hR33⟩ : ∃ z, z = g_u R26 23 (upd (R26 23) 8 r28) := ⟨_, rfl⟩
  rw [← hR33]
  have hk34 := k_ls hk32 hR33
  have oR33 : g_okR LA_wX R33 := by rw [hR33]; exact g_okR_u oR26 rfl
  have fR33 : g_fr mr_X0_describe R R33 := by rw [hR33]; exact g_fr_r fR26 rfl
  refine g_aload_n cx 0 rfl e_X0_describe_103 ?_
  refine g_get cx cl_X0 fl_X0_71 37 (.ref (ad 17)) e_X0_describe_104 rfl rfl ?_
  refine g_getN cx cl_X2 fn_X0_146 17 (.ref (ad 23)) e_X0_describe_107 rfl rfl ?_
  refine g_bipush cx 9 (by decide) e_X0_describe_110 ?_
  refine g_aload_n cx 0 rfl e_X0_describe_112 ?_
  refine g_get cx cl_X0 fl_X0_35 37 (.ref (ad 43)) e_X0_describe_113 rfl rfl ?_
  refine g_getN cx cl_X4 fn_X0_174 43 (.ref (ad 45)) e_X0_describe_116 rfl rfl ?_
  refine g_iload_n cx 1 rfl e_X0_describe_119 ?_
  refine g_iald cx 45 e_X0_describe_120 rfl (jv_ix 10 pa0 (by decide)) ?_
  refine g_topi (fun x35 ex35 => ?_)
  have hk36 := k_ls hk34 ex35
  refine g_iast cx 23 (wX X ad F (g_u R33 23 (upd (R33 23) 9 x35))) e_X0_describe_121 rfl (jv_ix 12 (jv_k (x := 9) 9 (by decide)) (by decide)) rfl ?_
  obtain ⟨R37, hR37⟩ : ∃ z, z = g_u R33 23 (upd (R33 23) 9 x35) := ⟨_, rfl⟩
  rw [← hR37]
  have hk38 := k_ls hk36 hR37
  have oR37 : g_okR LA_wX R37 := by rw [hR37]; exact g_okR_u oR33 rfl
  have fR37 : g_fr mr_X0_describe R R37 := by rw [hR37]; exact g_fr_r fR33 rfl
  refine g_aload_n cx 0 rfl e_X0_describe_122 ?_
  refine g_get cx cl_X0 fl_X0_71 37 (.ref (ad 17)) e_X0_describe_123 rfl rfl ?_
  refine g_getN cx cl_X2 fn_X0_146 17 (.ref (ad 23)) e_X0_describe_126 rfl rfl ?_
  refine g_bipush cx 10 (by decide) e_X0_describe_129 ?_
  refine g_aload_n cx 0 rfl e_X0_describe_131 ?_
  refine g_get cx cl_X0 fl_X0_39 37 (.ref (ad 38)) e_X0_describe_132 rfl rfl ?_
  refine g_iload_n cx 1 rfl e_X0_describe_135 ?_
  refine g_iald cx 38 e_X0_describe_136 rfl (jv_ix 10 pa0 (by decide)) ?_
  refine g_topi (fun x39 ex39 => ?_)
  have hk40 := k_ls hk38 ex39
  refine g_iast cx 23 (wX X ad F (g_u R37 23 (upd (R37 23) 10 x39))) e_X0_describe_137 rfl (jv_ix 12 (jv_k (x := 10) 10 (by decide)) (by decide)) rfl ?_
  obtain ⟨R41, hR41⟩ : ∃ z, z = g_u R37 23 (upd (R37 23) 10 x39) := ⟨_, rfl⟩
  rw [← hR41]
  have hk42 := k_ls hk40 hR41
  have oR41 : g_okR LA_wX R41 := by rw [hR41]; exact g_okR_u oR37 rfl
  have fR41 : g_fr mr_X0_describe R R41 := by rw [hR41]; exact g_fr_r fR37 rfl
  refine g_aload_n cx 0 rfl e_X0_describe_138 ?_
  refine g_get cx cl_X0 fl_X0_71 37 (.ref (ad 17)) e_X0_describe_139 rfl rfl ?_
  refine g_getN cx cl_X2 fn_X0_146 17 (.ref (ad 23)) e_X0_describe_142 rfl rfl ?_
  refine g_bipush cx 11 (by decide) e_X0_describe_145 ?_
  refine g_aload_n cx 0 rfl e_X0_describe_147 ?_
  refine g_get cx cl_X0 fl_X0_62 37 (.int (F 604)) e_X0_describe_148 rfl rfl ?_
  refine g_iast cx 23 (wX X ad F (g_u R41 23 (upd (R41 23) 11 (F 604)))) e_X0_describe_151 rfl (jv_ix 12 (jv_k (x := 11) 11 (by decide)) (by decide)) rfl ?_
  obtain ⟨R43, hR43⟩ : ∃ z, z = g_u R41 23 (upd (R41 23) 11 (F 604)) := ⟨_, rfl⟩
  rw [← hR43]
  have hk44 := k_ls hk42 hR43
  have oR43 : g_okR LA_wX R43 := by rw [hR43]; exact g_okR_u oR41 rfl
  have fR43 : g_fr mr_X0_describe R R43 := by rw [hR43]; exact g_fr_r fR41 rfl
  exact hret e_X0_describe_152 (Nat.le_of_ble_eq_true rfl) (Nat.le_of_ble_eq_true rfl) ⟨F, R43, rfl, hI, oR43, (g_fr_rf F), fR43, (hk44.symm.trans hSP)⟩
def K_X0_foldPassed_51   : Int32 :=
  0
def K_X0_foldPassed_45 (b2 : (Int32) → Int32) (y1 : Int32)  : Int32 :=
  k_lt (y1 + 1) (fun x16 => b2 x16)
def KB_X0_foldPassed_2 (b2 : (Int32) → Int32) (F : Nat → Int32) (R : Nat → Nat → Int32) (a0 : Int32) (y1 : Int32) : Int32 :=
  if (F 601) ≤ y1 then K_X0_foldPassed_51 else if 6 ≤ y1 then K_X0_foldPassed_51 else k_lt (R 41 (Int32.toNatClampNeg y1)) (fun x12 => k_lt (x12 - (F 603)) (fun x14 => if a0 ≤ x14 then K_X0_foldPassed_45 b2 y1 else k_lt (x14 + (F 604)) (fun x23 => if x23 < a0 then K_X0_foldPassed_45 b2 y1 else 1)))
def K_X0_foldPassed_2 (F : Nat → Int32) (R : Nat → Nat → Int32) (a0 : Int32) : Nat → (Int32) → Int32
  | 0 => fun _ => 0
  | n + 1 => KB_X0_foldPassed_2 (K_X0_foldPassed_2 F R a0 n) F R a0
def sp_X0_foldPassed (F : Nat → Int32) (R : Nat → Nat → Int32) (a0 : Int32) : Int32 :=
  K_X0_foldPassed_2 F R a0 8589934592 0
theorem e_X0_foldPassed_0 : g_dc cX0_foldPassed 0 (.iconst 0) 1 1 := ⟨by decide +kernel, rfl⟩
theorem e_X0_foldPassed_1 : g_dc cX0_foldPassed 1 (.istore_n 2) 1 2 := ⟨by decide +kernel, rfl⟩
theorem e_X0_foldPassed_2 : g_dc cX0_foldPassed 2 (.iload_n 2) 1 3 := ⟨by decide +kernel, rfl⟩
theorem e_X0_foldPassed_3 : g_dc cX0_foldPassed 3 (.aload_n 0) 1 4 := ⟨by decide +kernel, rfl⟩
theorem e_X0_foldPassed_4 : g_dc cX0_foldPassed 4 (.getfield 52) 3 7 := ⟨by decide +kernel, rfl⟩
theorem e_X0_foldPassed_7 : g_dc cX0_foldPassed 7 (.if_icmp .ge 44) 3 10 := ⟨by decide +kernel, rfl⟩
theorem e_X0_foldPassed_10 : g_dc cX0_foldPassed 10 (.iload_n 2) 1 11 := ⟨by decide +kernel, rfl⟩
theorem e_X0_foldPassed_11 : g_dc cX0_foldPassed 11 (.bipush 6) 2 13 := ⟨by decide +kernel, rfl⟩
theorem e_X0_foldPassed_13 : g_dc cX0_foldPassed 13 (.if_icmp .ge 38) 3 16 := ⟨by decide +kernel, rfl⟩
theorem e_X0_foldPassed_16 : g_dc cX0_foldPassed 16 (.aload_n 0) 1 17 := ⟨by decide +kernel, rfl⟩
theorem e_X0_foldPassed_17 : g_dc cX0_foldPassed 17 (.getfield 49) 3 20 := ⟨by decide +kernel, rfl⟩
theorem e_X0_foldPassed_20 : g_dc cX0_foldPassed 20 (.iload_n 2) 1 21 := ⟨by decide +kernel, rfl⟩
theorem e_X0_foldPassed_21 : g_dc cX0_foldPassed 21 (.iaload) 1 22 := ⟨by decide +kernel, rfl⟩
theorem e_X0_foldPassed_22 : g_dc cX0_foldPassed 22 (.aload_n 0) 1 23 := ⟨by decide +kernel, rfl⟩
theorem e_X0_foldPassed_23 : g_dc cX0_foldPassed 23 (.getfield 59) 3 26 := ⟨by decide +kernel, rfl⟩
theorem e_X0_foldPassed_26 : g_dc cX0_foldPassed 26 (.isub) 1 27 := ⟨by decide +kernel, rfl⟩
theorem e_X0_foldPassed_27 : g_dc cX0_foldPassed 27 (.istore_n 3) 1 28 := ⟨by decide +kernel, rfl⟩
theorem e_X0_foldPassed_28 : g_dc cX0_foldPassed 28 (.iload_n 3) 1 29 := ⟨by decide +kernel, rfl⟩
theorem e_X0_foldPassed_29 : g_dc cX0_foldPassed 29 (.iload_n 1) 1 30 := ⟨by decide +kernel, rfl⟩
theorem e_X0_foldPassed_30 : g_dc cX0_foldPassed 30 (.if_icmp .ge 15) 3 33 := ⟨by decide +kernel, rfl⟩
theorem e_X0_foldPassed_33 : g_dc cX0_foldPassed 33 (.iload_n 3) 1 34 := ⟨by decide +kernel, rfl⟩
theorem e_X0_foldPassed_34 : g_dc cX0_foldPassed 34 (.aload_n 0) 1 35 := ⟨by decide +kernel, rfl⟩
theorem e_X0_foldPassed_35 : g_dc cX0_foldPassed 35 (.getfield 62) 3 38 := ⟨by decide +kernel, rfl⟩
theorem e_X0_foldPassed_38 : g_dc cX0_foldPassed 38 (.iadd) 1 39 := ⟨by decide +kernel, rfl⟩
theorem e_X0_foldPassed_39 : g_dc cX0_foldPassed 39 (.iload_n 1) 1 40 := ⟨by decide +kernel, rfl⟩
theorem e_X0_foldPassed_40 : g_dc cX0_foldPassed 40 (.if_icmp .lt 5) 3 43 := ⟨by decide +kernel, rfl⟩
theorem e_X0_foldPassed_43 : g_dc cX0_foldPassed 43 (.iconst 1) 1 44 := ⟨by decide +kernel, rfl⟩
theorem e_X0_foldPassed_44 : g_dc cX0_foldPassed 44 (.ireturn) 1 45 := ⟨by decide +kernel, rfl⟩
theorem e_X0_foldPassed_45 : g_dc cX0_foldPassed 45 (.iinc 2 1) 3 48 := ⟨by decide +kernel, rfl⟩
theorem e_X0_foldPassed_48 : g_dc cX0_foldPassed 48 (.goto (-46)) 3 51 := ⟨by decide +kernel, rfl⟩
theorem e_X0_foldPassed_51 : g_dc cX0_foldPassed 51 (.iconst 0) 1 52 := ⟨by decide +kernel, rfl⟩
theorem e_X0_foldPassed_52 : g_dc cX0_foldPassed 52 (.ireturn) 1 53 := ⟨by decide +kernel, rfl⟩
set_option maxHeartbeats 4000000 in
set_option maxRecDepth 100000 in
theorem w_X0_foldPassed (l : Launch) (X : gX) (ad : Nat → Nat) (F : Nat → Int32) (R : Nat → Nat → Int32) (hI : g_ok LK_wX F) (hA : g_okR LA_wX R) (a0 : Int32) : g_Ci l X yX0_foldPassed cX0_foldPassed 4 (some .boolean) 1 0 0 [.ref (ad 37), .int a0] (wX X ad F R) (fun r w => w = wX X ad F R ∧ jv 0 1 r ∧ r = sp_X0_foldPassed F R a0) := by
  refine g_mi (by decide +kernel) (Nat.le_of_ble_eq_true rfl) (fun E cx hret => ?_)
  obtain ⟨SP, hSP⟩ : ∃ z, z = sp_X0_foldPassed F R a0 := ⟨_, rfl⟩
  have hk0 := hSP
  unfold sp_X0_foldPassed at hk0
  refine g_iconst cx 0 (by decide) e_X0_foldPassed_0 ?_
  refine g_istore_n cx [(2, .int 0), (0, .ref (ad 37)), (1, .int a0)] e_X0_foldPassed_1 (by decide) rfl ?_
  have J2 : ∀ (N : Nat) (y1 : Int32), (jv 0 6 y1) → (SP = K_X0_foldPassed_2 F R a0 N y1) → (2147483647 - y1.toInt).toNat < N → G X E 4 0 0 (wX X ad F R) [(0, .ref (ad 37)), (1, .int a0), (2, .int y1)] 2 [] := by
    intro N
    induction N with
    | zero => intro y1 py1 hkJ2 hm; exact absurd hm (Nat.not_lt_zero _)
    | succ N ih2 =>
      intro y1 py1 hkJ2 hm2
      have hkK2 : SP = KB_X0_foldPassed_2 (K_X0_foldPassed_2 F R a0 N) F R a0 y1 := hkJ2
      obtain ⟨b2, hb2⟩ : ∃ z, z = K_X0_foldPassed_2 F R a0 N := ⟨_, rfl⟩
      rw [← hb2] at hkK2
      unfold KB_X0_foldPassed_2 at hkK2
      refine g_iload_n cx 2 rfl e_X0_foldPassed_2 ?_
      refine g_aload_n cx 0 rfl e_X0_foldPassed_3 ?_
      refine g_get cx cl_X0 fl_X0_52 37 (.int (F 601)) e_X0_foldPassed_4 rfl rfl ?_
      have J51 : (SP = K_X0_foldPassed_51) → G X E 4 0 0 (wX X ad F R) [] 51 [] := by
        intro   hkJ51
        unfold K_X0_foldPassed_51 at hkJ51
        refine g_iconst cx 0 (by decide) e_X0_foldPassed_51 ?_
        exact hret e_X0_foldPassed_52 (Nat.le_of_ble_eq_true rfl) (Nat.le_of_ble_eq_true rfl) rfl ⟨rfl, (jv_w (jv_k (x := 0) 0 (by decide)) (by decide)), (hkJ51.symm.trans hSP)⟩
      refine g_icmp_ge cx 51 e_X0_foldPassed_7 (by decide) (fun zc2 => ?_) (fun zc2 => ?_)
      · have p3 := gn_le (-2147483648) 6 (gc_le zc2) (jv_t (F 601)) py1 (by decide)
        have hk4 := hkK2.trans (if_pos zc2)
        refine g_lsub [] [] rfl ?_
        exact J51  hk4
      · have p5 := gn_gt 1 2147483647 (gc_nle zc2) (jv_t (F 601)) py1 (by decide)
        have hk6 := hkK2.trans (if_neg zc2)
        refine g_iload_n cx 2 rfl e_X0_foldPassed_10 ?_
        refine g_bipush cx 6 (by decide) e_X0_foldPassed_11 ?_
        refine g_icmp_ge cx 51 e_X0_foldPassed_13 (by decide) (fun zc7 => ?_) (fun zc7 => ?_)
        · have p8 := gn_ge 6 6 (gc_le zc7) py1 (jv_k (x := 6) 6 (by decide)) (by decide)
          have hk9 := hk6.trans (if_pos zc7)
          refine g_lsub [] [] rfl ?_
          exact J51  hk9
        · have p10 := gn_lt 0 5 (gc_nle zc7) py1 (jv_k (x := 6) 6 (by decide)) (by decide)
          have hk11 := hk6.trans (if_neg zc7)
          refine g_aload_n cx 0 rfl e_X0_foldPassed_16 ?_
          refine g_get cx cl_X0 fl_X0_49 37 (.ref (ad 41)) e_X0_foldPassed_17 rfl rfl ?_
          refine g_iload_n cx 2 rfl e_X0_foldPassed_20 ?_
          refine g_iald cx 41 e_X0_foldPassed_21 rfl (jv_ix 6 p10 (by decide)) ?_
          refine g_topi (fun x12 ex12 => ?_)
          have hk13 := k_ls hk11 ex12
          refine g_aload_n cx 0 rfl e_X0_foldPassed_22 ?_
          refine g_get cx cl_X0 fl_X0_59 37 (.int (F 603)) e_X0_foldPassed_23 rfl rfl ?_
          refine g_isub cx e_X0_foldPassed_26 ?_
          refine g_topi (fun x14 ex14 => ?_)
          have hk15 := k_ls hk13 ex14
          refine g_istore_n cx [(3, .int x14), (0, .ref (ad 37)), (1, .int a0), (2, .int y1)] e_X0_foldPassed_27 (by decide) rfl ?_
          refine g_iload_n cx 0 rfl e_X0_foldPassed_28 ?_
          refine g_iload_n cx 2 rfl e_X0_foldPassed_29 ?_
          have J45 : (SP = K_X0_foldPassed_45 b2 y1) → G X E 4 0 0 (wX X ad F R) [(0, .ref (ad 37)), (1, .int a0), (2, .int y1)] 45 [] := by
            intro   hkJ45
            unfold K_X0_foldPassed_45 at hkJ45
            obtain ⟨x16, ex16⟩ : ∃ z : Int32, z = y1 + Int32.ofInt 1 := ⟨_, rfl⟩
            have hk17 := k_ls hkJ45 (show x16 = y1 + 1 from ex16)
            refine g_iinc cx x16 [(2, .int x16), (0, .ref (ad 37)), (1, .int a0)] 2 e_X0_foldPassed_45 rfl ex16.symm (by decide) rfl ?_
            have zx16 := jv_add 1 6 (show x16 = y1 + 1 from ex16) p10 (jv_k (x := 1) 1 (by decide)) (by decide)
            refine g_goto cx 2 e_X0_foldPassed_48 (by decide) ?_
            refine g_lsub [1, 2, 0] [(0, .ref (ad 37)), (1, .int a0), (2, .int x16)] rfl ?_
            exact ih2 x16 (jv_w zx16.2 (by decide)) (hk17.trans (by rw [hb2])) (Nat.lt_of_lt_of_le (show (2147483647 - x16.toInt).toNat < (2147483647 - y1.toInt).toNat from by have q0 := (jv_k (x := 1) 1 (by decide)).1; have q1 := (jv_k (x := 1) 1 (by decide)).2; have q2 := (jv_k (x := 6) 6 (by decide)).1; have q3 := (jv_k (x := 6) 6 (by decide)).2; have q4 := p5.1; have q5 := p5.2; have q6 := zx16.2.1; have q7 := zx16.2.2; have q8 := p10.1; have q9 := p10.2; have q10 := (gc_nle zc2); have q11 := (gc_nle zc7); have q12 := (g_eq0 zx16.1); omega) (Nat.le_of_lt_succ hm2))
          refine g_icmp_ge cx 45 e_X0_foldPassed_30 (by decide) (fun zc18 => ?_) (fun zc18 => ?_)
          · have hk19 := hk15.trans (if_pos zc18)
            refine g_lsub [1, 2, 3] [(0, .ref (ad 37)), (1, .int a0), (2, .int y1)] rfl ?_
            exact J45  hk19
          · have p20 := gn_lt (-2147483648) 2147483646 (gc_nle zc18) (jv_t x14) (jv_t a0) (by decide)
            have p21 := gn_gt (-2147483647) 2147483647 (gc_nle zc18) (jv_t a0) (jv_t x14) (by decide)
            have hk22 := hk15.trans (if_neg zc18)
            refine g_iload_n cx 0 rfl e_X0_foldPassed_33 ?_
            refine g_aload_n cx 1 rfl e_X0_foldPassed_34 ?_
            refine g_get cx cl_X0 fl_X0_62 37 (.int (F 604)) e_X0_foldPassed_35 rfl rfl ?_
            refine g_iadd cx e_X0_foldPassed_38 ?_
            refine g_topi (fun x23 ex23 => ?_)
            have hk24 := k_ls hk22 ex23
            refine g_iload_n cx 2 rfl e_X0_foldPassed_39 ?_
            refine g_icmp_lt cx 45 e_X0_foldPassed_40 (by decide) (fun zc25 => ?_) (fun zc25 => ?_)
            · have p26 := gn_lt (-2147483648) 2147483646 (gc_lt zc25) (jv_t x23) p21 (by decide)
              have hk27 := hk24.trans (if_pos zc25)
              refine g_lsub [1, 2, 3] [(0, .ref (ad 37)), (1, .int a0), (2, .int y1)] rfl ?_
              exact J45  hk27
            · have p28 := gn_ge (-2147483647) 2147483647 (gc_nlt zc25) (jv_t x23) p21 (by decide)
              have hk29 := hk24.trans (if_neg zc25)
              refine g_iconst cx 1 (by decide) e_X0_foldPassed_43 ?_
              exact hret e_X0_foldPassed_44 (Nat.le_of_ble_eq_true rfl) (Nat.le_of_ble_eq_true rfl) rfl ⟨rfl, (jv_w (jv_k (x := 1) 1 (by decide)) (by decide)), (hk29.symm.trans hSP)⟩
  refine g_lsub [1, 2, 0] [(0, .ref (ad 37)), (1, .int a0), (2, .int 0)] rfl ?_
  exact J2 8589934592 0 (jv_w (jv_k (x := 0) 0 (by decide)) (by decide)) hk0 (show (2147483647 - (0 : Int32).toInt).toNat < 8589934592 from by have q0 := (jv_k (x := 0) 0 (by decide)).1; have q1 := (jv_k (x := 0) 0 (by decide)).2; omega)
def K_X0_feelCloth_198  (F22 : Nat → Int32) (R23 : Nat → Nat → Int32) : (Nat → Int32) × (Nat → Nat → Int32) :=
  (F22, R23)
def K_X0_feelCloth_176 (a0 : Int32) (y6 : Int32) (F20 : Nat → Int32) (R21 : Nat → Nat → Int32) : (Nat → Int32) × (Nat → Nat → Int32) :=
  if y6 = 0 then K_X0_feelCloth_198 F20 R21 else k_lt (R21 38 (Int32.toNatClampNeg a0)) (fun x29 => k_lt3 (sp_X2_ask_17 F20 R21 3) (fun r31 F35 R36 => k_lt (x29 + r31) (fun x38 => k_lt (g_u R36 38 (upd (R36 38) (Int32.toNatClampNeg a0) x38)) (fun R40 => K_X0_feelCloth_198 F35 R40))))
def K_X0_feelCloth_101 (F : Nat → Int32) (F10 : Nat → Int32) (R : Nat → Nat → Int32) (a0 : Int32) (x1 : Int32) (y5 : Int32) (y6 : Int32)  : (Nat → Int32) × (Nat → Nat → Int32) :=
  k_lt2 (sp_X0_describe F10 R a0) (fun F17 R18 => if y5 = 0 then k_lt3 (sp_X2_ask_17 F17 R18 1) (fun r69 F73 R74 => k_lt (x1 - r69) (fun x76 => k_lt (if 0 < x76 then x76 else 0) (fun x78 => k_lt (g_u R74 38 (upd (R74 38) (Int32.toNatClampNeg a0) x78)) (fun R80 => K_X0_feelCloth_176 a0 y6 F73 R80)))) else if x1 ≤ (F 604) then k_lt3 (sp_X2_ask_17 F17 R18 0) (fun r47 F51 R52 => k_lt (x1 + r47) (fun x54 => k_lt (if (F 604) < x54 then (F 604) else x54) (fun x56 => k_lt (g_u R52 38 (upd (R52 38) (Int32.toNatClampNeg a0) x56)) (fun R58 => K_X0_feelCloth_176 a0 y6 F51 R58)))) else k_lt (x1 - 1) (fun x63 => k_lt (g_u R18 38 (upd (R18 38) (Int32.toNatClampNeg a0) x63)) (fun R65 => K_X0_feelCloth_176 a0 y6 F17 R65)))
def K_X0_feelCloth_92 (F : Nat → Int32) (F10 : Nat → Int32) (R : Nat → Nat → Int32) (a0 : Int32) (x1 : Int32) (y5 : Int32) (y6 : Int32) (y12 : Int32) : (Nat → Int32) × (Nat → Nat → Int32) :=
  if x1 = y12 then if y6 = 0 then (F10, R) else K_X0_feelCloth_101 F F10 R a0 x1 y5 y6 else K_X0_feelCloth_101 F F10 R a0 x1 y5 y6
def K_X0_feelCloth_75 (F : Nat → Int32) (R : Nat → Nat → Int32) (a0 : Int32) (x1 : Int32) (y5 : Int32) (y6 : Int32) (y7 : Int32) : (Nat → Int32) × (Nat → Nat → Int32) :=
  k_lt ((F 605) ||| y7) (fun x8 => k_lt (upd F 605 x8) (fun F10 => if y5 = 0 then K_X0_feelCloth_92 F F10 R a0 x1 y5 y6 0 else K_X0_feelCloth_92 F F10 R a0 x1 y5 y6 (F 604)))
def K_X0_feelCloth_57 (F : Nat → Int32) (R : Nat → Nat → Int32) (a0 : Int32) (x1 : Int32) (y5 : Int32) (y6 : Int32) : (Nat → Int32) × (Nat → Nat → Int32) :=
  if y5 = 0 then K_X0_feelCloth_75 F R a0 x1 y5 y6 0 else k_lt (1 <<< (a0 &&& 31)) (fun x100 => K_X0_feelCloth_75 F R a0 x1 y5 y6 x100)
def K_X0_feelCloth_56 (F : Nat → Int32) (R : Nat → Nat → Int32) (a0 : Int32) (x1 : Int32) (y5 : Int32)  : (Nat → Int32) × (Nat → Nat → Int32) :=
  K_X0_feelCloth_57 F R a0 x1 y5 0
def K_X0_feelCloth_31 (F : Nat → Int32) (R : Nat → Nat → Int32) (a0 : Int32) (x1 : Int32) (y5 : Int32) : (Nat → Int32) × (Nat → Nat → Int32) :=
  if y5 = 0 then K_X0_feelCloth_56 F R a0 x1 y5 else k_lt (R 44 (Int32.toNatClampNeg a0)) (fun x107 => k_lt (sp_X0_foldPassed F R x107) (fun r109 => if r109 = 0 then K_X0_feelCloth_56 F R a0 x1 y5 else K_X0_feelCloth_57 F R a0 x1 y5 1))
def sp_X0_feelCloth (F : Nat → Int32) (R : Nat → Nat → Int32) (a0 : Int32) : (Nat → Int32) × (Nat → Nat → Int32) :=
  k_lt (R 38 (Int32.toNatClampNeg a0)) (fun x1 => k_lt (R 44 (Int32.toNatClampNeg a0)) (fun x3 => if (F 698) ≤ x3 then K_X0_feelCloth_31 F R a0 x1 0 else K_X0_feelCloth_31 F R a0 x1 1))
theorem e_X0_feelCloth_0 : g_dc cX0_feelCloth 0 (.aload_n 0) 1 1 := ⟨by decide +kernel, rfl⟩
theorem e_X0_feelCloth_1 : g_dc cX0_feelCloth 1 (.getfield 39) 3 4 := ⟨by decide +kernel, rfl⟩
theorem e_X0_feelCloth_4 : g_dc cX0_feelCloth 4 (.iload_n 1) 1 5 := ⟨by decide +kernel, rfl⟩
theorem e_X0_feelCloth_5 : g_dc cX0_feelCloth 5 (.iaload) 1 6 := ⟨by decide +kernel, rfl⟩
theorem e_X0_feelCloth_6 : g_dc cX0_feelCloth 6 (.istore_n 2) 1 7 := ⟨by decide +kernel, rfl⟩
theorem e_X0_feelCloth_7 : g_dc cX0_feelCloth 7 (.aload_n 0) 1 8 := ⟨by decide +kernel, rfl⟩
theorem e_X0_feelCloth_8 : g_dc cX0_feelCloth 8 (.getfield 35) 3 11 := ⟨by decide +kernel, rfl⟩
theorem e_X0_feelCloth_11 : g_dc cX0_feelCloth 11 (.getfield 159) 3 14 := ⟨by decide +kernel, rfl⟩
theorem e_X0_feelCloth_14 : g_dc cX0_feelCloth 14 (.iload_n 1) 1 15 := ⟨by decide +kernel, rfl⟩
theorem e_X0_feelCloth_15 : g_dc cX0_feelCloth 15 (.iaload) 1 16 := ⟨by decide +kernel, rfl⟩
theorem e_X0_feelCloth_16 : g_dc cX0_feelCloth 16 (.aload_n 0) 1 17 := ⟨by decide +kernel, rfl⟩
theorem e_X0_feelCloth_17 : g_dc cX0_feelCloth 17 (.getfield 35) 3 20 := ⟨by decide +kernel, rfl⟩
theorem e_X0_feelCloth_20 : g_dc cX0_feelCloth 20 (.getfield 156) 3 23 := ⟨by decide +kernel, rfl⟩
theorem e_X0_feelCloth_23 : g_dc cX0_feelCloth 23 (.if_icmp .ge 7) 3 26 := ⟨by decide +kernel, rfl⟩
theorem e_X0_feelCloth_26 : g_dc cX0_feelCloth 26 (.iconst 1) 1 27 := ⟨by decide +kernel, rfl⟩
theorem e_X0_feelCloth_27 : g_dc cX0_feelCloth 27 (.goto 4) 3 30 := ⟨by decide +kernel, rfl⟩
theorem e_X0_feelCloth_30 : g_dc cX0_feelCloth 30 (.iconst 0) 1 31 := ⟨by decide +kernel, rfl⟩
theorem e_X0_feelCloth_31 : g_dc cX0_feelCloth 31 (.istore_n 3) 1 32 := ⟨by decide +kernel, rfl⟩
theorem e_X0_feelCloth_32 : g_dc cX0_feelCloth 32 (.iload_n 3) 1 33 := ⟨by decide +kernel, rfl⟩
theorem e_X0_feelCloth_33 : g_dc cX0_feelCloth 33 (.ifCond .eq 23) 3 36 := ⟨by decide +kernel, rfl⟩
theorem e_X0_feelCloth_36 : g_dc cX0_feelCloth 36 (.aload_n 0) 1 37 := ⟨by decide +kernel, rfl⟩
theorem e_X0_feelCloth_37 : g_dc cX0_feelCloth 37 (.aload_n 0) 1 38 := ⟨by decide +kernel, rfl⟩
theorem e_X0_feelCloth_38 : g_dc cX0_feelCloth 38 (.getfield 35) 3 41 := ⟨by decide +kernel, rfl⟩
theorem e_X0_feelCloth_41 : g_dc cX0_feelCloth 41 (.getfield 159) 3 44 := ⟨by decide +kernel, rfl⟩
theorem e_X0_feelCloth_44 : g_dc cX0_feelCloth 44 (.iload_n 1) 1 45 := ⟨by decide +kernel, rfl⟩
theorem e_X0_feelCloth_45 : g_dc cX0_feelCloth 45 (.iaload) 1 46 := ⟨by decide +kernel, rfl⟩
theorem e_X0_feelCloth_46 : g_dc cX0_feelCloth 46 (.invokevirtual 162) 3 49 := ⟨by decide +kernel, rfl⟩
theorem e_X0_feelCloth_49 : g_dc cX0_feelCloth 49 (.ifCond .eq 7) 3 52 := ⟨by decide +kernel, rfl⟩
theorem e_X0_feelCloth_52 : g_dc cX0_feelCloth 52 (.iconst 1) 1 53 := ⟨by decide +kernel, rfl⟩
theorem e_X0_feelCloth_53 : g_dc cX0_feelCloth 53 (.goto 4) 3 56 := ⟨by decide +kernel, rfl⟩
theorem e_X0_feelCloth_56 : g_dc cX0_feelCloth 56 (.iconst 0) 1 57 := ⟨by decide +kernel, rfl⟩
theorem e_X0_feelCloth_57 : g_dc cX0_feelCloth 57 (.istore 4) 2 59 := ⟨by decide +kernel, rfl⟩
theorem e_X0_feelCloth_59 : g_dc cX0_feelCloth 59 (.aload_n 0) 1 60 := ⟨by decide +kernel, rfl⟩
theorem e_X0_feelCloth_60 : g_dc cX0_feelCloth 60 (.dup) 1 61 := ⟨by decide +kernel, rfl⟩
theorem e_X0_feelCloth_61 : g_dc cX0_feelCloth 61 (.getfield 65) 3 64 := ⟨by decide +kernel, rfl⟩
theorem e_X0_feelCloth_64 : g_dc cX0_feelCloth 64 (.iload_n 3) 1 65 := ⟨by decide +kernel, rfl⟩
theorem e_X0_feelCloth_65 : g_dc cX0_feelCloth 65 (.ifCond .eq 9) 3 68 := ⟨by decide +kernel, rfl⟩
theorem e_X0_feelCloth_68 : g_dc cX0_feelCloth 68 (.iconst 1) 1 69 := ⟨by decide +kernel, rfl⟩
theorem e_X0_feelCloth_69 : g_dc cX0_feelCloth 69 (.iload_n 1) 1 70 := ⟨by decide +kernel, rfl⟩
theorem e_X0_feelCloth_70 : g_dc cX0_feelCloth 70 (.ishl) 1 71 := ⟨by decide +kernel, rfl⟩
theorem e_X0_feelCloth_71 : g_dc cX0_feelCloth 71 (.goto 4) 3 74 := ⟨by decide +kernel, rfl⟩
theorem e_X0_feelCloth_74 : g_dc cX0_feelCloth 74 (.iconst 0) 1 75 := ⟨by decide +kernel, rfl⟩
theorem e_X0_feelCloth_75 : g_dc cX0_feelCloth 75 (.ior) 1 76 := ⟨by decide +kernel, rfl⟩
theorem e_X0_feelCloth_76 : g_dc cX0_feelCloth 76 (.putfield 65) 3 79 := ⟨by decide +kernel, rfl⟩
theorem e_X0_feelCloth_79 : g_dc cX0_feelCloth 79 (.iload_n 2) 1 80 := ⟨by decide +kernel, rfl⟩
theorem e_X0_feelCloth_80 : g_dc cX0_feelCloth 80 (.iload_n 3) 1 81 := ⟨by decide +kernel, rfl⟩
theorem e_X0_feelCloth_81 : g_dc cX0_feelCloth 81 (.ifCond .eq 10) 3 84 := ⟨by decide +kernel, rfl⟩
theorem e_X0_feelCloth_84 : g_dc cX0_feelCloth 84 (.aload_n 0) 1 85 := ⟨by decide +kernel, rfl⟩
theorem e_X0_feelCloth_85 : g_dc cX0_feelCloth 85 (.getfield 62) 3 88 := ⟨by decide +kernel, rfl⟩
theorem e_X0_feelCloth_88 : g_dc cX0_feelCloth 88 (.goto 4) 3 91 := ⟨by decide +kernel, rfl⟩
theorem e_X0_feelCloth_91 : g_dc cX0_feelCloth 91 (.iconst 0) 1 92 := ⟨by decide +kernel, rfl⟩
theorem e_X0_feelCloth_92 : g_dc cX0_feelCloth 92 (.if_icmp .ne 9) 3 95 := ⟨by decide +kernel, rfl⟩
theorem e_X0_feelCloth_95 : g_dc cX0_feelCloth 95 (.iload 4) 2 97 := ⟨by decide +kernel, rfl⟩
theorem e_X0_feelCloth_97 : g_dc cX0_feelCloth 97 (.ifCond .ne 4) 3 100 := ⟨by decide +kernel, rfl⟩
theorem e_X0_feelCloth_100 : g_dc cX0_feelCloth 100 (.return_) 1 101 := ⟨by decide +kernel, rfl⟩
theorem e_X0_feelCloth_101 : g_dc cX0_feelCloth 101 (.aload_n 0) 1 102 := ⟨by decide +kernel, rfl⟩
theorem e_X0_feelCloth_102 : g_dc cX0_feelCloth 102 (.iload_n 1) 1 103 := ⟨by decide +kernel, rfl⟩
theorem e_X0_feelCloth_103 : g_dc cX0_feelCloth 103 (.invokevirtual 165) 3 106 := ⟨by decide +kernel, rfl⟩
theorem e_X0_feelCloth_106 : g_dc cX0_feelCloth 106 (.iload_n 3) 1 107 := ⟨by decide +kernel, rfl⟩
theorem e_X0_feelCloth_107 : g_dc cX0_feelCloth 107 (.ifCond .ne 26) 3 110 := ⟨by decide +kernel, rfl⟩
theorem e_X0_feelCloth_110 : g_dc cX0_feelCloth 110 (.aload_n 0) 1 111 := ⟨by decide +kernel, rfl⟩
theorem e_X0_feelCloth_111 : g_dc cX0_feelCloth 111 (.getfield 39) 3 114 := ⟨by decide +kernel, rfl⟩
theorem e_X0_feelCloth_114 : g_dc cX0_feelCloth 114 (.iload_n 1) 1 115 := ⟨by decide +kernel, rfl⟩
theorem e_X0_feelCloth_115 : g_dc cX0_feelCloth 115 (.iconst 0) 1 116 := ⟨by decide +kernel, rfl⟩
theorem e_X0_feelCloth_116 : g_dc cX0_feelCloth 116 (.iload_n 2) 1 117 := ⟨by decide +kernel, rfl⟩
theorem e_X0_feelCloth_117 : g_dc cX0_feelCloth 117 (.aload_n 0) 1 118 := ⟨by decide +kernel, rfl⟩
theorem e_X0_feelCloth_118 : g_dc cX0_feelCloth 118 (.getfield 71) 3 121 := ⟨by decide +kernel, rfl⟩
theorem e_X0_feelCloth_121 : g_dc cX0_feelCloth 121 (.iconst 1) 1 122 := ⟨by decide +kernel, rfl⟩
theorem e_X0_feelCloth_122 : g_dc cX0_feelCloth 122 (.invokevirtual 149) 3 125 := ⟨by decide +kernel, rfl⟩
theorem e_X0_feelCloth_125 : g_dc cX0_feelCloth 125 (.isub) 1 126 := ⟨by decide +kernel, rfl⟩
theorem e_X0_feelCloth_126 : g_dc cX0_feelCloth 126 (.invokestatic 152) 3 129 := ⟨by decide +kernel, rfl⟩
theorem e_X0_feelCloth_129 : g_dc cX0_feelCloth 129 (.iastore) 1 130 := ⟨by decide +kernel, rfl⟩
theorem e_X0_feelCloth_130 : g_dc cX0_feelCloth 130 (.goto 46) 3 133 := ⟨by decide +kernel, rfl⟩
theorem e_X0_feelCloth_133 : g_dc cX0_feelCloth 133 (.iload_n 2) 1 134 := ⟨by decide +kernel, rfl⟩
theorem e_X0_feelCloth_134 : g_dc cX0_feelCloth 134 (.aload_n 0) 1 135 := ⟨by decide +kernel, rfl⟩
theorem e_X0_feelCloth_135 : g_dc cX0_feelCloth 135 (.getfield 62) 3 138 := ⟨by decide +kernel, rfl⟩
theorem e_X0_feelCloth_138 : g_dc cX0_feelCloth 138 (.if_icmp .le 15) 3 141 := ⟨by decide +kernel, rfl⟩
theorem e_X0_feelCloth_141 : g_dc cX0_feelCloth 141 (.aload_n 0) 1 142 := ⟨by decide +kernel, rfl⟩
theorem e_X0_feelCloth_142 : g_dc cX0_feelCloth 142 (.getfield 39) 3 145 := ⟨by decide +kernel, rfl⟩
theorem e_X0_feelCloth_145 : g_dc cX0_feelCloth 145 (.iload_n 1) 1 146 := ⟨by decide +kernel, rfl⟩
theorem e_X0_feelCloth_146 : g_dc cX0_feelCloth 146 (.iload_n 2) 1 147 := ⟨by decide +kernel, rfl⟩
theorem e_X0_feelCloth_147 : g_dc cX0_feelCloth 147 (.iconst 1) 1 148 := ⟨by decide +kernel, rfl⟩
theorem e_X0_feelCloth_148 : g_dc cX0_feelCloth 148 (.isub) 1 149 := ⟨by decide +kernel, rfl⟩
theorem e_X0_feelCloth_149 : g_dc cX0_feelCloth 149 (.iastore) 1 150 := ⟨by decide +kernel, rfl⟩
theorem e_X0_feelCloth_150 : g_dc cX0_feelCloth 150 (.goto 26) 3 153 := ⟨by decide +kernel, rfl⟩
theorem e_X0_feelCloth_153 : g_dc cX0_feelCloth 153 (.aload_n 0) 1 154 := ⟨by decide +kernel, rfl⟩
theorem e_X0_feelCloth_154 : g_dc cX0_feelCloth 154 (.getfield 39) 3 157 := ⟨by decide +kernel, rfl⟩
theorem e_X0_feelCloth_157 : g_dc cX0_feelCloth 157 (.iload_n 1) 1 158 := ⟨by decide +kernel, rfl⟩
theorem e_X0_feelCloth_158 : g_dc cX0_feelCloth 158 (.iload_n 2) 1 159 := ⟨by decide +kernel, rfl⟩
theorem e_X0_feelCloth_159 : g_dc cX0_feelCloth 159 (.aload_n 0) 1 160 := ⟨by decide +kernel, rfl⟩
theorem e_X0_feelCloth_160 : g_dc cX0_feelCloth 160 (.getfield 71) 3 163 := ⟨by decide +kernel, rfl⟩
theorem e_X0_feelCloth_163 : g_dc cX0_feelCloth 163 (.iconst 0) 1 164 := ⟨by decide +kernel, rfl⟩
theorem e_X0_feelCloth_164 : g_dc cX0_feelCloth 164 (.invokevirtual 149) 3 167 := ⟨by decide +kernel, rfl⟩
theorem e_X0_feelCloth_167 : g_dc cX0_feelCloth 167 (.iadd) 1 168 := ⟨by decide +kernel, rfl⟩
theorem e_X0_feelCloth_168 : g_dc cX0_feelCloth 168 (.aload_n 0) 1 169 := ⟨by decide +kernel, rfl⟩
theorem e_X0_feelCloth_169 : g_dc cX0_feelCloth 169 (.getfield 62) 3 172 := ⟨by decide +kernel, rfl⟩
theorem e_X0_feelCloth_172 : g_dc cX0_feelCloth 172 (.invokestatic 168) 3 175 := ⟨by decide +kernel, rfl⟩
theorem e_X0_feelCloth_175 : g_dc cX0_feelCloth 175 (.iastore) 1 176 := ⟨by decide +kernel, rfl⟩
theorem e_X0_feelCloth_176 : g_dc cX0_feelCloth 176 (.iload 4) 2 178 := ⟨by decide +kernel, rfl⟩
theorem e_X0_feelCloth_178 : g_dc cX0_feelCloth 178 (.ifCond .eq 20) 3 181 := ⟨by decide +kernel, rfl⟩
theorem e_X0_feelCloth_181 : g_dc cX0_feelCloth 181 (.aload_n 0) 1 182 := ⟨by decide +kernel, rfl⟩
theorem e_X0_feelCloth_182 : g_dc cX0_feelCloth 182 (.getfield 39) 3 185 := ⟨by decide +kernel, rfl⟩
theorem e_X0_feelCloth_185 : g_dc cX0_feelCloth 185 (.iload_n 1) 1 186 := ⟨by decide +kernel, rfl⟩
theorem e_X0_feelCloth_186 : g_dc cX0_feelCloth 186 (.dup2) 1 187 := ⟨by decide +kernel, rfl⟩
theorem e_X0_feelCloth_187 : g_dc cX0_feelCloth 187 (.iaload) 1 188 := ⟨by decide +kernel, rfl⟩
theorem e_X0_feelCloth_188 : g_dc cX0_feelCloth 188 (.aload_n 0) 1 189 := ⟨by decide +kernel, rfl⟩
theorem e_X0_feelCloth_189 : g_dc cX0_feelCloth 189 (.getfield 71) 3 192 := ⟨by decide +kernel, rfl⟩
theorem e_X0_feelCloth_192 : g_dc cX0_feelCloth 192 (.iconst 3) 1 193 := ⟨by decide +kernel, rfl⟩
theorem e_X0_feelCloth_193 : g_dc cX0_feelCloth 193 (.invokevirtual 149) 3 196 := ⟨by decide +kernel, rfl⟩
theorem e_X0_feelCloth_196 : g_dc cX0_feelCloth 196 (.iadd) 1 197 := ⟨by decide +kernel, rfl⟩
theorem e_X0_feelCloth_197 : g_dc cX0_feelCloth 197 (.iastore) 1 198 := ⟨by decide +kernel, rfl⟩
theorem e_X0_feelCloth_198 : g_dc cX0_feelCloth 198 (.return_) 1 199 := ⟨by decide +kernel, rfl⟩
def md_X0_feelCloth : List Nat := [605]
def mr_X0_feelCloth : List Nat := [23, 24, 38]
set_option maxHeartbeats 4000000 in
set_option maxRecDepth 100000 in
theorem w_X0_feelCloth (l : Launch) (X : gX) (ad : Nat → Nat) (F : Nat → Int32) (R : Nat → Nat → Int32) (hI : g_ok LK_wX F) (hA : g_okR LA_wX R) (a0 : Int32) (pa0 : jv 0 9 a0) : g_Cv l X yX0_feelCloth cX0_feelCloth 5 4 0 0 [.ref (ad 37), .int a0] (wX X ad F R) (fun w => ∃ (F' : Nat → Int32) (R' : Nat → Nat → Int32), w = wX X ad F' R' ∧ g_ok LK_wX F' ∧ g_okR LA_wX R' ∧ g_fr md_X0_feelCloth F F' ∧ g_fr mr_X0_feelCloth R R' ∧ (F', R') = sp_X0_feelCloth F R a0) := by
  refine g_mv (by decide +kernel) (Nat.le_of_ble_eq_true rfl) (fun E cx hret => ?_)
  obtain ⟨SP, hSP⟩ : ∃ z, z = sp_X0_feelCloth F R a0 := ⟨_, rfl⟩
  have hk0 := hSP
  unfold sp_X0_feelCloth at hk0
  refine g_aload_n cx 0 rfl e_X0_feelCloth_0 ?_
  refine g_get cx cl_X0 fl_X0_39 37 (.ref (ad 38)) e_X0_feelCloth_1 rfl rfl ?_
  refine g_iload_n cx 1 rfl e_X0_feelCloth_4 ?_
  refine g_iald cx 38 e_X0_feelCloth_5 rfl (jv_ix 10 pa0 (by decide)) ?_
  refine g_topi (fun x1 ex1 => ?_)
  have hk2 := k_ls hk0 ex1
  refine g_istore_n cx [(2, .int x1), (0, .ref (ad 37)), (1, .int a0)] e_X0_feelCloth_6 (by decide) rfl ?_
  refine g_aload_n cx 1 rfl e_X0_feelCloth_7 ?_
  refine g_get cx cl_X0 fl_X0_35 37 (.ref (ad 43)) e_X0_feelCloth_8 rfl rfl ?_
  refine g_getN cx cl_X4 fn_X0_159 43 (.ref (ad 44)) e_X0_feelCloth_11 rfl rfl ?_
  refine g_iload_n cx 2 rfl e_X0_feelCloth_14 ?_
  refine g_iald cx 44 e_X0_feelCloth_15 rfl (jv_ix 10 pa0 (by decide)) ?_
  refine g_topi (fun x3 ex3 => ?_)
  have hk4 := k_ls hk2 ex3
  refine g_aload_n cx 1 rfl e_X0_feelCloth_16 ?_
  refine g_get cx cl_X0 fl_X0_35 37 (.ref (ad 43)) e_X0_feelCloth_17 rfl rfl ?_
  refine g_getN cx cl_X4 fn_X0_156 43 (.int (F 698)) e_X0_feelCloth_20 rfl rfl ?_
  have J31 : ∀ (y5 : Int32), (jv 0 1 y5) → (SP = K_X0_feelCloth_31 F R a0 x1 y5) → G X E 5 0 0 (wX X ad F R) [(0, .ref (ad 37)), (1, .int a0), (2, .int x1)] 31 [.int y5] := by
    intro y5 py5 hkJ31
    unfold K_X0_feelCloth_31 at hkJ31
    refine g_istore_n cx [(3, .int y5), (0, .ref (ad 37)), (1, .int a0), (2, .int x1)] e_X0_feelCloth_31 (by decide) rfl ?_
    refine g_iload_n cx 0 rfl e_X0_feelCloth_32 ?_
    have J57 : ∀ (y6 : Int32), (jv 0 1 y6) → (SP = K_X0_feelCloth_57 F R a0 x1 y5 y6) → G X E 5 0 0 (wX X ad F R) [(0, .ref (ad 37)), (1, .int a0), (2, .int x1), (3, .int y5)] 57 [.int y6] := by
      intro y6 py6 hkJ57
      unfold K_X0_feelCloth_57 at hkJ57
      refine g_istore cx [(4, .int y6), (0, .ref (ad 37)), (1, .int a0), (2, .int x1), (3, .int y5)] e_X0_feelCloth_57 (by decide) rfl ?_
      refine g_aload_n cx 1 rfl e_X0_feelCloth_59 ?_
      refine g_dup cx rfl e_X0_feelCloth_60 ?_
      refine g_get cx cl_X0 fl_X0_65 37 (.int (F 605)) e_X0_feelCloth_61 rfl rfl ?_
      refine g_iload_n cx 4 rfl e_X0_feelCloth_64 ?_
      have J75 : ∀ (y7 : Int32), (jv (-2147483648) 2147483647 y7) → (SP = K_X0_feelCloth_75 F R a0 x1 y5 y6 y7) → G X E 5 0 0 (wX X ad F R) [(0, .ref (ad 37)), (1, .int a0), (2, .int x1), (3, .int y5), (4, .int y6)] 75 [.int y7, .int (F 605), .ref (ad 37)] := by
        intro y7 py7 hkJ75
        unfold K_X0_feelCloth_75 at hkJ75
        refine g_ior cx e_X0_feelCloth_75 ?_
        refine g_topi (fun x8 ex8 => ?_)
        have hk9 := k_ls hkJ75 ex8
        refine g_put cx cl_X0 fl_X0_65 37 (wX X ad (upd F 605 x8) R) e_X0_feelCloth_76 rfl rfl rfl rfl (Nat.le_of_ble_eq_true rfl) rfl ?_
        obtain ⟨F10, hF10⟩ : ∃ z, z = upd F 605 x8 := ⟨_, rfl⟩
        rw [← hF10]
        have hk11 := k_ls hk9 hF10
        have oF10 : g_ok LK_wX F10 := by rw [hF10]; exact g_ok_u hI rfl
        have fF10 : g_fr md_X0_feelCloth F F10 := by rw [hF10]; exact g_fr_u (g_fr_rf F) rfl
        refine g_iload_n cx 2 rfl e_X0_feelCloth_79 ?_
        refine g_iload_n cx 3 rfl e_X0_feelCloth_80 ?_
        have J92 : ∀ (y12 : Int32), (jv (-2147483648) 2147483647 y12) → (SP = K_X0_feelCloth_92 F F10 R a0 x1 y5 y6 y12) → G X E 5 0 0 (wX X ad F10 R) [(0, .ref (ad 37)), (1, .int a0), (2, .int x1), (3, .int y5), (4, .int y6)] 92 [.int y12, .int x1] := by
          intro y12 py12 hkJ92
          unfold K_X0_feelCloth_92 at hkJ92
          have J101 : (SP = K_X0_feelCloth_101 F F10 R a0 x1 y5 y6) → G X E 5 0 0 (wX X ad F10 R) [(0, .ref (ad 37)), (1, .int a0), (2, .int x1), (3, .int y5), (4, .int y6)] 101 [] := by
            intro   hkJ101
            unfold K_X0_feelCloth_101 at hkJ101
            refine g_aload_n cx 0 rfl e_X0_feelCloth_101 ?_
            refine g_iload_n cx 1 rfl e_X0_feelCloth_102 ?_
            refine g_cVvW cx [.int a0] [] (w_X0_describe l X ad F10 R oF10 hA a0 pa0) ml_X0_165 yV_X0_describe e_X0_feelCloth_103 (by unfold g_rr; decide) (by decide) 37 rfl rfl rfl (Nat.le_of_ble_eq_true rfl) (fun w14 h15 => ?_)
            obtain ⟨F17, R18, rfl, oF17, oR18, cF17, cR18, hx16⟩ := h15
            have hk19 := k_ls2 hkJ101 hx16
            have fF17 : g_fr md_X0_feelCloth F F17 := g_fr_c fF10 cF17 rfl
            have fR18 : g_fr mr_X0_feelCloth R R18 := g_fr_c (g_fr_rf R) cR18 rfl
            refine g_iload_n cx 3 rfl e_X0_feelCloth_106 ?_
            have J176 : ∀ (F20 : Nat → Int32) (R21 : Nat → Nat → Int32), (g_ok LK_wX F20) → (g_fr md_X0_feelCloth F F20) → (g_okR LA_wX R21) → (g_fr mr_X0_feelCloth R R21) → (SP = K_X0_feelCloth_176 a0 y6 F20 R21) → G X E 5 0 0 (wX X ad F20 R21) [(0, .ref (ad 37)), (1, .int a0), (4, .int y6)] 176 [] := by
              intro F20 R21 oF20 fF20 oR21 fR21 hkJ176
              unfold K_X0_feelCloth_176 at hkJ176
              refine g_iload cx 2 rfl e_X0_feelCloth_176 ?_
              have J198 : ∀ (F22 : Nat → Int32) (R23 : Nat → Nat → Int32), (g_ok LK_wX F22) → (g_fr md_X0_feelCloth F F22) → (g_okR LA_wX R23) → (g_fr mr_X0_feelCloth R R23) → (SP = K_X0_feelCloth_198 F22 R23) → G X E 5 0 0 (wX X ad F22 R23) [] 198 [] := by
                intro F22 R23 oF22 fF22 oR23 fR23 hkJ198
                unfold K_X0_feelCloth_198 at hkJ198
                exact hret e_X0_feelCloth_198 (Nat.le_of_ble_eq_true rfl) (Nat.le_of_ble_eq_true rfl) ⟨F22, R23, rfl, oF22, oR23, fF22, fR23, (hkJ198.symm.trans hSP)⟩
              refine g_if_eq cx 198 e_X0_feelCloth_178 (by decide) (fun zc24 => ?_) (fun zc24 => ?_)
              · have p25 := gn_eq 0 0 (gc_eq zc24) py6 (jv_k (x := 0) 0 (by decide)) (by decide)
                have hk26 := hkJ176.trans (if_pos zc24)
                refine g_lsub [] [] rfl ?_
                exact J198 F20 R21 oF20 fF20 oR21 fR21 hk26
              · have p27 := gn_neL 1 1 (gc_ne zc24) py6 (jv_k (x := 0) 0 (by decide)) (by decide)
                have hk28 := hkJ176.trans (if_neg zc24)
                refine g_aload_n cx 0 rfl e_X0_feelCloth_181 ?_
                refine g_get cx cl_X0 fl_X0_39 37 (.ref (ad 38)) e_X0_feelCloth_182 rfl rfl ?_
                refine g_iload_n cx 1 rfl e_X0_feelCloth_185 ?_
                refine g_dup2 cx rfl rfl e_X0_feelCloth_186 ?_
                refine g_iald cx 38 e_X0_feelCloth_187 rfl (jv_ix 10 pa0 (by decide)) ?_
                refine g_topi (fun x29 ex29 => ?_)
                have hk30 := k_ls hk28 ex29
                refine g_aload_n cx 0 rfl e_X0_feelCloth_188 ?_
                refine g_get cx cl_X0 fl_X0_71 37 (.ref (ad 17)) e_X0_feelCloth_189 rfl rfl ?_
                refine g_iconst cx 3 (by decide) e_X0_feelCloth_192 ?_
                refine g_cViW cx [.int 3] [.int x29, .int a0, .ref (ad 38)] (w_X2_ask_17 l X ad F20 R21 oF20 oR21 3) ml_X0_149 yV_X2_ask e_X0_feelCloth_193 (by unfold g_rr; decide) (by decide) 17 rfl rfl rfl (Nat.le_of_ble_eq_true rfl) (fun r31 w32 h33 => ?_)
                obtain ⟨F35, R36, rfl, oF35, oR36, cF35, cR36, pr31, hx34⟩ := h33
                have hk37 := k_ls3 hk30 hx34
                have fF35 : g_fr md_X0_feelCloth F F35 := g_fr_c fF20 cF35 rfl
                have fR36 : g_fr mr_X0_feelCloth R R36 := g_fr_c fR21 cR36 rfl
                refine g_iadd cx e_X0_feelCloth_196 ?_
                refine g_topi (fun x38 ex38 => ?_)
                have hk39 := k_ls hk37 ex38
                refine g_iast cx 38 (wX X ad F35 (g_u R36 38 (upd (R36 38) (Int32.toNatClampNeg a0) x38))) e_X0_feelCloth_197 rfl (jv_ix 10 pa0 (by decide)) rfl ?_
                obtain ⟨R40, hR40⟩ : ∃ z, z = g_u R36 38 (upd (R36 38) (Int32.toNatClampNeg a0) x38) := ⟨_, rfl⟩
                rw [← hR40]
                have hk41 := k_ls hk39 hR40
                have oR40 : g_okR LA_wX R40 := by rw [hR40]; exact g_okR_u oR36 rfl
                have fR40 : g_fr mr_X0_feelCloth R R40 := by rw [hR40]; exact g_fr_r fR36 rfl
                refine g_lsub [] [] rfl ?_
                exact J198 F35 R40 oF35 fF35 oR40 fR40 hk41
            refine g_if_ne cx 133 e_X0_feelCloth_107 (by decide) (fun zc42 => ?_) (fun zc42 => ?_)
            · have p43 := gn_neL 1 1 (gc_ne zc42) py5 (jv_k (x := 0) 0 (by decide)) (by decide)
              have hk44 := hk19.trans (if_neg zc42)
              refine g_iload_n cx 2 rfl e_X0_feelCloth_133 ?_
              refine g_aload_n cx 0 rfl e_X0_feelCloth_134 ?_
              refine g_get cx cl_X0 fl_X0_62 37 (.int (F17 604)) e_X0_feelCloth_135 rfl rfl ?_
              refine g_toi (F 604) ((cF17 604 rfl).trans (g_pu2 hF10 rfl)) ?_
              refine g_icmp_le cx 153 e_X0_feelCloth_138 (by decide) (fun zc45 => ?_) (fun zc45 => ?_)
              · have hk46 := hk44.trans (if_pos zc45)
                refine g_aload_n cx 0 rfl e_X0_feelCloth_153 ?_
                refine g_get cx cl_X0 fl_X0_39 37 (.ref (ad 38)) e_X0_feelCloth_154 rfl rfl ?_
                refine g_iload_n cx 1 rfl e_X0_feelCloth_157 ?_
                refine g_iload_n cx 2 rfl e_X0_feelCloth_158 ?_
                refine g_aload_n cx 0 rfl e_X0_feelCloth_159 ?_
                refine g_get cx cl_X0 fl_X0_71 37 (.ref (ad 17)) e_X0_feelCloth_160 rfl rfl ?_
                refine g_iconst cx 0 (by decide) e_X0_feelCloth_163 ?_
                refine g_cViW cx [.int 0] [.int x1, .int a0, .ref (ad 38)] (w_X2_ask_17 l X ad F17 R18 oF17 oR18 0) ml_X0_149 yV_X2_ask e_X0_feelCloth_164 (by unfold g_rr; decide) (by decide) 17 rfl rfl rfl (Nat.le_of_ble_eq_true rfl) (fun r47 w48 h49 => ?_)
                obtain ⟨F51, R52, rfl, oF51, oR52, cF51, cR52, pr47, hx50⟩ := h49
                have hk53 := k_ls3 hk46 hx50
                have fF51 : g_fr md_X0_feelCloth F F51 := g_fr_c fF17 cF51 rfl
                have fR52 : g_fr mr_X0_feelCloth R R52 := g_fr_c fR18 cR52 rfl
                refine g_iadd cx e_X0_feelCloth_167 ?_
                refine g_topi (fun x54 ex54 => ?_)
                have hk55 := k_ls hk53 ex54
                refine g_aload_n cx 0 rfl e_X0_feelCloth_168 ?_
                refine g_get cx cl_X0 fl_X0_62 37 (.int (F51 604)) e_X0_feelCloth_169 rfl rfl ?_
                refine g_toi (F 604) (((cF51 604 rfl).trans (cF17 604 rfl)).trans (g_pu2 hF10 rfl)) ?_
                refine g_mmin cx ml_X0_168 e_X0_feelCloth_172 ⟨Nat.le_of_ble_eq_true rfl, Nat.le_of_ble_eq_true rfl⟩ (by decide) ?_
                refine g_topi (fun x56 ex56 => ?_)
                have hk57 := k_ls hk55 ex56
                refine g_iast cx 38 (wX X ad F51 (g_u R52 38 (upd (R52 38) (Int32.toNatClampNeg a0) x56))) e_X0_feelCloth_175 rfl (jv_ix 10 pa0 (by decide)) rfl ?_
                obtain ⟨R58, hR58⟩ : ∃ z, z = g_u R52 38 (upd (R52 38) (Int32.toNatClampNeg a0) x56) := ⟨_, rfl⟩
                rw [← hR58]
                have hk59 := k_ls hk57 hR58
                have oR58 : g_okR LA_wX R58 := by rw [hR58]; exact g_okR_u oR52 rfl
                have fR58 : g_fr mr_X0_feelCloth R R58 := by rw [hR58]; exact g_fr_r fR52 rfl
                refine g_lsub [0, 1, 4] [(0, .ref (ad 37)), (1, .int a0), (4, .int y6)] rfl ?_
                exact J176 F51 R58 oF51 fF51 oR58 fR58 hk59
              · have p60 := gn_lt (-2147483648) 2147483646 (gc_nle zc45) (jv_t (F 604)) (jv_t x1) (by decide)
                have p61 := gn_gt (-2147483647) 2147483647 (gc_nle zc45) (jv_t x1) (jv_t (F 604)) (by decide)
                have hk62 := hk44.trans (if_neg zc45)
                refine g_aload_n cx 0 rfl e_X0_feelCloth_141 ?_
                refine g_get cx cl_X0 fl_X0_39 37 (.ref (ad 38)) e_X0_feelCloth_142 rfl rfl ?_
                refine g_iload_n cx 1 rfl e_X0_feelCloth_145 ?_
                refine g_iload_n cx 2 rfl e_X0_feelCloth_146 ?_
                refine g_iconst cx 1 (by decide) e_X0_feelCloth_147 ?_
                refine g_isub cx e_X0_feelCloth_148 ?_
                refine g_topi (fun x63 ex63 => ?_)
                have hk64 := k_ls hk62 ex63
                have zx63 := jv_sub (-2147483648) 2147483646 ex63 p61 (jv_k (x := 1) 1 (by decide)) (by decide)
                refine g_iast cx 38 (wX X ad F17 (g_u R18 38 (upd (R18 38) (Int32.toNatClampNeg a0) x63))) e_X0_feelCloth_149 rfl (jv_ix 10 pa0 (by decide)) rfl ?_
                obtain ⟨R65, hR65⟩ : ∃ z, z = g_u R18 38 (upd (R18 38) (Int32.toNatClampNeg a0) x63) := ⟨_, rfl⟩
                rw [← hR65]
                have hk66 := k_ls hk64 hR65
                have oR65 : g_okR LA_wX R65 := by rw [hR65]; exact g_okR_u oR18 rfl
                have fR65 : g_fr mr_X0_feelCloth R R65 := by rw [hR65]; exact g_fr_r fR18 rfl
                refine g_goto cx 176 e_X0_feelCloth_150 (by decide) ?_
                refine g_lsub [0, 1, 4] [(0, .ref (ad 37)), (1, .int a0), (4, .int y6)] rfl ?_
                exact J176 F17 R65 oF17 fF17 oR65 fR65 hk66
            · have p67 := gn_eq 0 0 (gc_eq zc42) py5 (jv_k (x := 0) 0 (by decide)) (by decide)
              have hk68 := hk19.trans (if_pos zc42)
              refine g_aload_n cx 0 rfl e_X0_feelCloth_110 ?_
              refine g_get cx cl_X0 fl_X0_39 37 (.ref (ad 38)) e_X0_feelCloth_111 rfl rfl ?_
              refine g_iload_n cx 1 rfl e_X0_feelCloth_114 ?_
              refine g_iconst cx 0 (by decide) e_X0_feelCloth_115 ?_
              refine g_iload_n cx 2 rfl e_X0_feelCloth_116 ?_
              refine g_aload_n cx 0 rfl e_X0_feelCloth_117 ?_
              refine g_get cx cl_X0 fl_X0_71 37 (.ref (ad 17)) e_X0_feelCloth_118 rfl rfl ?_
              refine g_iconst cx 1 (by decide) e_X0_feelCloth_121 ?_
              refine g_cViW cx [.int 1] [.int x1, .int 0, .int a0, .ref (ad 38)] (w_X2_ask_17 l X ad F17 R18 oF17 oR18 1) ml_X0_149 yV_X2_ask e_X0_feelCloth_122 (by unfold g_rr; decide) (by decide) 17 rfl rfl rfl (Nat.le_of_ble_eq_true rfl) (fun r69 w70 h71 => ?_)
              obtain ⟨F73, R74, rfl, oF73, oR74, cF73, cR74, pr69, hx72⟩ := h71
              have hk75 := k_ls3 hk68 hx72
              have fF73 : g_fr md_X0_feelCloth F F73 := g_fr_c fF17 cF73 rfl
              have fR74 : g_fr mr_X0_feelCloth R R74 := g_fr_c fR18 cR74 rfl
              refine g_isub cx e_X0_feelCloth_125 ?_
              refine g_topi (fun x76 ex76 => ?_)
              have hk77 := k_ls hk75 ex76
              refine g_mmax cx ml_X0_152 e_X0_feelCloth_126 ⟨Nat.le_of_ble_eq_true rfl, Nat.le_of_ble_eq_true rfl⟩ (by decide) ?_
              refine g_topi (fun x78 ex78 => ?_)
              have hk79 := k_ls hk77 ex78
              have px78 := jv_max 0 2147483647 ex78 (jv_k (x := 0) 0 (by decide)) (jv_t x76) (by decide)
              refine g_iast cx 38 (wX X ad F73 (g_u R74 38 (upd (R74 38) (Int32.toNatClampNeg a0) x78))) e_X0_feelCloth_129 rfl (jv_ix 10 pa0 (by decide)) rfl ?_
              obtain ⟨R80, hR80⟩ : ∃ z, z = g_u R74 38 (upd (R74 38) (Int32.toNatClampNeg a0) x78) := ⟨_, rfl⟩
              rw [← hR80]
              have hk81 := k_ls hk79 hR80
              have oR80 : g_okR LA_wX R80 := by rw [hR80]; exact g_okR_u oR74 rfl
              have fR80 : g_fr mr_X0_feelCloth R R80 := by rw [hR80]; exact g_fr_r fR74 rfl
              refine g_goto cx 176 e_X0_feelCloth_130 (by decide) ?_
              refine g_lsub [0, 1, 4] [(0, .ref (ad 37)), (1, .int a0), (4, .int y6)] rfl ?_
              exact J176 F73 R80 oF73 fF73 oR80 fR80 hk81
          refine g_icmp_ne cx 101 e_X0_feelCloth_92 (by decide) (fun zc82 => ?_) (fun zc82 => ?_)
          · have hk83 := hkJ92.trans (if_neg zc82)
            exact J101  hk83
          · have hk84 := hkJ92.trans (if_pos zc82)
            refine g_iload cx 4 rfl e_X0_feelCloth_95 ?_
            refine g_if_ne cx 101 e_X0_feelCloth_97 (by decide) (fun zc85 => ?_) (fun zc85 => ?_)
            · have p86 := gn_neL 1 1 (gc_ne zc85) py6 (jv_k (x := 0) 0 (by decide)) (by decide)
              have hk87 := hk84.trans (if_neg zc85)
              exact J101  hk87
            · have p88 := gn_eq 0 0 (gc_eq zc85) py6 (jv_k (x := 0) 0 (by decide)) (by decide)
              have hk89 := hk84.trans (if_pos zc85)
              exact hret e_X0_feelCloth_100 (Nat.le_of_ble_eq_true rfl) (Nat.le_of_ble_eq_true rfl) ⟨F10, R, rfl, oF10, hA, fF10, (g_fr_rf R), (hk89.symm.trans hSP)⟩
        refine g_if_eq cx 91 e_X0_feelCloth_81 (by decide) (fun zc90 => ?_) (fun zc90 => ?_)
        · have p91 := gn_eq 0 0 (gc_eq zc90) py5 (jv_k (x := 0) 0 (by decide)) (by decide)
          have hk92 := hk11.trans (if_pos zc90)
          refine g_iconst cx 0 (by decide) e_X0_feelCloth_91 ?_
          exact J92 0 (jv_w (jv_k (x := 0) 0 (by decide)) (by decide)) hk92
        · have p93 := gn_neL 1 1 (gc_ne zc90) py5 (jv_k (x := 0) 0 (by decide)) (by decide)
          have hk94 := hk11.trans (if_neg zc90)
          refine g_aload_n cx 0 rfl e_X0_feelCloth_84 ?_
          refine g_get cx cl_X0 fl_X0_62 37 (.int (F10 604)) e_X0_feelCloth_85 rfl rfl ?_
          refine g_toi (F 604) (g_pu2 hF10 rfl) ?_
          refine g_goto cx 92 e_X0_feelCloth_88 (by decide) ?_
          exact J92 (F 604) (jv_t (F 604)) hk94
      refine g_if_eq cx 74 e_X0_feelCloth_65 (by decide) (fun zc95 => ?_) (fun zc95 => ?_)
      · have p96 := gn_eq 0 0 (gc_eq zc95) py5 (jv_k (x := 0) 0 (by decide)) (by decide)
        have hk97 := hkJ57.trans (if_pos zc95)
        refine g_iconst cx 0 (by decide) e_X0_feelCloth_74 ?_
        refine g_lsub [1, 2, 3, 4, 0] [(0, .ref (ad 37)), (1, .int a0), (2, .int x1), (3, .int y5), (4, .int y6)] rfl ?_
        exact J75 0 (jv_w (jv_k (x := 0) 0 (by decide)) (by decide)) hk97
      · have p98 := gn_neL 1 1 (gc_ne zc95) py5 (jv_k (x := 0) 0 (by decide)) (by decide)
        have hk99 := hkJ57.trans (if_neg zc95)
        refine g_iconst cx 1 (by decide) e_X0_feelCloth_68 ?_
        refine g_iload_n cx 2 rfl e_X0_feelCloth_69 ?_
        refine g_ishl cx e_X0_feelCloth_70 ?_
        refine g_topi (fun x100 ex100 => ?_)
        have hk101 := k_ls hk99 ex100
        refine g_goto cx 75 e_X0_feelCloth_71 (by decide) ?_
        refine g_lsub [1, 2, 3, 4, 0] [(0, .ref (ad 37)), (1, .int a0), (2, .int x1), (3, .int y5), (4, .int y6)] rfl ?_
        exact J75 x100 (jv_t x100) hk101
    have J56 : (SP = K_X0_feelCloth_56 F R a0 x1 y5) → G X E 5 0 0 (wX X ad F R) [(0, .ref (ad 37)), (1, .int a0), (2, .int x1), (3, .int y5)] 56 [] := by
      intro   hkJ56
      unfold K_X0_feelCloth_56 at hkJ56
      refine g_iconst cx 0 (by decide) e_X0_feelCloth_56 ?_
      exact J57 0 (jv_w (jv_k (x := 0) 0 (by decide)) (by decide)) hkJ56
    refine g_if_eq cx 56 e_X0_feelCloth_33 (by decide) (fun zc102 => ?_) (fun zc102 => ?_)
    · have p103 := gn_eq 0 0 (gc_eq zc102) py5 (jv_k (x := 0) 0 (by decide)) (by decide)
      have hk104 := hkJ31.trans (if_pos zc102)
      refine g_lsub [1, 2, 3, 0] [(0, .ref (ad 37)), (1, .int a0), (2, .int x1), (3, .int y5)] rfl ?_
      exact J56  hk104
    · have p105 := gn_neL 1 1 (gc_ne zc102) py5 (jv_k (x := 0) 0 (by decide)) (by decide)
      have hk106 := hkJ31.trans (if_neg zc102)
      refine g_aload_n cx 1 rfl e_X0_feelCloth_36 ?_
      refine g_aload_n cx 1 rfl e_X0_feelCloth_37 ?_
      refine g_get cx cl_X0 fl_X0_35 37 (.ref (ad 43)) e_X0_feelCloth_38 rfl rfl ?_
      refine g_getN cx cl_X4 fn_X0_159 43 (.ref (ad 44)) e_X0_feelCloth_41 rfl rfl ?_
      refine g_iload_n cx 2 rfl e_X0_feelCloth_44 ?_
      refine g_iald cx 44 e_X0_feelCloth_45 rfl (jv_ix 10 pa0 (by decide)) ?_
      refine g_topi (fun x107 ex107 => ?_)
      have hk108 := k_ls hk106 ex107
      refine g_cViW cx [.int x107] [] (w_X0_foldPassed l X ad F R hI hA x107) ml_X0_162 yV_X0_foldPassed e_X0_feelCloth_46 (by unfold g_rr; decide) (by decide) 37 rfl rfl rfl (Nat.le_of_ble_eq_true rfl) (fun r109 w110 h111 => ?_)
      obtain ⟨rfl, pr109, hx112⟩ := h111
      have hk113 := k_ls hk108 hx112
      refine g_if_eq cx 56 e_X0_feelCloth_49 (by decide) (fun zc114 => ?_) (fun zc114 => ?_)
      · have p115 := gn_eq 0 0 (gc_eq zc114) pr109 (jv_k (x := 0) 0 (by decide)) (by decide)
        have hk116 := hk113.trans (if_pos zc114)
        refine g_lsub [1, 2, 3, 0] [(0, .ref (ad 37)), (1, .int a0), (2, .int x1), (3, .int y5)] rfl ?_
        exact J56  hk116
      · have p117 := gn_neL 1 1 (gc_ne zc114) pr109 (jv_k (x := 0) 0 (by decide)) (by decide)
        have hk118 := hk113.trans (if_neg zc114)
        refine g_iconst cx 1 (by decide) e_X0_feelCloth_52 ?_
        refine g_goto cx 57 e_X0_feelCloth_53 (by decide) ?_
        refine g_lsub [1, 2, 3, 0] [(0, .ref (ad 37)), (1, .int a0), (2, .int x1), (3, .int y5)] rfl ?_
        exact J57 1 (jv_w (jv_k (x := 1) 1 (by decide)) (by decide)) hk118
  refine g_icmp_ge cx 30 e_X0_feelCloth_23 (by decide) (fun zc119 => ?_) (fun zc119 => ?_)
  · have hk120 := hk4.trans (if_pos zc119)
    refine g_iconst cx 0 (by decide) e_X0_feelCloth_30 ?_
    refine g_lsub [1, 2, 0] [(0, .ref (ad 37)), (1, .int a0), (2, .int x1)] rfl ?_
    exact J31 0 (jv_w (jv_k (x := 0) 0 (by decide)) (by decide)) hk120
  · have p121 := gn_lt (-2147483648) 2147483646 (gc_nle zc119) (jv_t x3) (jv_t (F 698)) (by decide)
    have p122 := gn_gt (-2147483647) 2147483647 (gc_nle zc119) (jv_t (F 698)) (jv_t x3) (by decide)
    have hk123 := hk4.trans (if_neg zc119)
    refine g_iconst cx 1 (by decide) e_X0_feelCloth_26 ?_
    refine g_goto cx 31 e_X0_feelCloth_27 (by decide) ?_
    refine g_lsub [1, 2, 0] [(0, .ref (ad 37)), (1, .int a0), (2, .int x1)] rfl ?_
    exact J31 1 (jv_w (jv_k (x := 1) 1 (by decide)) (by decide)) hk123
def K_X0_shake_156  (F20 : Nat → Int32) (R21 : Nat → Nat → Int32) : (Nat → Int32) × (Nat → Nat → Int32) :=
  (F20, R21)
def K_X0_shake_100 (a0 : Int32) (r9 : Int32) (y8 : Int32) (F18 : Nat → Int32) (R19 : Nat → Nat → Int32) : (Nat → Int32) × (Nat → Nat → Int32) :=
  if y8 ≤ r9 then k_lt (r9 / 2) (fun x25 => if y8 ≤ x25 then K_X0_shake_156 F18 R19 else k_lt (1 <<< (a0 &&& 31)) (fun x32 => k_lt ((F18 694) ||| x32) (fun x34 => k_lt (upd F18 694 x34) (fun F36 => K_X0_shake_156 F36 R19)))) else k_lt (1 <<< (a0 &&& 31)) (fun x40 => k_lt ((F18 692) ||| x40) (fun x42 => k_lt (upd F18 692 x42) (fun F44 => k_lt (g_u R19 38 (upd (R19 38) (Int32.toNatClampNeg a0) 0)) (fun R46 => K_X0_shake_156 F44 R46))))
def K_X0_shake_36 (F : Nat → Int32) (R : Nat → Nat → Int32) (a0 : Int32) (a1 : Int32) (y8 : Int32) : (Nat → Int32) × (Nat → Nat → Int32) :=
  k_lt3 (sp_X2_ask_17 F R 4) (fun r9 F13 R14 => k_lt (R14 45 (Int32.toNatClampNeg a0)) (fun x16 => if x16 ≤ 0 then K_X0_shake_100 a0 r9 y8 F13 R14 else k_lt3 (sp_X2_ask_17 F13 R14 5) (fun r53 F57 R58 => if a1 ≤ r53 then K_X0_shake_100 a0 r9 y8 F57 R58 else k_lt (R58 45 (Int32.toNatClampNeg a0)) (fun x65 => k_lt (x65 - 1) (fun x67 => k_lt (g_u R58 45 (upd (R58 45) (Int32.toNatClampNeg a0) x67)) (fun R69 => k_lt (1 <<< (a0 &&& 31)) (fun x71 => k_lt ((F 696) ||| x71) (fun x73 => k_lt (upd F57 696 x73) (fun F75 => K_X0_shake_100 a0 r9 y8 F75 R69)))))))))
def sp_X0_shake (F : Nat → Int32) (R : Nat → Nat → Int32) (a0 : Int32) (a1 : Int32) : (Nat → Int32) × (Nat → Nat → Int32) :=
  if a1 = 0 then (F, R) else k_lt (sp_X8_side_5 F R a0 2) (fun r3 => if r3 ≤ 0 then K_X0_shake_36 F R a0 a1 0 else k_lt (sp_X8_side_5 F R a0 3) (fun r82 => k_lt (a1 * r82) (fun x87 => k_lt (x87 / r3) (fun x89 => K_X0_shake_36 F R a0 a1 x89))))
theorem e_X0_shake_0 : g_dc cX0_shake 0 (.iload_n 2) 1 1 := ⟨by decide +kernel, rfl⟩
theorem e_X0_shake_1 : g_dc cX0_shake 1 (.ifCond .ne 4) 3 4 := ⟨by decide +kernel, rfl⟩
theorem e_X0_shake_4 : g_dc cX0_shake 4 (.return_) 1 5 := ⟨by decide +kernel, rfl⟩
theorem e_X0_shake_5 : g_dc cX0_shake 5 (.aload_n 0) 1 6 := ⟨by decide +kernel, rfl⟩
theorem e_X0_shake_6 : g_dc cX0_shake 6 (.getfield 12) 3 9 := ⟨by decide +kernel, rfl⟩
theorem e_X0_shake_9 : g_dc cX0_shake 9 (.iload_n 1) 1 10 := ⟨by decide +kernel, rfl⟩
theorem e_X0_shake_10 : g_dc cX0_shake 10 (.iconst 2) 1 11 := ⟨by decide +kernel, rfl⟩
theorem e_X0_shake_11 : g_dc cX0_shake 11 (.invokevirtual 171) 3 14 := ⟨by decide +kernel, rfl⟩
theorem e_X0_shake_14 : g_dc cX0_shake 14 (.istore_n 3) 1 15 := ⟨by decide +kernel, rfl⟩
theorem e_X0_shake_15 : g_dc cX0_shake 15 (.iload_n 3) 1 16 := ⟨by decide +kernel, rfl⟩
theorem e_X0_shake_16 : g_dc cX0_shake 16 (.ifCond .le 19) 3 19 := ⟨by decide +kernel, rfl⟩
theorem e_X0_shake_19 : g_dc cX0_shake 19 (.iload_n 2) 1 20 := ⟨by decide +kernel, rfl⟩
theorem e_X0_shake_20 : g_dc cX0_shake 20 (.aload_n 0) 1 21 := ⟨by decide +kernel, rfl⟩
theorem e_X0_shake_21 : g_dc cX0_shake 21 (.getfield 12) 3 24 := ⟨by decide +kernel, rfl⟩
theorem e_X0_shake_24 : g_dc cX0_shake 24 (.iload_n 1) 1 25 := ⟨by decide +kernel, rfl⟩
theorem e_X0_shake_25 : g_dc cX0_shake 25 (.iconst 3) 1 26 := ⟨by decide +kernel, rfl⟩
theorem e_X0_shake_26 : g_dc cX0_shake 26 (.invokevirtual 171) 3 29 := ⟨by decide +kernel, rfl⟩
theorem e_X0_shake_29 : g_dc cX0_shake 29 (.imul) 1 30 := ⟨by decide +kernel, rfl⟩
theorem e_X0_shake_30 : g_dc cX0_shake 30 (.iload_n 3) 1 31 := ⟨by decide +kernel, rfl⟩
theorem e_X0_shake_31 : g_dc cX0_shake 31 (.idiv) 1 32 := ⟨by decide +kernel, rfl⟩
theorem e_X0_shake_32 : g_dc cX0_shake 32 (.goto 4) 3 35 := ⟨by decide +kernel, rfl⟩
theorem e_X0_shake_35 : g_dc cX0_shake 35 (.iconst 0) 1 36 := ⟨by decide +kernel, rfl⟩
theorem e_X0_shake_36 : g_dc cX0_shake 36 (.istore 4) 2 38 := ⟨by decide +kernel, rfl⟩
theorem e_X0_shake_38 : g_dc cX0_shake 38 (.aload_n 0) 1 39 := ⟨by decide +kernel, rfl⟩
theorem e_X0_shake_39 : g_dc cX0_shake 39 (.getfield 71) 3 42 := ⟨by decide +kernel, rfl⟩
theorem e_X0_shake_42 : g_dc cX0_shake 42 (.iconst 4) 1 43 := ⟨by decide +kernel, rfl⟩
theorem e_X0_shake_43 : g_dc cX0_shake 43 (.invokevirtual 149) 3 46 := ⟨by decide +kernel, rfl⟩
theorem e_X0_shake_46 : g_dc cX0_shake 46 (.istore 5) 2 48 := ⟨by decide +kernel, rfl⟩
theorem e_X0_shake_48 : g_dc cX0_shake 48 (.aload_n 0) 1 49 := ⟨by decide +kernel, rfl⟩
theorem e_X0_shake_49 : g_dc cX0_shake 49 (.getfield 35) 3 52 := ⟨by decide +kernel, rfl⟩
theorem e_X0_shake_52 : g_dc cX0_shake 52 (.getfield 174) 3 55 := ⟨by decide +kernel, rfl⟩
theorem e_X0_shake_55 : g_dc cX0_shake 55 (.iload_n 1) 1 56 := ⟨by decide +kernel, rfl⟩
theorem e_X0_shake_56 : g_dc cX0_shake 56 (.iaload) 1 57 := ⟨by decide +kernel, rfl⟩
theorem e_X0_shake_57 : g_dc cX0_shake 57 (.ifCond .le 43) 3 60 := ⟨by decide +kernel, rfl⟩
theorem e_X0_shake_60 : g_dc cX0_shake 60 (.iload_n 2) 1 61 := ⟨by decide +kernel, rfl⟩
theorem e_X0_shake_61 : g_dc cX0_shake 61 (.aload_n 0) 1 62 := ⟨by decide +kernel, rfl⟩
theorem e_X0_shake_62 : g_dc cX0_shake 62 (.getfield 71) 3 65 := ⟨by decide +kernel, rfl⟩
theorem e_X0_shake_65 : g_dc cX0_shake 65 (.iconst 5) 1 66 := ⟨by decide +kernel, rfl⟩
theorem e_X0_shake_66 : g_dc cX0_shake 66 (.invokevirtual 149) 3 69 := ⟨by decide +kernel, rfl⟩
theorem e_X0_shake_69 : g_dc cX0_shake 69 (.if_icmp .le 31) 3 72 := ⟨by decide +kernel, rfl⟩
theorem e_X0_shake_72 : g_dc cX0_shake 72 (.aload_n 0) 1 73 := ⟨by decide +kernel, rfl⟩
theorem e_X0_shake_73 : g_dc cX0_shake 73 (.getfield 35) 3 76 := ⟨by decide +kernel, rfl⟩
theorem e_X0_shake_76 : g_dc cX0_shake 76 (.getfield 174) 3 79 := ⟨by decide +kernel, rfl⟩
theorem e_X0_shake_79 : g_dc cX0_shake 79 (.iload_n 1) 1 80 := ⟨by decide +kernel, rfl⟩
theorem e_X0_shake_80 : g_dc cX0_shake 80 (.dup2) 1 81 := ⟨by decide +kernel, rfl⟩
theorem e_X0_shake_81 : g_dc cX0_shake 81 (.iaload) 1 82 := ⟨by decide +kernel, rfl⟩
theorem e_X0_shake_82 : g_dc cX0_shake 82 (.iconst 1) 1 83 := ⟨by decide +kernel, rfl⟩
theorem e_X0_shake_83 : g_dc cX0_shake 83 (.isub) 1 84 := ⟨by decide +kernel, rfl⟩
theorem e_X0_shake_84 : g_dc cX0_shake 84 (.iastore) 1 85 := ⟨by decide +kernel, rfl⟩
theorem e_X0_shake_85 : g_dc cX0_shake 85 (.aload_n 0) 1 86 := ⟨by decide +kernel, rfl⟩
theorem e_X0_shake_86 : g_dc cX0_shake 86 (.getfield 35) 3 89 := ⟨by decide +kernel, rfl⟩
theorem e_X0_shake_89 : g_dc cX0_shake 89 (.dup) 1 90 := ⟨by decide +kernel, rfl⟩
theorem e_X0_shake_90 : g_dc cX0_shake 90 (.getfield 177) 3 93 := ⟨by decide +kernel, rfl⟩
theorem e_X0_shake_93 : g_dc cX0_shake 93 (.iconst 1) 1 94 := ⟨by decide +kernel, rfl⟩
theorem e_X0_shake_94 : g_dc cX0_shake 94 (.iload_n 1) 1 95 := ⟨by decide +kernel, rfl⟩
theorem e_X0_shake_95 : g_dc cX0_shake 95 (.ishl) 1 96 := ⟨by decide +kernel, rfl⟩
theorem e_X0_shake_96 : g_dc cX0_shake 96 (.ior) 1 97 := ⟨by decide +kernel, rfl⟩
theorem e_X0_shake_97 : g_dc cX0_shake 97 (.putfield 177) 3 100 := ⟨by decide +kernel, rfl⟩
theorem e_X0_shake_100 : g_dc cX0_shake 100 (.iload 4) 2 102 := ⟨by decide +kernel, rfl⟩
theorem e_X0_shake_102 : g_dc cX0_shake 102 (.iload 5) 2 104 := ⟨by decide +kernel, rfl⟩
theorem e_X0_shake_104 : g_dc cX0_shake 104 (.if_icmp .le 28) 3 107 := ⟨by decide +kernel, rfl⟩
theorem e_X0_shake_107 : g_dc cX0_shake 107 (.aload_n 0) 1 108 := ⟨by decide +kernel, rfl⟩
theorem e_X0_shake_108 : g_dc cX0_shake 108 (.getfield 35) 3 111 := ⟨by decide +kernel, rfl⟩
theorem e_X0_shake_111 : g_dc cX0_shake 111 (.dup) 1 112 := ⟨by decide +kernel, rfl⟩
theorem e_X0_shake_112 : g_dc cX0_shake 112 (.getfield 180) 3 115 := ⟨by decide +kernel, rfl⟩
theorem e_X0_shake_115 : g_dc cX0_shake 115 (.iconst 1) 1 116 := ⟨by decide +kernel, rfl⟩
theorem e_X0_shake_116 : g_dc cX0_shake 116 (.iload_n 1) 1 117 := ⟨by decide +kernel, rfl⟩
theorem e_X0_shake_117 : g_dc cX0_shake 117 (.ishl) 1 118 := ⟨by decide +kernel, rfl⟩
theorem e_X0_shake_118 : g_dc cX0_shake 118 (.ior) 1 119 := ⟨by decide +kernel, rfl⟩
theorem e_X0_shake_119 : g_dc cX0_shake 119 (.putfield 180) 3 122 := ⟨by decide +kernel, rfl⟩
theorem e_X0_shake_122 : g_dc cX0_shake 122 (.aload_n 0) 1 123 := ⟨by decide +kernel, rfl⟩
theorem e_X0_shake_123 : g_dc cX0_shake 123 (.getfield 39) 3 126 := ⟨by decide +kernel, rfl⟩
theorem e_X0_shake_126 : g_dc cX0_shake 126 (.iload_n 1) 1 127 := ⟨by decide +kernel, rfl⟩
theorem e_X0_shake_127 : g_dc cX0_shake 127 (.iconst 0) 1 128 := ⟨by decide +kernel, rfl⟩
theorem e_X0_shake_128 : g_dc cX0_shake 128 (.iastore) 1 129 := ⟨by decide +kernel, rfl⟩
theorem e_X0_shake_129 : g_dc cX0_shake 129 (.goto 27) 3 132 := ⟨by decide +kernel, rfl⟩
theorem e_X0_shake_132 : g_dc cX0_shake 132 (.iload 4) 2 134 := ⟨by decide +kernel, rfl⟩
theorem e_X0_shake_134 : g_dc cX0_shake 134 (.iload 5) 2 136 := ⟨by decide +kernel, rfl⟩
theorem e_X0_shake_136 : g_dc cX0_shake 136 (.iconst 2) 1 137 := ⟨by decide +kernel, rfl⟩
theorem e_X0_shake_137 : g_dc cX0_shake 137 (.idiv) 1 138 := ⟨by decide +kernel, rfl⟩
theorem e_X0_shake_138 : g_dc cX0_shake 138 (.if_icmp .le 18) 3 141 := ⟨by decide +kernel, rfl⟩
theorem e_X0_shake_141 : g_dc cX0_shake 141 (.aload_n 0) 1 142 := ⟨by decide +kernel, rfl⟩
theorem e_X0_shake_142 : g_dc cX0_shake 142 (.getfield 35) 3 145 := ⟨by decide +kernel, rfl⟩
theorem e_X0_shake_145 : g_dc cX0_shake 145 (.dup) 1 146 := ⟨by decide +kernel, rfl⟩
theorem e_X0_shake_146 : g_dc cX0_shake 146 (.getfield 183) 3 149 := ⟨by decide +kernel, rfl⟩
theorem e_X0_shake_149 : g_dc cX0_shake 149 (.iconst 1) 1 150 := ⟨by decide +kernel, rfl⟩
theorem e_X0_shake_150 : g_dc cX0_shake 150 (.iload_n 1) 1 151 := ⟨by decide +kernel, rfl⟩
theorem e_X0_shake_151 : g_dc cX0_shake 151 (.ishl) 1 152 := ⟨by decide +kernel, rfl⟩
theorem e_X0_shake_152 : g_dc cX0_shake 152 (.ior) 1 153 := ⟨by decide +kernel, rfl⟩
theorem e_X0_shake_153 : g_dc cX0_shake 153 (.putfield 183) 3 156 := ⟨by decide +kernel, rfl⟩
theorem e_X0_shake_156 : g_dc cX0_shake 156 (.return_) 1 157 := ⟨by decide +kernel, rfl⟩
def md_X0_shake : List Nat := [692, 694, 696]
def mr_X0_shake : List Nat := [24, 38, 45]
set_option maxHeartbeats 4000000 in
set_option maxRecDepth 100000 in
theorem w_X0_shake (l : Launch) (X : gX) (ad : Nat → Nat) (F : Nat → Int32) (R : Nat → Nat → Int32) (hI : g_ok LK_wX F) (hA : g_okR LA_wX R) (a0 : Int32) (a1 : Int32) (pa0 : jv 0 9 a0) : g_Cv l X yX0_shake cX0_shake 6 4 0 0 [.ref (ad 37), .int a0, .int a1] (wX X ad F R) (fun w => ∃ (F' : Nat → Int32) (R' : Nat → Nat → Int32), w = wX X ad F' R' ∧ g_ok LK_wX F' ∧ g_okR LA_wX R' ∧ g_fr md_X0_shake F F' ∧ g_fr mr_X0_shake R R' ∧ (F', R') = sp_X0_shake F R a0 a1) := by
  refine g_mv (by decide +kernel) (Nat.le_of_ble_eq_true rfl) (fun E cx hret => ?_)
  obtain ⟨SP, hSP⟩ : ∃ z, z = sp_X0_shake F R a0 a1 := ⟨_, rfl⟩
  have hk0 := hSP
  unfold sp_X0_shake at hk0
  refine g_iload_n cx 2 rfl e_X0_shake_0 ?_
  refine g_if_ne cx 5 e_X0_shake_1 (by decide) (fun zc1 => ?_) (fun zc1 => ?_)
  · have hk2 := hk0.trans (if_neg zc1)
    refine g_aload_n cx 0 rfl e_X0_shake_5 ?_
    refine g_get cx cl_X0 fl_X0_12 37 (.ref (ad 5)) e_X0_shake_6 rfl rfl ?_
    refine g_iload_n cx 1 rfl e_X0_shake_9 ?_
    refine g_iconst cx 2 (by decide) e_X0_shake_10 ?_
    refine g_cViW cx [.int a0, .int 2] [] (w_X8_side_5 l X ad F R hI hA a0 2) ml_X0_171 yV_X8_side e_X0_shake_11 (by unfold g_rr; decide) (by decide) 5 rfl rfl rfl (Nat.le_of_ble_eq_true rfl) (fun r3 w4 h5 => ?_)
    obtain ⟨rfl, pr3, hx6⟩ := h5
    have hk7 := k_ls hk2 hx6
    refine g_istore_n cx [(3, .int r3), (0, .ref (ad 37)), (1, .int a0), (2, .int a1)] e_X0_shake_14 (by decide) rfl ?_
    refine g_iload_n cx 0 rfl e_X0_shake_15 ?_
    have J36 : ∀ (y8 : Int32), (jv (-2147483648) 2147483647 y8) → (SP = K_X0_shake_36 F R a0 a1 y8) → G X E 6 0 0 (wX X ad F R) [(0, .ref (ad 37)), (1, .int a0), (2, .int a1)] 36 [.int y8] := by
      intro y8 py8 hkJ36
      unfold K_X0_shake_36 at hkJ36
      refine g_istore cx [(4, .int y8), (0, .ref (ad 37)), (1, .int a0), (2, .int a1)] e_X0_shake_36 (by decide) rfl ?_
      refine g_aload_n cx 1 rfl e_X0_shake_38 ?_
      refine g_get cx cl_X0 fl_X0_71 37 (.ref (ad 17)) e_X0_shake_39 rfl rfl ?_
      refine g_iconst cx 4 (by decide) e_X0_shake_42 ?_
      refine g_cViW cx [.int 4] [] (w_X2_ask_17 l X ad F R hI hA 4) ml_X0_149 yV_X2_ask e_X0_shake_43 (by unfold g_rr; decide) (by decide) 17 rfl rfl rfl (Nat.le_of_ble_eq_true rfl) (fun r9 w10 h11 => ?_)
      obtain ⟨F13, R14, rfl, oF13, oR14, cF13, cR14, pr9, hx12⟩ := h11
      have hk15 := k_ls3 hkJ36 hx12
      have fF13 : g_fr md_X0_shake F F13 := g_fr_c (g_fr_rf F) cF13 rfl
      have fR14 : g_fr mr_X0_shake R R14 := g_fr_c (g_fr_rf R) cR14 rfl
      refine g_istore cx [(5, .int r9), (4, .int y8), (0, .ref (ad 37)), (1, .int a0), (2, .int a1)] e_X0_shake_46 (by decide) rfl ?_
      refine g_aload_n cx 2 rfl e_X0_shake_48 ?_
      refine g_get cx cl_X0 fl_X0_35 37 (.ref (ad 43)) e_X0_shake_49 rfl rfl ?_
      refine g_getN cx cl_X4 fn_X0_174 43 (.ref (ad 45)) e_X0_shake_52 rfl rfl ?_
      refine g_iload_n cx 3 rfl e_X0_shake_55 ?_
      refine g_iald cx 45 e_X0_shake_56 rfl (jv_ix 10 pa0 (by decide)) ?_
      refine g_topi (fun x16 ex16 => ?_)
      have hk17 := k_ls hk15 ex16
      have J100 : ∀ (F18 : Nat → Int32) (R19 : Nat → Nat → Int32), (g_ok LK_wX F18) → (g_fr md_X0_shake F F18) → (g_okR LA_wX R19) → (g_fr mr_X0_shake R R19) → (SP = K_X0_shake_100 a0 r9 y8 F18 R19) → G X E 6 0 0 (wX X ad F18 R19) [(0, .ref (ad 37)), (1, .int a0), (4, .int y8), (5, .int r9)] 100 [] := by
        intro F18 R19 oF18 fF18 oR19 fR19 hkJ100
        unfold K_X0_shake_100 at hkJ100
        refine g_iload cx 2 rfl e_X0_shake_100 ?_
        refine g_iload cx 3 rfl e_X0_shake_102 ?_
        have J156 : ∀ (F20 : Nat → Int32) (R21 : Nat → Nat → Int32), (g_ok LK_wX F20) → (g_fr md_X0_shake F F20) → (g_okR LA_wX R21) → (g_fr mr_X0_shake R R21) → (SP = K_X0_shake_156 F20 R21) → G X E 6 0 0 (wX X ad F20 R21) [] 156 [] := by
          intro F20 R21 oF20 fF20 oR21 fR21 hkJ156
          unfold K_X0_shake_156 at hkJ156
          exact hret e_X0_shake_156 (Nat.le_of_ble_eq_true rfl) (Nat.le_of_ble_eq_true rfl) ⟨F20, R21, rfl, oF20, oR21, fF20, fR21, (hkJ156.symm.trans hSP)⟩
        refine g_icmp_le cx 132 e_X0_shake_104 (by decide) (fun zc22 => ?_) (fun zc22 => ?_)
        · have p23 := gn_le (-2147483648) 999 (gc_le zc22) py8 pr9 (by decide)
          have hk24 := hkJ100.trans (if_pos zc22)
          refine g_iload cx 2 rfl e_X0_shake_132 ?_
          refine g_iload cx 3 rfl e_X0_shake_134 ?_
          refine g_iconst cx 2 (by decide) e_X0_shake_136 ?_
          refine g_idiv cx (by decide) e_X0_shake_137 ?_
          refine g_topi (fun x25 ex25 => ?_)
          have hk26 := k_ls hk24 ex25
          have zx25 := jv_div 0 499 ex25 pr9 (jv_k (x := 2) 2 (by decide)) (by decide)
          refine g_icmp_le cx 156 e_X0_shake_138 (by decide) (fun zc27 => ?_) (fun zc27 => ?_)
          · have p28 := gn_le (-2147483648) 499 (gc_le zc27) p23 zx25.2 (by decide)
            have hk29 := hk26.trans (if_pos zc27)
            refine g_lsub [] [] rfl ?_
            exact J156 F18 R19 oF18 fF18 oR19 fR19 hk29
          · have p30 := gn_gt 1 999 (gc_nle zc27) p23 zx25.2 (by decide)
            have hk31 := hk26.trans (if_neg zc27)
            refine g_aload_n cx 0 rfl e_X0_shake_141 ?_
            refine g_get cx cl_X0 fl_X0_35 37 (.ref (ad 43)) e_X0_shake_142 rfl rfl ?_
            refine g_dup cx rfl e_X0_shake_145 ?_
            refine g_getN cx cl_X4 fn_X0_183 43 (.int (F18 694)) e_X0_shake_146 rfl rfl ?_
            refine g_iconst cx 1 (by decide) e_X0_shake_149 ?_
            refine g_iload_n cx 1 rfl e_X0_shake_150 ?_
            refine g_ishl cx e_X0_shake_151 ?_
            refine g_topi (fun x32 ex32 => ?_)
            have hk33 := k_ls hk31 ex32
            refine g_ior cx e_X0_shake_152 ?_
            refine g_topi (fun x34 ex34 => ?_)
            have hk35 := k_ls hk33 ex34
            refine g_putN cx cl_X4 fn_X0_183 43 (wX X ad (upd F18 694 x34) R19) e_X0_shake_153 rfl rfl rfl rfl (Nat.le_of_ble_eq_true rfl) rfl ?_
            obtain ⟨F36, hF36⟩ : ∃ z, z = upd F18 694 x34 := ⟨_, rfl⟩
            rw [← hF36]
            have hk37 := k_ls hk35 hF36
            have oF36 : g_ok LK_wX F36 := by rw [hF36]; exact g_ok_u oF18 rfl
            have fF36 : g_fr md_X0_shake F F36 := by rw [hF36]; exact g_fr_u fF18 rfl
            refine g_lsub [] [] rfl ?_
            exact J156 F36 R19 oF36 fF36 oR19 fR19 hk37
        · have p38 := gn_gt 1 2147483647 (gc_nle zc22) py8 pr9 (by decide)
          have hk39 := hkJ100.trans (if_neg zc22)
          refine g_aload_n cx 0 rfl e_X0_shake_107 ?_
          refine g_get cx cl_X0 fl_X0_35 37 (.ref (ad 43)) e_X0_shake_108 rfl rfl ?_
          refine g_dup cx rfl e_X0_shake_111 ?_
          refine g_getN cx cl_X4 fn_X0_180 43 (.int (F18 692)) e_X0_shake_112 rfl rfl ?_
          refine g_iconst cx 1 (by decide) e_X0_shake_115 ?_
          refine g_iload_n cx 1 rfl e_X0_shake_116 ?_
          refine g_ishl cx e_X0_shake_117 ?_
          refine g_topi (fun x40 ex40 => ?_)
          have hk41 := k_ls hk39 ex40
          refine g_ior cx e_X0_shake_118 ?_
          refine g_topi (fun x42 ex42 => ?_)
          have hk43 := k_ls hk41 ex42
          refine g_putN cx cl_X4 fn_X0_180 43 (wX X ad (upd F18 692 x42) R19) e_X0_shake_119 rfl rfl rfl rfl (Nat.le_of_ble_eq_true rfl) rfl ?_
          obtain ⟨F44, hF44⟩ : ∃ z, z = upd F18 692 x42 := ⟨_, rfl⟩
          rw [← hF44]
          have hk45 := k_ls hk43 hF44
          have oF44 : g_ok LK_wX F44 := by rw [hF44]; exact g_ok_u oF18 rfl
          have fF44 : g_fr md_X0_shake F F44 := by rw [hF44]; exact g_fr_u fF18 rfl
          refine g_aload_n cx 0 rfl e_X0_shake_122 ?_
          refine g_get cx cl_X0 fl_X0_39 37 (.ref (ad 38)) e_X0_shake_123 rfl rfl ?_
          refine g_iload_n cx 1 rfl e_X0_shake_126 ?_
          refine g_iconst cx 0 (by decide) e_X0_shake_127 ?_
          refine g_iast cx 38 (wX X ad F44 (g_u R19 38 (upd (R19 38) (Int32.toNatClampNeg a0) 0))) e_X0_shake_128 rfl (jv_ix 10 pa0 (by decide)) rfl ?_
          obtain ⟨R46, hR46⟩ : ∃ z, z = g_u R19 38 (upd (R19 38) (Int32.toNatClampNeg a0) 0) := ⟨_, rfl⟩
          rw [← hR46]
          have hk47 := k_ls hk45 hR46
          have oR46 : g_okR LA_wX R46 := by rw [hR46]; exact g_okR_u oR19 rfl
          have fR46 : g_fr mr_X0_shake R R46 := by rw [hR46]; exact g_fr_r fR19 rfl
          refine g_goto cx 156 e_X0_shake_129 (by decide) ?_
          refine g_lsub [] [] rfl ?_
          exact J156 F44 R46 oF44 fF44 oR46 fR46 hk47
      refine g_if_le cx 100 e_X0_shake_57 (by decide) (fun zc48 => ?_) (fun zc48 => ?_)
      · have p49 := gn_le (-2147483648) 0 (gc_le zc48) (jv_t x16) (jv_k (x := 0) 0 (by decide)) (by decide)
        have hk50 := hk17.trans (if_pos zc48)
        refine g_lsub [2, 3, 1, 0] [(0, .ref (ad 37)), (1, .int a0), (4, .int y8), (5, .int r9)] rfl ?_
        exact J100 F13 R14 oF13 fF13 oR14 fR14 hk50
      · have p51 := gn_gt 1 2147483647 (gc_nle zc48) (jv_t x16) (jv_k (x := 0) 0 (by decide)) (by decide)
        have hk52 := hk17.trans (if_neg zc48)
        refine g_iload_n cx 4 rfl e_X0_shake_60 ?_
        refine g_aload_n cx 2 rfl e_X0_shake_61 ?_
        refine g_get cx cl_X0 fl_X0_71 37 (.ref (ad 17)) e_X0_shake_62 rfl rfl ?_
        refine g_iconst cx 5 (by decide) e_X0_shake_65 ?_
        refine g_cViW cx [.int 5] [.int a1] (w_X2_ask_17 l X ad F13 R14 oF13 oR14 5) ml_X0_149 yV_X2_ask e_X0_shake_66 (by unfold g_rr; decide) (by decide) 17 rfl rfl rfl (Nat.le_of_ble_eq_true rfl) (fun r53 w54 h55 => ?_)
        obtain ⟨F57, R58, rfl, oF57, oR58, cF57, cR58, pr53, hx56⟩ := h55
        have hk59 := k_ls3 hk52 hx56
        have fF57 : g_fr md_X0_shake F F57 := g_fr_c fF13 cF57 rfl
        have fR58 : g_fr mr_X0_shake R R58 := g_fr_c fR14 cR58 rfl
        refine g_icmp_le cx 100 e_X0_shake_69 (by decide) (fun zc60 => ?_) (fun zc60 => ?_)
        · have p61 := gn_le (-2147483648) 999 (gc_le zc60) (jv_t a1) pr53 (by decide)
          have hk62 := hk59.trans (if_pos zc60)
          refine g_lsub [2, 3, 1, 0] [(0, .ref (ad 37)), (1, .int a0), (4, .int y8), (5, .int r9)] rfl ?_
          exact J100 F57 R58 oF57 fF57 oR58 fR58 hk62
        · have p63 := gn_gt 1 2147483647 (gc_nle zc60) (jv_t a1) pr53 (by decide)
          have hk64 := hk59.trans (if_neg zc60)
          refine g_aload_n cx 2 rfl e_X0_shake_72 ?_
          refine g_get cx cl_X0 fl_X0_35 37 (.ref (ad 43)) e_X0_shake_73 rfl rfl ?_
          refine g_getN cx cl_X4 fn_X0_174 43 (.ref (ad 45)) e_X0_shake_76 rfl rfl ?_
          refine g_iload_n cx 3 rfl e_X0_shake_79 ?_
          refine g_dup2 cx rfl rfl e_X0_shake_80 ?_
          refine g_iald cx 45 e_X0_shake_81 rfl (jv_ix 10 pa0 (by decide)) ?_
          refine g_topi (fun x65 ex65 => ?_)
          have hk66 := k_ls hk64 ex65
          refine g_iconst cx 1 (by decide) e_X0_shake_82 ?_
          refine g_isub cx e_X0_shake_83 ?_
          refine g_topi (fun x67 ex67 => ?_)
          have hk68 := k_ls hk66 ex67
          refine g_iast cx 45 (wX X ad F57 (g_u R58 45 (upd (R58 45) (Int32.toNatClampNeg a0) x67))) e_X0_shake_84 rfl (jv_ix 10 pa0 (by decide)) rfl ?_
          obtain ⟨R69, hR69⟩ : ∃ z, z = g_u R58 45 (upd (R58 45) (Int32.toNatClampNeg a0) x67) := ⟨_, rfl⟩
          rw [← hR69]
          have hk70 := k_ls hk68 hR69
          have oR69 : g_okR LA_wX R69 := by rw [hR69]; exact g_okR_u oR58 rfl
          have fR69 : g_fr mr_X0_shake R R69 := by rw [hR69]; exact g_fr_r fR58 rfl
          refine g_aload_n cx 2 rfl e_X0_shake_85 ?_
          refine g_get cx cl_X0 fl_X0_35 37 (.ref (ad 43)) e_X0_shake_86 rfl rfl ?_
          refine g_dup cx rfl e_X0_shake_89 ?_
          refine g_getN cx cl_X4 fn_X0_177 43 (.int (F57 696)) e_X0_shake_90 rfl rfl ?_
          refine g_toi (F 696) ((cF57 696 rfl).trans (cF13 696 rfl)) ?_
          refine g_iconst cx 1 (by decide) e_X0_shake_93 ?_
          refine g_iload_n cx 3 rfl e_X0_shake_94 ?_
          refine g_ishl cx e_X0_shake_95 ?_
          refine g_topi (fun x71 ex71 => ?_)
          have hk72 := k_ls hk70 ex71
          refine g_ior cx e_X0_shake_96 ?_
          refine g_topi (fun x73 ex73 => ?_)
          have hk74 := k_ls hk72 ex73
          refine g_putN cx cl_X4 fn_X0_177 43 (wX X ad (upd F57 696 x73) R69) e_X0_shake_97 rfl rfl rfl rfl (Nat.le_of_ble_eq_true rfl) rfl ?_
          obtain ⟨F75, hF75⟩ : ∃ z, z = upd F57 696 x73 := ⟨_, rfl⟩
          rw [← hF75]
          have hk76 := k_ls hk74 hF75
          have oF75 : g_ok LK_wX F75 := by rw [hF75]; exact g_ok_u oF57 rfl
          have fF75 : g_fr md_X0_shake F F75 := by rw [hF75]; exact g_fr_u fF57 rfl
          refine g_lsub [2, 3, 1, 0] [(0, .ref (ad 37)), (1, .int a0), (4, .int y8), (5, .int r9)] rfl ?_
          exact J100 F75 R69 oF75 fF75 oR69 fR69 hk76
    refine g_if_le cx 35 e_X0_shake_16 (by decide) (fun zc77 => ?_) (fun zc77 => ?_)
    · have p78 := gn_le (-2147483648) 0 (gc_le zc77) pr3 (jv_k (x := 0) 0 (by decide)) (by decide)
      have hk79 := hk7.trans (if_pos zc77)
      refine g_iconst cx 0 (by decide) e_X0_shake_35 ?_
      refine g_lsub [1, 2, 3] [(0, .ref (ad 37)), (1, .int a0), (2, .int a1)] rfl ?_
      exact J36 0 (jv_w (jv_k (x := 0) 0 (by decide)) (by decide)) hk79
    · have p80 := gn_gt 1 2147483647 (gc_nle zc77) pr3 (jv_k (x := 0) 0 (by decide)) (by decide)
      have hk81 := hk7.trans (if_neg zc77)
      refine g_iload_n cx 3 rfl e_X0_shake_19 ?_
      refine g_aload_n cx 1 rfl e_X0_shake_20 ?_
      refine g_get cx cl_X0 fl_X0_12 37 (.ref (ad 5)) e_X0_shake_21 rfl rfl ?_
      refine g_iload_n cx 2 rfl e_X0_shake_24 ?_
      refine g_iconst cx 3 (by decide) e_X0_shake_25 ?_
      refine g_cViW cx [.int a0, .int 3] [.int a1] (w_X8_side_5 l X ad F R hI hA a0 3) ml_X0_171 yV_X8_side e_X0_shake_26 (by unfold g_rr; decide) (by decide) 5 rfl rfl rfl (Nat.le_of_ble_eq_true rfl) (fun r82 w83 h84 => ?_)
      obtain ⟨rfl, pr82, hx85⟩ := h84
      have hk86 := k_ls hk81 hx85
      refine g_imul cx e_X0_shake_29 ?_
      refine g_topi (fun x87 ex87 => ?_)
      have hk88 := k_ls hk86 ex87
      refine g_iload_n cx 0 rfl e_X0_shake_30 ?_
      refine g_idiv cx (g_nz0 p80 (by decide)) e_X0_shake_31 ?_
      refine g_topi (fun x89 ex89 => ?_)
      have hk90 := k_ls hk88 ex89
      refine g_goto cx 36 e_X0_shake_32 (by decide) ?_
      refine g_lsub [1, 2, 3] [(0, .ref (ad 37)), (1, .int a0), (2, .int a1)] rfl ?_
      exact J36 x89 (jv_t x89) hk90
  · have p91 := gn_eq 0 0 (gc_eq zc1) (jv_t a1) (jv_k (x := 0) 0 (by decide)) (by decide)
    have hk92 := hk0.trans (if_pos zc1)
    exact hret e_X0_shake_4 (Nat.le_of_ble_eq_true rfl) (Nat.le_of_ble_eq_true rfl) ⟨F, R, rfl, hI, hA, (g_fr_rf F), (g_fr_rf R), (hk92.symm.trans hSP)⟩
def K_X0_lead_30 (F : Nat → Int32) (R : Nat → Nat → Int32) (a0 : Int32) (y10 : Int32) : (Nat → Int32) × (Nat → Nat → Int32) :=
  k_lt (R 39 (Int32.toNatClampNeg a0)) (fun x11 => k_lt (R 44 (Int32.toNatClampNeg a0)) (fun x13 => k_lt (x11 - x13) (fun x15 => k_lt2 (sp_X4_lead F R a0 y10 x15) (fun F21 R22 => (F21, R22)))))
def K_X0_lead_16 (F : Nat → Int32) (R : Nat → Nat → Int32) (a0 : Int32) (y5 : Int32) : (Nat → Int32) × (Nat → Nat → Int32) :=
  k_lt (1 <<< (a0 &&& 31)) (fun x6 => k_lt ((F 606) &&& x6) (fun x8 => if x8 = 0 then K_X0_lead_30 F R a0 y5 else K_X0_lead_30 F R a0 2))
def sp_X0_lead (F : Nat → Int32) (R : Nat → Nat → Int32) (a0 : Int32) : (Nat → Int32) × (Nat → Nat → Int32) :=
  k_lt (1 <<< (a0 &&& 31)) (fun x1 => k_lt ((F 605) &&& x1) (fun x3 => if x3 = 0 then K_X0_lead_16 F R a0 1 else K_X0_lead_16 F R a0 0))
theorem e_X0_lead_0 : g_dc cX0_lead 0 (.aload_n 0) 1 1 := ⟨by decide +kernel, rfl⟩
theorem e_X0_lead_1 : g_dc cX0_lead 1 (.getfield 65) 3 4 := ⟨by decide +kernel, rfl⟩
theorem e_X0_lead_4 : g_dc cX0_lead 4 (.iconst 1) 1 5 := ⟨by decide +kernel, rfl⟩
theorem e_X0_lead_5 : g_dc cX0_lead 5 (.iload_n 1) 1 6 := ⟨by decide +kernel, rfl⟩
theorem e_X0_lead_6 : g_dc cX0_lead 6 (.ishl) 1 7 := ⟨by decide +kernel, rfl⟩
theorem e_X0_lead_7 : g_dc cX0_lead 7 (.iand) 1 8 := ⟨by decide +kernel, rfl⟩
theorem e_X0_lead_8 : g_dc cX0_lead 8 (.ifCond .eq 7) 3 11 := ⟨by decide +kernel, rfl⟩
theorem e_X0_lead_11 : g_dc cX0_lead 11 (.iconst 0) 1 12 := ⟨by decide +kernel, rfl⟩
theorem e_X0_lead_12 : g_dc cX0_lead 12 (.goto 4) 3 15 := ⟨by decide +kernel, rfl⟩
theorem e_X0_lead_15 : g_dc cX0_lead 15 (.iconst 1) 1 16 := ⟨by decide +kernel, rfl⟩
theorem e_X0_lead_16 : g_dc cX0_lead 16 (.istore_n 2) 1 17 := ⟨by decide +kernel, rfl⟩
theorem e_X0_lead_17 : g_dc cX0_lead 17 (.aload_n 0) 1 18 := ⟨by decide +kernel, rfl⟩
theorem e_X0_lead_18 : g_dc cX0_lead 18 (.getfield 68) 3 21 := ⟨by decide +kernel, rfl⟩
theorem e_X0_lead_21 : g_dc cX0_lead 21 (.iconst 1) 1 22 := ⟨by decide +kernel, rfl⟩
theorem e_X0_lead_22 : g_dc cX0_lead 22 (.iload_n 1) 1 23 := ⟨by decide +kernel, rfl⟩
theorem e_X0_lead_23 : g_dc cX0_lead 23 (.ishl) 1 24 := ⟨by decide +kernel, rfl⟩
theorem e_X0_lead_24 : g_dc cX0_lead 24 (.iand) 1 25 := ⟨by decide +kernel, rfl⟩
theorem e_X0_lead_25 : g_dc cX0_lead 25 (.ifCond .eq 5) 3 28 := ⟨by decide +kernel, rfl⟩
theorem e_X0_lead_28 : g_dc cX0_lead 28 (.iconst 2) 1 29 := ⟨by decide +kernel, rfl⟩
theorem e_X0_lead_29 : g_dc cX0_lead 29 (.istore_n 2) 1 30 := ⟨by decide +kernel, rfl⟩
theorem e_X0_lead_30 : g_dc cX0_lead 30 (.aload_n 0) 1 31 := ⟨by decide +kernel, rfl⟩
theorem e_X0_lead_31 : g_dc cX0_lead 31 (.getfield 35) 3 34 := ⟨by decide +kernel, rfl⟩
theorem e_X0_lead_34 : g_dc cX0_lead 34 (.iload_n 1) 1 35 := ⟨by decide +kernel, rfl⟩
theorem e_X0_lead_35 : g_dc cX0_lead 35 (.iload_n 2) 1 36 := ⟨by decide +kernel, rfl⟩
theorem e_X0_lead_36 : g_dc cX0_lead 36 (.aload_n 0) 1 37 := ⟨by decide +kernel, rfl⟩
theorem e_X0_lead_37 : g_dc cX0_lead 37 (.getfield 43) 3 40 := ⟨by decide +kernel, rfl⟩
theorem e_X0_lead_40 : g_dc cX0_lead 40 (.iload_n 1) 1 41 := ⟨by decide +kernel, rfl⟩
theorem e_X0_lead_41 : g_dc cX0_lead 41 (.iaload) 1 42 := ⟨by decide +kernel, rfl⟩
theorem e_X0_lead_42 : g_dc cX0_lead 42 (.aload_n 0) 1 43 := ⟨by decide +kernel, rfl⟩
theorem e_X0_lead_43 : g_dc cX0_lead 43 (.getfield 35) 3 46 := ⟨by decide +kernel, rfl⟩
theorem e_X0_lead_46 : g_dc cX0_lead 46 (.getfield 159) 3 49 := ⟨by decide +kernel, rfl⟩
theorem e_X0_lead_49 : g_dc cX0_lead 49 (.iload_n 1) 1 50 := ⟨by decide +kernel, rfl⟩
theorem e_X0_lead_50 : g_dc cX0_lead 50 (.iaload) 1 51 := ⟨by decide +kernel, rfl⟩
theorem e_X0_lead_51 : g_dc cX0_lead 51 (.isub) 1 52 := ⟨by decide +kernel, rfl⟩
theorem e_X0_lead_52 : g_dc cX0_lead 52 (.invokevirtual 196) 3 55 := ⟨by decide +kernel, rfl⟩
theorem e_X0_lead_55 : g_dc cX0_lead 55 (.return_) 1 56 := ⟨by decide +kernel, rfl⟩
def md_X0_lead : List Nat := []
def mr_X0_lead : List Nat := [46]
set_option maxHeartbeats 4000000 in
set_option maxRecDepth 100000 in
theorem w_X0_lead (l : Launch) (X : gX) (ad : Nat → Nat) (F : Nat → Int32) (R : Nat → Nat → Int32) (hI : g_ok LK_wX F) (hA : g_okR LA_wX R) (a0 : Int32) (pa0 : jv 0 9 a0) : g_Cv l X yX0_lead cX0_lead 3 3 0 0 [.ref (ad 37), .int a0] (wX X ad F R) (fun w => ∃ (F' : Nat → Int32) (R' : Nat → Nat → Int32), w = wX X ad F' R' ∧ g_ok LK_wX F' ∧ g_okR LA_wX R' ∧ g_fr md_X0_lead F F' ∧ g_fr mr_X0_lead R R' ∧ (F', R') = sp_X0_lead F R a0) := by
  refine g_mv (by decide +kernel) (Nat.le_of_ble_eq_true rfl) (fun E cx hret => ?_)
  obtain ⟨SP, hSP⟩ : ∃ z, z = sp_X0_lead F R a0 := ⟨_, rfl⟩
  have hk0 := hSP
  unfold sp_X0_lead at hk0
  refine g_aload_n cx 0 rfl e_X0_lead_0 ?_
  refine g_get cx cl_X0 fl_X0_65 37 (.int (F 605)) e_X0_lead_1 rfl rfl ?_
  refine g_iconst cx 1 (by decide) e_X0_lead_4 ?_
  refine g_iload_n cx 1 rfl e_X0_lead_5 ?_
  refine g_ishl cx e_X0_lead_6 ?_
  refine g_topi (fun x1 ex1 => ?_)
  have hk2 := k_ls hk0 ex1
  refine g_iand cx e_X0_lead_7 ?_
  refine g_topi (fun x3 ex3 => ?_)
  have hk4 := k_ls hk2 ex3
  have J16 : ∀ (y5 : Int32), (jv 0 1 y5) → (SP = K_X0_lead_16 F R a0 y5) → G X E 3 0 0 (wX X ad F R) [(0, .ref (ad 37)), (1, .int a0)] 16 [.int y5] := by
    intro y5 py5 hkJ16
    unfold K_X0_lead_16 at hkJ16
    refine g_istore_n cx [(2, .int y5), (0, .ref (ad 37)), (1, .int a0)] e_X0_lead_16 (by decide) rfl ?_
    refine g_aload_n cx 1 rfl e_X0_lead_17 ?_
    refine g_get cx cl_X0 fl_X0_68 37 (.int (F 606)) e_X0_lead_18 rfl rfl ?_
    refine g_iconst cx 1 (by decide) e_X0_lead_21 ?_
    refine g_iload_n cx 2 rfl e_X0_lead_22 ?_
    refine g_ishl cx e_X0_lead_23 ?_
    refine g_topi (fun x6 ex6 => ?_)
    have hk7 := k_ls hkJ16 ex6
    refine g_iand cx e_X0_lead_24 ?_
    refine g_topi (fun x8 ex8 => ?_)
    have hk9 := k_ls hk7 ex8
    have J30 : ∀ (y10 : Int32), (jv 0 2 y10) → (SP = K_X0_lead_30 F R a0 y10) → G X E 3 0 0 (wX X ad F R) [(0, .ref (ad 37)), (1, .int a0), (2, .int y10)] 30 [] := by
      intro y10 py10 hkJ30
      unfold K_X0_lead_30 at hkJ30
      refine g_aload_n cx 0 rfl e_X0_lead_30 ?_
      refine g_get cx cl_X0 fl_X0_35 37 (.ref (ad 43)) e_X0_lead_31 rfl rfl ?_
      refine g_iload_n cx 1 rfl e_X0_lead_34 ?_
      refine g_iload_n cx 2 rfl e_X0_lead_35 ?_
      refine g_aload_n cx 0 rfl e_X0_lead_36 ?_
      refine g_get cx cl_X0 fl_X0_43 37 (.ref (ad 39)) e_X0_lead_37 rfl rfl ?_
      refine g_iload_n cx 1 rfl e_X0_lead_40 ?_
      refine g_iald cx 39 e_X0_lead_41 rfl (jv_ix 10 pa0 (by decide)) ?_
      refine g_topi (fun x11 ex11 => ?_)
      have hk12 := k_ls hkJ30 ex11
      refine g_aload_n cx 0 rfl e_X0_lead_42 ?_
      refine g_get cx cl_X0 fl_X0_35 37 (.ref (ad 43)) e_X0_lead_43 rfl rfl ?_
      refine g_getN cx cl_X4 fn_X0_159 43 (.ref (ad 44)) e_X0_lead_46 rfl rfl ?_
      refine g_iload_n cx 1 rfl e_X0_lead_49 ?_
      refine g_iald cx 44 e_X0_lead_50 rfl (jv_ix 10 pa0 (by decide)) ?_
      refine g_topi (fun x13 ex13 => ?_)
      have hk14 := k_ls hk12 ex13
      refine g_isub cx e_X0_lead_51 ?_
      refine g_topi (fun x15 ex15 => ?_)
      have hk16 := k_ls hk14 ex15
      refine g_cVvW cx [.int a0, .int y10, .int x15] [] (w_X4_lead l X ad F R hI hA a0 y10 x15) ml_X0_196 yV_X4_lead e_X0_lead_52 (by unfold g_rr; decide) (by decide) 43 rfl rfl rfl (Nat.le_of_ble_eq_true rfl) (fun w18 h19 => ?_)
      obtain ⟨F21, R22, rfl, oF21, oR22, cF21, cR22, hx20⟩ := h19
      have hk23 := k_ls2 hk16 hx20
      have fF21 : g_fr md_X0_lead F F21 := g_fr_c (g_fr_rf F) cF21 rfl
      have fR22 : g_fr mr_X0_lead R R22 := g_fr_c (g_fr_rf R) cR22 rfl
      exact hret e_X0_lead_55 (Nat.le_of_ble_eq_true rfl) (Nat.le_of_ble_eq_true rfl) ⟨F21, R22, rfl, oF21, oR22, fF21, fR22, (hk23.symm.trans hSP)⟩
    refine g_if_eq cx 30 e_X0_lead_25 (by decide) (fun zc24 => ?_) (fun zc24 => ?_)
    · have p25 := gn_eq 0 0 (gc_eq zc24) (jv_t x8) (jv_k (x := 0) 0 (by decide)) (by decide)
      have hk26 := hk9.trans (if_pos zc24)
      refine g_lsub [1, 2, 0] [(0, .ref (ad 37)), (1, .int a0), (2, .int y5)] rfl ?_
      exact J30 y5 (jv_w py5 (by decide)) hk26
    · have hk27 := hk9.trans (if_neg zc24)
      refine g_iconst cx 2 (by decide) e_X0_lead_28 ?_
      refine g_istore_n cx [(2, .int 2), (0, .ref (ad 37)), (1, .int a0)] e_X0_lead_29 (by decide) rfl ?_
      refine g_lsub [1, 2, 0] [(0, .ref (ad 37)), (1, .int a0), (2, .int 2)] rfl ?_
      exact J30 2 (jv_w (jv_k (x := 2) 2 (by decide)) (by decide)) hk27
  refine g_if_eq cx 15 e_X0_lead_8 (by decide) (fun zc28 => ?_) (fun zc28 => ?_)
  · have p29 := gn_eq 0 0 (gc_eq zc28) (jv_t x3) (jv_k (x := 0) 0 (by decide)) (by decide)
    have hk30 := hk4.trans (if_pos zc28)
    refine g_iconst cx 1 (by decide) e_X0_lead_15 ?_
    exact J16 1 (jv_w (jv_k (x := 1) 1 (by decide)) (by decide)) hk30
  · have hk31 := hk4.trans (if_neg zc28)
    refine g_iconst cx 0 (by decide) e_X0_lead_11 ?_
    refine g_goto cx 16 e_X0_lead_12 (by decide) ?_
    exact J16 0 (jv_w (jv_k (x := 0) 0 (by decide)) (by decide)) hk31
def K_X0_slide_65  (F15 : Nat → Int32) (R16 : Nat → Nat → Int32) : (Nat → Int32) × (Nat → Nat → Int32) :=
  (F15, R16)
def sp_X0_slide (F : Nat → Int32) (R : Nat → Nat → Int32) (a0 : Int32) : (Nat → Int32) × (Nat → Nat → Int32) :=
  k_lt (R 44 (Int32.toNatClampNeg a0)) (fun x1 => k_lt (g_u R 39 (upd (R 39) (Int32.toNatClampNeg a0) x1)) (fun R3 => k_lt (R3 44 (Int32.toNatClampNeg a0)) (fun x5 => k_lt (R3 38 (Int32.toNatClampNeg a0)) (fun x7 => k_lt (x5 - x7) (fun x9 => k_lt (g_u R3 44 (upd (R3 44) (Int32.toNatClampNeg a0) x9)) (fun R11 => k_lt (R11 44 (Int32.toNatClampNeg a0)) (fun x13 => if 0 ≤ x13 then K_X0_slide_65 F R11 else k_lt (1 <<< (a0 &&& 31)) (fun x22 => k_lt ((F 693) ||| x22) (fun x24 => k_lt (upd F 693 x24) (fun F26 => k_lt2 (sp_X0_lead F26 R11 a0) (fun F32 R33 => K_X0_slide_65 F32 R33)))))))))))
theorem e_X0_slide_0 : g_dc cX0_slide 0 (.aload_n 0) 1 1 := ⟨by decide +kernel, rfl⟩
theorem e_X0_slide_1 : g_dc cX0_slide 1 (.getfield 43) 3 4 := ⟨by decide +kernel, rfl⟩
theorem e_X0_slide_4 : g_dc cX0_slide 4 (.iload_n 1) 1 5 := ⟨by decide +kernel, rfl⟩
theorem e_X0_slide_5 : g_dc cX0_slide 5 (.aload_n 0) 1 6 := ⟨by decide +kernel, rfl⟩
theorem e_X0_slide_6 : g_dc cX0_slide 6 (.getfield 35) 3 9 := ⟨by decide +kernel, rfl⟩
theorem e_X0_slide_9 : g_dc cX0_slide 9 (.getfield 159) 3 12 := ⟨by decide +kernel, rfl⟩
theorem e_X0_slide_12 : g_dc cX0_slide 12 (.iload_n 1) 1 13 := ⟨by decide +kernel, rfl⟩
theorem e_X0_slide_13 : g_dc cX0_slide 13 (.iaload) 1 14 := ⟨by decide +kernel, rfl⟩
theorem e_X0_slide_14 : g_dc cX0_slide 14 (.iastore) 1 15 := ⟨by decide +kernel, rfl⟩
theorem e_X0_slide_15 : g_dc cX0_slide 15 (.aload_n 0) 1 16 := ⟨by decide +kernel, rfl⟩
theorem e_X0_slide_16 : g_dc cX0_slide 16 (.getfield 35) 3 19 := ⟨by decide +kernel, rfl⟩
theorem e_X0_slide_19 : g_dc cX0_slide 19 (.getfield 159) 3 22 := ⟨by decide +kernel, rfl⟩
theorem e_X0_slide_22 : g_dc cX0_slide 22 (.iload_n 1) 1 23 := ⟨by decide +kernel, rfl⟩
theorem e_X0_slide_23 : g_dc cX0_slide 23 (.dup2) 1 24 := ⟨by decide +kernel, rfl⟩
theorem e_X0_slide_24 : g_dc cX0_slide 24 (.iaload) 1 25 := ⟨by decide +kernel, rfl⟩
theorem e_X0_slide_25 : g_dc cX0_slide 25 (.aload_n 0) 1 26 := ⟨by decide +kernel, rfl⟩
theorem e_X0_slide_26 : g_dc cX0_slide 26 (.getfield 39) 3 29 := ⟨by decide +kernel, rfl⟩
theorem e_X0_slide_29 : g_dc cX0_slide 29 (.iload_n 1) 1 30 := ⟨by decide +kernel, rfl⟩
theorem e_X0_slide_30 : g_dc cX0_slide 30 (.iaload) 1 31 := ⟨by decide +kernel, rfl⟩
theorem e_X0_slide_31 : g_dc cX0_slide 31 (.isub) 1 32 := ⟨by decide +kernel, rfl⟩
theorem e_X0_slide_32 : g_dc cX0_slide 32 (.iastore) 1 33 := ⟨by decide +kernel, rfl⟩
theorem e_X0_slide_33 : g_dc cX0_slide 33 (.aload_n 0) 1 34 := ⟨by decide +kernel, rfl⟩
theorem e_X0_slide_34 : g_dc cX0_slide 34 (.getfield 35) 3 37 := ⟨by decide +kernel, rfl⟩
theorem e_X0_slide_37 : g_dc cX0_slide 37 (.getfield 159) 3 40 := ⟨by decide +kernel, rfl⟩
theorem e_X0_slide_40 : g_dc cX0_slide 40 (.iload_n 1) 1 41 := ⟨by decide +kernel, rfl⟩
theorem e_X0_slide_41 : g_dc cX0_slide 41 (.iaload) 1 42 := ⟨by decide +kernel, rfl⟩
theorem e_X0_slide_42 : g_dc cX0_slide 42 (.ifCond .ge 23) 3 45 := ⟨by decide +kernel, rfl⟩
theorem e_X0_slide_45 : g_dc cX0_slide 45 (.aload_n 0) 1 46 := ⟨by decide +kernel, rfl⟩
theorem e_X0_slide_46 : g_dc cX0_slide 46 (.getfield 35) 3 49 := ⟨by decide +kernel, rfl⟩
theorem e_X0_slide_49 : g_dc cX0_slide 49 (.dup) 1 50 := ⟨by decide +kernel, rfl⟩
theorem e_X0_slide_50 : g_dc cX0_slide 50 (.getfield 186) 3 53 := ⟨by decide +kernel, rfl⟩
theorem e_X0_slide_53 : g_dc cX0_slide 53 (.iconst 1) 1 54 := ⟨by decide +kernel, rfl⟩
theorem e_X0_slide_54 : g_dc cX0_slide 54 (.iload_n 1) 1 55 := ⟨by decide +kernel, rfl⟩
theorem e_X0_slide_55 : g_dc cX0_slide 55 (.ishl) 1 56 := ⟨by decide +kernel, rfl⟩
theorem e_X0_slide_56 : g_dc cX0_slide 56 (.ior) 1 57 := ⟨by decide +kernel, rfl⟩
theorem e_X0_slide_57 : g_dc cX0_slide 57 (.putfield 186) 3 60 := ⟨by decide +kernel, rfl⟩
theorem e_X0_slide_60 : g_dc cX0_slide 60 (.aload_n 0) 1 61 := ⟨by decide +kernel, rfl⟩
theorem e_X0_slide_61 : g_dc cX0_slide 61 (.iload_n 1) 1 62 := ⟨by decide +kernel, rfl⟩
theorem e_X0_slide_62 : g_dc cX0_slide 62 (.invokevirtual 129) 3 65 := ⟨by decide +kernel, rfl⟩
theorem e_X0_slide_65 : g_dc cX0_slide 65 (.return_) 1 66 := ⟨by decide +kernel, rfl⟩
def md_X0_slide : List Nat := [693]
def mr_X0_slide : List Nat := [39, 44, 46]
set_option maxHeartbeats 4000000 in
set_option maxRecDepth 100000 in
theorem w_X0_slide (l : Launch) (X : gX) (ad : Nat → Nat) (F : Nat → Int32) (R : Nat → Nat → Int32) (hI : g_ok LK_wX F) (hA : g_okR LA_wX R) (a0 : Int32) (pa0 : jv 0 9 a0) : g_Cv l X yX0_slide cX0_slide 2 4 0 0 [.ref (ad 37), .int a0] (wX X ad F R) (fun w => ∃ (F' : Nat → Int32) (R' : Nat → Nat → Int32), w = wX X ad F' R' ∧ g_ok LK_wX F' ∧ g_okR LA_wX R' ∧ g_fr md_X0_slide F F' ∧ g_fr mr_X0_slide R R' ∧ (F', R') = sp_X0_slide F R a0) := by
  refine g_mv (by decide +kernel) (Nat.le_of_ble_eq_true rfl) (fun E cx hret => ?_)
  obtain ⟨SP, hSP⟩ : ∃ z, z = sp_X0_slide F R a0 := ⟨_, rfl⟩
  have hk0 := hSP
  unfold sp_X0_slide at hk0
  refine g_aload_n cx 0 rfl e_X0_slide_0 ?_
  refine g_get cx cl_X0 fl_X0_43 37 (.ref (ad 39)) e_X0_slide_1 rfl rfl ?_
  refine g_iload_n cx 1 rfl e_X0_slide_4 ?_
  refine g_aload_n cx 0 rfl e_X0_slide_5 ?_
  refine g_get cx cl_X0 fl_X0_35 37 (.ref (ad 43)) e_X0_slide_6 rfl rfl ?_
  refine g_getN cx cl_X4 fn_X0_159 43 (.ref (ad 44)) e_X0_slide_9 rfl rfl ?_
  refine g_iload_n cx 1 rfl e_X0_slide_12 ?_
  refine g_iald cx 44 e_X0_slide_13 rfl (jv_ix 10 pa0 (by decide)) ?_
  refine g_topi (fun x1 ex1 => ?_)
  have hk2 := k_ls hk0 ex1
  refine g_iast cx 39 (wX X ad F (g_u R 39 (upd (R 39) (Int32.toNatClampNeg a0) x1))) e_X0_slide_14 rfl (jv_ix 10 pa0 (by decide)) rfl ?_
  obtain ⟨R3, hR3⟩ : ∃ z, z = g_u R 39 (upd (R 39) (Int32.toNatClampNeg a0) x1) := ⟨_, rfl⟩
  rw [← hR3]
  have hk4 := k_ls hk2 hR3
  have oR3 : g_okR LA_wX R3 := by rw [hR3]; exact g_okR_u hA rfl
  have fR3 : g_fr mr_X0_slide R R3 := by rw [hR3]; exact g_fr_r (g_fr_rf R) rfl
  refine g_aload_n cx 0 rfl e_X0_slide_15 ?_
  refine g_get cx cl_X0 fl_X0_35 37 (.ref (ad 43)) e_X0_slide_16 rfl rfl ?_
  refine g_getN cx cl_X4 fn_X0_159 43 (.ref (ad 44)) e_X0_slide_19 rfl rfl ?_
  refine g_iload_n cx 1 rfl e_X0_slide_22 ?_
  refine g_dup2 cx rfl rfl e_X0_slide_23 ?_
  refine g_iald cx 44 e_X0_slide_24 rfl (jv_ix 10 pa0 (by decide)) ?_
  refine g_topi (fun x5 ex5 => ?_)
  have hk6 := k_ls hk4 ex5
  refine g_aload_n cx 0 rfl e_X0_slide_25 ?_
  refine g_get cx cl_X0 fl_X0_39 37 (.ref (ad 38)) e_X0_slide_26 rfl rfl ?_
  refine g_iload_n cx 1 rfl e_X0_slide_29 ?_
  refine g_iald cx 38 e_X0_slide_30 rfl (jv_ix 10 pa0 (by decide)) ?_
  refine g_topi (fun x7 ex7 => ?_)
  have hk8 := k_ls hk6 ex7
  refine g_isub cx e_X0_slide_31 ?_
  refine g_topi (fun x9 ex9 => ?_)
  have hk10 := k_ls hk8 ex9
  refine g_iast cx 44 (wX X ad F (g_u R3 44 (upd (R3 44) (Int32.toNatClampNeg a0) x9))) e_X0_slide_32 rfl (jv_ix 10 pa0 (by decide)) rfl ?_
  obtain ⟨R11, hR11⟩ : ∃ z, z = g_u R3 44 (upd (R3 44) (Int32.toNatClampNeg a0) x9) := ⟨_, rfl⟩
  rw [← hR11]
  have hk12 := k_ls hk10 hR11
  have oR11 : g_okR LA_wX R11 := by rw [hR11]; exact g_okR_u oR3 rfl
  have fR11 : g_fr mr_X0_slide R R11 := by rw [hR11]; exact g_fr_r fR3 rfl
  refine g_aload_n cx 0 rfl e_X0_slide_33 ?_
  refine g_get cx cl_X0 fl_X0_35 37 (.ref (ad 43)) e_X0_slide_34 rfl rfl ?_
  refine g_getN cx cl_X4 fn_X0_159 43 (.ref (ad 44)) e_X0_slide_37 rfl rfl ?_
  refine g_iload_n cx 1 rfl e_X0_slide_40 ?_
  refine g_iald cx 44 e_X0_slide_41 rfl (jv_ix 10 pa0 (by decide)) ?_
  refine g_topi (fun x13 ex13 => ?_)
  have hk14 := k_ls hk12 ex13
  have J65 : ∀ (F15 : Nat → Int32) (R16 : Nat → Nat → Int32), (g_ok LK_wX F15) → (g_fr md_X0_slide F F15) → (g_okR LA_wX R16) → (g_fr mr_X0_slide R R16) → (SP = K_X0_slide_65 F15 R16) → G X E 2 0 0 (wX X ad F15 R16) [] 65 [] := by
    intro F15 R16 oF15 fF15 oR16 fR16 hkJ65
    unfold K_X0_slide_65 at hkJ65
    exact hret e_X0_slide_65 (Nat.le_of_ble_eq_true rfl) (Nat.le_of_ble_eq_true rfl) ⟨F15, R16, rfl, oF15, oR16, fF15, fR16, (hkJ65.symm.trans hSP)⟩
  refine g_if_ge cx 65 e_X0_slide_42 (by decide) (fun zc17 => ?_) (fun zc17 => ?_)
  · have p18 := gn_ge 0 2147483647 (gc_le zc17) (jv_t x13) (jv_k (x := 0) 0 (by decide)) (by decide)
    have hk19 := hk14.trans (if_pos zc17)
    refine g_lsub [] [] rfl ?_
    exact J65 F R11 hI (g_fr_rf F) oR11 fR11 hk19
  · have p20 := gn_lt (-2147483648) (-1) (gc_nle zc17) (jv_t x13) (jv_k (x := 0) 0 (by decide)) (by decide)
    have hk21 := hk14.trans (if_neg zc17)
    refine g_aload_n cx 0 rfl e_X0_slide_45 ?_
    refine g_get cx cl_X0 fl_X0_35 37 (.ref (ad 43)) e_X0_slide_46 rfl rfl ?_
    refine g_dup cx rfl e_X0_slide_49 ?_
    refine g_getN cx cl_X4 fn_X0_186 43 (.int (F 693)) e_X0_slide_50 rfl rfl ?_
    refine g_iconst cx 1 (by decide) e_X0_slide_53 ?_
    refine g_iload_n cx 1 rfl e_X0_slide_54 ?_
    refine g_ishl cx e_X0_slide_55 ?_
    refine g_topi (fun x22 ex22 => ?_)
    have hk23 := k_ls hk21 ex22
    refine g_ior cx e_X0_slide_56 ?_
    refine g_topi (fun x24 ex24 => ?_)
    have hk25 := k_ls hk23 ex24
    refine g_putN cx cl_X4 fn_X0_186 43 (wX X ad (upd F 693 x24) R11) e_X0_slide_57 rfl rfl rfl rfl (Nat.le_of_ble_eq_true rfl) rfl ?_
    obtain ⟨F26, hF26⟩ : ∃ z, z = upd F 693 x24 := ⟨_, rfl⟩
    rw [← hF26]
    have hk27 := k_ls hk25 hF26
    have oF26 : g_ok LK_wX F26 := by rw [hF26]; exact g_ok_u hI rfl
    have fF26 : g_fr md_X0_slide F F26 := by rw [hF26]; exact g_fr_u (g_fr_rf F) rfl
    refine g_aload_n cx 0 rfl e_X0_slide_60 ?_
    refine g_iload_n cx 1 rfl e_X0_slide_61 ?_
    refine g_cVvW cx [.int a0] [] (w_X0_lead l X ad F26 R11 oF26 oR11 a0 pa0) ml_X0_129 yV_X0_lead e_X0_slide_62 (by unfold g_rr; decide) (by decide) 37 rfl rfl rfl (Nat.le_of_ble_eq_true rfl) (fun w29 h30 => ?_)
    obtain ⟨F32, R33, rfl, oF32, oR33, cF32, cR33, hx31⟩ := h30
    have hk34 := k_ls2 hk27 hx31
    have fF32 : g_fr md_X0_slide F F32 := g_fr_c fF26 cF32 rfl
    have fR33 : g_fr mr_X0_slide R R33 := g_fr_c fR11 cR33 rfl
    refine g_lsub [] [] rfl ?_
    exact J65 F32 R33 oF32 fF32 oR33 fR33 hk34
def K_X4_placeOf_20  (y5 : Int32) : Int32 :=
  y5
def sp_X4_placeOf (F : Nat → Int32) (R : Nat → Nat → Int32) (a0 : Int32) : Int32 :=
  k_lt (g_in a0 0 9) (fun r1 => if r1 = 0 then K_X4_placeOf_20 (-1) else k_lt (R 44 (Int32.toNatClampNeg a0)) (fun x12 => K_X4_placeOf_20 x12))
theorem e_X4_placeOf_0 : g_dc cX4_placeOf 0 (.iload_n 1) 1 1 := ⟨by decide +kernel, rfl⟩
theorem e_X4_placeOf_1 : g_dc cX4_placeOf 1 (.iconst 0) 1 2 := ⟨by decide +kernel, rfl⟩
theorem e_X4_placeOf_2 : g_dc cX4_placeOf 2 (.bipush 9) 2 4 := ⟨by decide +kernel, rfl⟩
theorem e_X4_placeOf_4 : g_dc cX4_placeOf 4 (.invokestatic 54) 3 7 := ⟨by decide +kernel, rfl⟩
theorem e_X4_placeOf_7 : g_dc cX4_placeOf 7 (.ifCond .eq 12) 3 10 := ⟨by decide +kernel, rfl⟩
theorem e_X4_placeOf_10 : g_dc cX4_placeOf 10 (.aload_n 0) 1 11 := ⟨by decide +kernel, rfl⟩
theorem e_X4_placeOf_11 : g_dc cX4_placeOf 11 (.getfield 9) 3 14 := ⟨by decide +kernel, rfl⟩
theorem e_X4_placeOf_14 : g_dc cX4_placeOf 14 (.iload_n 1) 1 15 := ⟨by decide +kernel, rfl⟩
theorem e_X4_placeOf_15 : g_dc cX4_placeOf 15 (.iaload) 1 16 := ⟨by decide +kernel, rfl⟩
theorem e_X4_placeOf_16 : g_dc cX4_placeOf 16 (.goto 4) 3 19 := ⟨by decide +kernel, rfl⟩
theorem e_X4_placeOf_19 : g_dc cX4_placeOf 19 (.iconst (-1)) 1 20 := ⟨by decide +kernel, rfl⟩
theorem e_X4_placeOf_20 : g_dc cX4_placeOf 20 (.ireturn) 1 21 := ⟨by decide +kernel, rfl⟩
set_option maxHeartbeats 4000000 in
set_option maxRecDepth 100000 in
theorem w_X4_placeOf (l : Launch) (X : gX) (ad : Nat → Nat) (F : Nat → Int32) (R : Nat → Nat → Int32) (hI : g_ok LK_wX F) (hA : g_okR LA_wX R) (a0 : Int32) : g_Ci l X yX4_placeOf cX4_placeOf 2 (some .int) 2 0 0 [.ref (ad 43), .int a0] (wX X ad F R) (fun r w => w = wX X ad F R ∧ jv (-2147483648) 2147483647 r ∧ r = sp_X4_placeOf F R a0) := by
  refine g_mi (by decide +kernel) (Nat.le_of_ble_eq_true rfl) (fun E cx hret => ?_)
  obtain ⟨SP, hSP⟩ : ∃ z, z = sp_X4_placeOf F R a0 := ⟨_, rfl⟩
  have hk0 := hSP
  unfold sp_X4_placeOf at hk0
  refine g_iload_n cx 1 rfl e_X4_placeOf_0 ?_
  refine g_iconst cx 0 (by decide) e_X4_placeOf_1 ?_
  refine g_bipush cx 9 (by decide) e_X4_placeOf_2 ?_
  refine g_cNiW cx [.int a0, .int 0, .int 9] [] (c_X10_within l X (wX X ad F R) a0 0 9) mn_X4_54 yS_X10_within e_X4_placeOf_4 (by unfold g_rr; decide) (by decide) rfl (Nat.le_of_ble_eq_true rfl) (fun r1 w2 h3 => ?_)
  obtain ⟨rfl, hr1⟩ := h3
  have pr1 : jv 0 1 r1 := by rw [hr1]; exact gi_01 _ _ _
  have hk4 := k_ls hk0 hr1
  have J20 : ∀ (y5 : Int32), (jv (-2147483648) 2147483647 y5) → (SP = K_X4_placeOf_20 y5) → G X E 2 0 0 (wX X ad F R) [] 20 [.int y5] := by
    intro y5 py5 hkJ20
    unfold K_X4_placeOf_20 at hkJ20
    exact hret e_X4_placeOf_20 (Nat.le_of_ble_eq_true rfl) (Nat.le_of_ble_eq_true rfl) rfl ⟨rfl, py5, (hkJ20.symm.trans hSP)⟩
  refine g_if_eq cx 19 e_X4_placeOf_7 (by decide) (fun zc6 => ?_) (fun zc6 => ?_)
  · have p7 := gn_eq 0 0 (gc_eq zc6) pr1 (jv_k (x := 0) 0 (by decide)) (by decide)
    have hk8 := hk4.trans (if_pos zc6)
    refine g_iconst cx (-1) (by decide) e_X4_placeOf_19 ?_
    refine g_lsub [] [] rfl ?_
    exact J20 (-1) (jv_w (jv_k (x := (-1)) (-1) (by decide)) (by decide)) hk8
  · have p9 := gn_neL 1 1 (gc_ne zc6) pr1 (jv_k (x := 0) 0 (by decide)) (by decide)
    have p10 := jv_i 0 9 (jv_t a0) (gi_in (A := 0) (B := 9) hr1 zc6 (by decide) (by decide)) (by decide)
    have hk11 := hk4.trans (if_neg zc6)
    refine g_aload_n cx 0 rfl e_X4_placeOf_10 ?_
    refine g_get cx cl_X4 fl_X4_9 43 (.ref (ad 44)) e_X4_placeOf_11 rfl rfl ?_
    refine g_iload_n cx 1 rfl e_X4_placeOf_14 ?_
    refine g_iald cx 44 e_X4_placeOf_15 rfl (jv_ix 10 p10 (by decide)) ?_
    refine g_topi (fun x12 ex12 => ?_)
    have hk13 := k_ls hk11 ex12
    refine g_goto cx 20 e_X4_placeOf_16 (by decide) ?_
    refine g_lsub [] [] rfl ?_
    exact J20 x12 (jv_t x12) hk13
def K_X0_lineUp_118 (b15 : (Nat → Int32) → (Nat → Nat → Int32) → (Int32) → (Nat → Int32) × (Nat → Nat → Int32)) (y8 : Int32) (F20 : Nat → Int32) (R21 : Nat → Nat → Int32) : (Nat → Int32) × (Nat → Nat → Int32) :=
  k_lt (y8 + 1) (fun x22 => b15 F20 R21 x22)
def K_X0_lineUp_91 (b15 : (Nat → Int32) → (Nat → Nat → Int32) → (Int32) → (Nat → Int32) × (Nat → Nat → Int32)) (F9 : Nat → Int32) (R29 : Nat → Nat → Int32) (y8 : Int32) (y28 : Int32)  : (Nat → Int32) × (Nat → Nat → Int32) :=
  if y28 < 0 then K_X0_lineUp_118 b15 y8 F9 R29 else if 10 ≤ y28 then K_X0_lineUp_118 b15 y8 F9 R29 else k_lt (g_u R29 40 (upd (R29 40) (Int32.toNatClampNeg y28) y8)) (fun R40 => k_lt ((F9 602) + 1) (fun x42 => k_lt (upd F9 602 x42) (fun F44 => K_X0_lineUp_118 b15 y8 F44 R40)))
def KB_X0_lineUp_34 (b34 : (Nat → Nat → Int32) → (Int32) → (Nat → Int32) × (Nat → Nat → Int32)) (b15 : (Nat → Int32) → (Nat → Nat → Int32) → (Int32) → (Nat → Int32) × (Nat → Nat → Int32)) (F9 : Nat → Int32) (y8 : Int32) (R29 : Nat → Nat → Int32) (y28 : Int32) : (Nat → Int32) × (Nat → Nat → Int32) :=
  if y28 ≤ 0 then K_X0_lineUp_91 b15 F9 R29 y8 y28 else if 10 ≤ y28 then K_X0_lineUp_91 b15 F9 R29 y8 y28 else k_lt (y28 - 1) (fun x56 => k_lt (R29 40 (Int32.toNatClampNeg x56)) (fun x58 => k_lt (sp_X4_placeOf F9 R29 x58) (fun r60 => k_lt (R29 44 (Int32.toNatClampNeg y8)) (fun x65 => if r60 ≤ x65 then K_X0_lineUp_91 b15 F9 R29 y8 y28 else k_lt (y28 - 1) (fun x72 => k_lt (R29 40 (Int32.toNatClampNeg x72)) (fun x74 => k_lt (g_u R29 40 (upd (R29 40) (Int32.toNatClampNeg y28) x74)) (fun R76 => k_lt (y28 + (-1)) (fun x78 => b34 R76 x78))))))))
def K_X0_lineUp_34 (b15 : (Nat → Int32) → (Nat → Nat → Int32) → (Int32) → (Nat → Int32) × (Nat → Nat → Int32)) (F9 : Nat → Int32) (y8 : Int32) : Nat → (Nat → Nat → Int32) → (Int32) → (Nat → Int32) × (Nat → Nat → Int32)
  | 0 => fun R29 _ => (F9, R29)
  | n + 1 => KB_X0_lineUp_34 (K_X0_lineUp_34 b15 F9 y8 n) b15 F9 y8
def KB_X0_lineUp_15 (b15 : (Nat → Int32) → (Nat → Nat → Int32) → (Int32) → (Nat → Int32) × (Nat → Nat → Int32)) (r3 : Int32) (F9 : Nat → Int32) (R10 : Nat → Nat → Int32) (y8 : Int32) : (Nat → Int32) × (Nat → Nat → Int32) :=
  if 10 ≤ y8 then (F9, R10) else k_lt (1 <<< (y8 &&& 31)) (fun x16 => k_lt (r3 &&& x16) (fun x18 => if x18 = 0 then K_X0_lineUp_118 b15 y8 F9 R10 else K_X0_lineUp_34 b15 F9 y8 8589934592 R10 (F9 602)))
def K_X0_lineUp_15 (r3 : Int32) : Nat → (Nat → Int32) → (Nat → Nat → Int32) → (Int32) → (Nat → Int32) × (Nat → Nat → Int32)
  | 0 => fun F9 R10 _ => (F9, R10)
  | n + 1 => KB_X0_lineUp_15 (K_X0_lineUp_15 r3 n) r3
def sp_X0_lineUp (F : Nat → Int32) (R : Nat → Nat → Int32) : (Nat → Int32) × (Nat → Nat → Int32) :=
  k_lt (upd F 602 0) (fun F1 => k_lt (sp_X4_standingSet F1 R) (fun r3 => K_X0_lineUp_15 r3 8589934592 F1 R 0))
theorem e_X0_lineUp_0 : g_dc cX0_lineUp 0 (.aload_n 0) 1 1 := ⟨by decide +kernel, rfl⟩
theorem e_X0_lineUp_1 : g_dc cX0_lineUp 1 (.iconst 0) 1 2 := ⟨by decide +kernel, rfl⟩
theorem e_X0_lineUp_2 : g_dc cX0_lineUp 2 (.putfield 56) 3 5 := ⟨by decide +kernel, rfl⟩
theorem e_X0_lineUp_5 : g_dc cX0_lineUp 5 (.aload_n 0) 1 6 := ⟨by decide +kernel, rfl⟩
theorem e_X0_lineUp_6 : g_dc cX0_lineUp 6 (.getfield 35) 3 9 := ⟨by decide +kernel, rfl⟩
theorem e_X0_lineUp_9 : g_dc cX0_lineUp 9 (.invokevirtual 101) 3 12 := ⟨by decide +kernel, rfl⟩
theorem e_X0_lineUp_12 : g_dc cX0_lineUp 12 (.istore_n 1) 1 13 := ⟨by decide +kernel, rfl⟩
theorem e_X0_lineUp_13 : g_dc cX0_lineUp 13 (.iconst 0) 1 14 := ⟨by decide +kernel, rfl⟩
theorem e_X0_lineUp_14 : g_dc cX0_lineUp 14 (.istore_n 2) 1 15 := ⟨by decide +kernel, rfl⟩
theorem e_X0_lineUp_15 : g_dc cX0_lineUp 15 (.iload_n 2) 1 16 := ⟨by decide +kernel, rfl⟩
theorem e_X0_lineUp_16 : g_dc cX0_lineUp 16 (.bipush 10) 2 18 := ⟨by decide +kernel, rfl⟩
theorem e_X0_lineUp_18 : g_dc cX0_lineUp 18 (.if_icmp .ge 106) 3 21 := ⟨by decide +kernel, rfl⟩
theorem e_X0_lineUp_21 : g_dc cX0_lineUp 21 (.iload_n 1) 1 22 := ⟨by decide +kernel, rfl⟩
theorem e_X0_lineUp_22 : g_dc cX0_lineUp 22 (.iconst 1) 1 23 := ⟨by decide +kernel, rfl⟩
theorem e_X0_lineUp_23 : g_dc cX0_lineUp 23 (.iload_n 2) 1 24 := ⟨by decide +kernel, rfl⟩
theorem e_X0_lineUp_24 : g_dc cX0_lineUp 24 (.ishl) 1 25 := ⟨by decide +kernel, rfl⟩
theorem e_X0_lineUp_25 : g_dc cX0_lineUp 25 (.iand) 1 26 := ⟨by decide +kernel, rfl⟩
theorem e_X0_lineUp_26 : g_dc cX0_lineUp 26 (.ifCond .eq 92) 3 29 := ⟨by decide +kernel, rfl⟩
theorem e_X0_lineUp_29 : g_dc cX0_lineUp 29 (.aload_n 0) 1 30 := ⟨by decide +kernel, rfl⟩
theorem e_X0_lineUp_30 : g_dc cX0_lineUp 30 (.getfield 56) 3 33 := ⟨by decide +kernel, rfl⟩
theorem e_X0_lineUp_33 : g_dc cX0_lineUp 33 (.istore_n 3) 1 34 := ⟨by decide +kernel, rfl⟩
theorem e_X0_lineUp_34 : g_dc cX0_lineUp 34 (.iload_n 3) 1 35 := ⟨by decide +kernel, rfl⟩
theorem e_X0_lineUp_35 : g_dc cX0_lineUp 35 (.ifCond .le 56) 3 38 := ⟨by decide +kernel, rfl⟩
theorem e_X0_lineUp_38 : g_dc cX0_lineUp 38 (.iload_n 3) 1 39 := ⟨by decide +kernel, rfl⟩
theorem e_X0_lineUp_39 : g_dc cX0_lineUp 39 (.bipush 10) 2 41 := ⟨by decide +kernel, rfl⟩
theorem e_X0_lineUp_41 : g_dc cX0_lineUp 41 (.if_icmp .ge 50) 3 44 := ⟨by decide +kernel, rfl⟩
theorem e_X0_lineUp_44 : g_dc cX0_lineUp 44 (.aload_n 0) 1 45 := ⟨by decide +kernel, rfl⟩
theorem e_X0_lineUp_45 : g_dc cX0_lineUp 45 (.getfield 35) 3 48 := ⟨by decide +kernel, rfl⟩
theorem e_X0_lineUp_48 : g_dc cX0_lineUp 48 (.aload_n 0) 1 49 := ⟨by decide +kernel, rfl⟩
theorem e_X0_lineUp_49 : g_dc cX0_lineUp 49 (.getfield 46) 3 52 := ⟨by decide +kernel, rfl⟩
theorem e_X0_lineUp_52 : g_dc cX0_lineUp 52 (.iload_n 3) 1 53 := ⟨by decide +kernel, rfl⟩
theorem e_X0_lineUp_53 : g_dc cX0_lineUp 53 (.iconst 1) 1 54 := ⟨by decide +kernel, rfl⟩
theorem e_X0_lineUp_54 : g_dc cX0_lineUp 54 (.isub) 1 55 := ⟨by decide +kernel, rfl⟩
theorem e_X0_lineUp_55 : g_dc cX0_lineUp 55 (.iaload) 1 56 := ⟨by decide +kernel, rfl⟩
theorem e_X0_lineUp_56 : g_dc cX0_lineUp 56 (.invokevirtual 189) 3 59 := ⟨by decide +kernel, rfl⟩
theorem e_X0_lineUp_59 : g_dc cX0_lineUp 59 (.aload_n 0) 1 60 := ⟨by decide +kernel, rfl⟩
theorem e_X0_lineUp_60 : g_dc cX0_lineUp 60 (.getfield 35) 3 63 := ⟨by decide +kernel, rfl⟩
theorem e_X0_lineUp_63 : g_dc cX0_lineUp 63 (.getfield 159) 3 66 := ⟨by decide +kernel, rfl⟩
theorem e_X0_lineUp_66 : g_dc cX0_lineUp 66 (.iload_n 2) 1 67 := ⟨by decide +kernel, rfl⟩
theorem e_X0_lineUp_67 : g_dc cX0_lineUp 67 (.iaload) 1 68 := ⟨by decide +kernel, rfl⟩
theorem e_X0_lineUp_68 : g_dc cX0_lineUp 68 (.if_icmp .le 23) 3 71 := ⟨by decide +kernel, rfl⟩
theorem e_X0_lineUp_71 : g_dc cX0_lineUp 71 (.aload_n 0) 1 72 := ⟨by decide +kernel, rfl⟩
theorem e_X0_lineUp_72 : g_dc cX0_lineUp 72 (.getfield 46) 3 75 := ⟨by decide +kernel, rfl⟩
theorem e_X0_lineUp_75 : g_dc cX0_lineUp 75 (.iload_n 3) 1 76 := ⟨by decide +kernel, rfl⟩
theorem e_X0_lineUp_76 : g_dc cX0_lineUp 76 (.aload_n 0) 1 77 := ⟨by decide +kernel, rfl⟩
theorem e_X0_lineUp_77 : g_dc cX0_lineUp 77 (.getfield 46) 3 80 := ⟨by decide +kernel, rfl⟩
theorem e_X0_lineUp_80 : g_dc cX0_lineUp 80 (.iload_n 3) 1 81 := ⟨by decide +kernel, rfl⟩
theorem e_X0_lineUp_81 : g_dc cX0_lineUp 81 (.iconst 1) 1 82 := ⟨by decide +kernel, rfl⟩
theorem e_X0_lineUp_82 : g_dc cX0_lineUp 82 (.isub) 1 83 := ⟨by decide +kernel, rfl⟩
theorem e_X0_lineUp_83 : g_dc cX0_lineUp 83 (.iaload) 1 84 := ⟨by decide +kernel, rfl⟩
theorem e_X0_lineUp_84 : g_dc cX0_lineUp 84 (.iastore) 1 85 := ⟨by decide +kernel, rfl⟩
theorem e_X0_lineUp_85 : g_dc cX0_lineUp 85 (.iinc 3 (-1)) 3 88 := ⟨by decide +kernel, rfl⟩
theorem e_X0_lineUp_88 : g_dc cX0_lineUp 88 (.goto (-54)) 3 91 := ⟨by decide +kernel, rfl⟩
theorem e_X0_lineUp_91 : g_dc cX0_lineUp 91 (.iload_n 3) 1 92 := ⟨by decide +kernel, rfl⟩
theorem e_X0_lineUp_92 : g_dc cX0_lineUp 92 (.ifCond .lt 26) 3 95 := ⟨by decide +kernel, rfl⟩
theorem e_X0_lineUp_95 : g_dc cX0_lineUp 95 (.iload_n 3) 1 96 := ⟨by decide +kernel, rfl⟩
theorem e_X0_lineUp_96 : g_dc cX0_lineUp 96 (.bipush 10) 2 98 := ⟨by decide +kernel, rfl⟩
theorem e_X0_lineUp_98 : g_dc cX0_lineUp 98 (.if_icmp .ge 20) 3 101 := ⟨by decide +kernel, rfl⟩
theorem e_X0_lineUp_101 : g_dc cX0_lineUp 101 (.aload_n 0) 1 102 := ⟨by decide +kernel, rfl⟩
theorem e_X0_lineUp_102 : g_dc cX0_lineUp 102 (.getfield 46) 3 105 := ⟨by decide +kernel, rfl⟩
theorem e_X0_lineUp_105 : g_dc cX0_lineUp 105 (.iload_n 3) 1 106 := ⟨by decide +kernel, rfl⟩
theorem e_X0_lineUp_106 : g_dc cX0_lineUp 106 (.iload_n 2) 1 107 := ⟨by decide +kernel, rfl⟩
theorem e_X0_lineUp_107 : g_dc cX0_lineUp 107 (.iastore) 1 108 := ⟨by decide +kernel, rfl⟩
theorem e_X0_lineUp_108 : g_dc cX0_lineUp 108 (.aload_n 0) 1 109 := ⟨by decide +kernel, rfl⟩
theorem e_X0_lineUp_109 : g_dc cX0_lineUp 109 (.dup) 1 110 := ⟨by decide +kernel, rfl⟩
theorem e_X0_lineUp_110 : g_dc cX0_lineUp 110 (.getfield 56) 3 113 := ⟨by decide +kernel, rfl⟩
theorem e_X0_lineUp_113 : g_dc cX0_lineUp 113 (.iconst 1) 1 114 := ⟨by decide +kernel, rfl⟩
theorem e_X0_lineUp_114 : g_dc cX0_lineUp 114 (.iadd) 1 115 := ⟨by decide +kernel, rfl⟩
theorem e_X0_lineUp_115 : g_dc cX0_lineUp 115 (.putfield 56) 3 118 := ⟨by decide +kernel, rfl⟩
theorem e_X0_lineUp_118 : g_dc cX0_lineUp 118 (.iinc 2 1) 3 121 := ⟨by decide +kernel, rfl⟩
theorem e_X0_lineUp_121 : g_dc cX0_lineUp 121 (.goto (-106)) 3 124 := ⟨by decide +kernel, rfl⟩
theorem e_X0_lineUp_124 : g_dc cX0_lineUp 124 (.return_) 1 125 := ⟨by decide +kernel, rfl⟩
def md_X0_lineUp : List Nat := [602]
def mr_X0_lineUp : List Nat := [40]
set_option maxHeartbeats 4000000 in
set_option maxRecDepth 100000 in
theorem w_X0_lineUp (l : Launch) (X : gX) (ad : Nat → Nat) (F : Nat → Int32) (R : Nat → Nat → Int32) (hI : g_ok LK_wX F) (hA : g_okR LA_wX R) : g_Cv l X yX0_lineUp cX0_lineUp 4 3 0 0 [.ref (ad 37)] (wX X ad F R) (fun w => ∃ (F' : Nat → Int32) (R' : Nat → Nat → Int32), w = wX X ad F' R' ∧ g_ok LK_wX F' ∧ g_okR LA_wX R' ∧ g_fr md_X0_lineUp F F' ∧ g_fr mr_X0_lineUp R R' ∧ (F', R') = sp_X0_lineUp F R) := by
  refine g_mv (by decide +kernel) (Nat.le_of_ble_eq_true rfl) (fun E cx hret => ?_)
  obtain ⟨SP, hSP⟩ : ∃ z, z = sp_X0_lineUp F R := ⟨_, rfl⟩
  have hk0 := hSP
  unfold sp_X0_lineUp at hk0
  refine g_aload_n cx 0 rfl e_X0_lineUp_0 ?_
  refine g_iconst cx 0 (by decide) e_X0_lineUp_1 ?_
  refine g_put cx cl_X0 fl_X0_56 37 (wX X ad (upd F 602 0) R) e_X0_lineUp_2 rfl rfl rfl rfl (Nat.le_of_ble_eq_true rfl) rfl ?_
  obtain ⟨F1, hF1⟩ : ∃ z, z = upd F 602 0 := ⟨_, rfl⟩
  rw [← hF1]
  have hk2 := k_ls hk0 hF1
  have oF1 : g_ok LK_wX F1 := by rw [hF1]; exact g_ok_u hI rfl
  have fF1 : g_fr md_X0_lineUp F F1 := by rw [hF1]; exact g_fr_u (g_fr_rf F) rfl
  refine g_aload_n cx 0 rfl e_X0_lineUp_5 ?_
  refine g_get cx cl_X0 fl_X0_35 37 (.ref (ad 43)) e_X0_lineUp_6 rfl rfl ?_
  refine g_cViW cx [] [] (w_X4_standingSet l X ad F1 R oF1 hA) ml_X0_101 yV_X4_standingSet e_X0_lineUp_9 (by unfold g_rr; decide) (by decide) 43 rfl rfl rfl (Nat.le_of_ble_eq_true rfl) (fun r3 w4 h5 => ?_)
  obtain ⟨rfl, pr3, hx6⟩ := h5
  have hk7 := k_ls hk2 hx6
  refine g_istore_n cx [(1, .int r3), (0, .ref (ad 37))] e_X0_lineUp_12 (by decide) rfl ?_
  refine g_iconst cx 0 (by decide) e_X0_lineUp_13 ?_
  refine g_istore_n cx [(2, .int 0), (1, .int r3), (0, .ref (ad 37))] e_X0_lineUp_14 (by decide) rfl ?_
  have J15 : ∀ (N : Nat) (F9 : Nat → Int32) (R10 : Nat → Nat → Int32) (y8 : Int32), (g_ok LK_wX F9) → (g_fr md_X0_lineUp F F9) → (g_okR LA_wX R10) → (g_fr mr_X0_lineUp R R10) → (jv 0 10 y8) → (SP = K_X0_lineUp_15 r3 N F9 R10 y8) → (2147483647 - y8.toInt).toNat < N → G X E 4 0 0 (wX X ad F9 R10) [(0, .ref (ad 37)), (1, .int r3), (2, .int y8)] 15 [] := by
    intro N
    induction N with
    | zero => intro F9 R10 y8 oF9 fF9 oR10 fR10 py8 hkJ15 hm; exact absurd hm (Nat.not_lt_zero _)
    | succ N ih15 =>
      intro F9 R10 y8 oF9 fF9 oR10 fR10 py8 hkJ15 hm15
      have hkK15 : SP = KB_X0_lineUp_15 (K_X0_lineUp_15 r3 N) r3 F9 R10 y8 := hkJ15
      obtain ⟨b15, hb15⟩ : ∃ z, z = K_X0_lineUp_15 r3 N := ⟨_, rfl⟩
      rw [← hb15] at hkK15
      unfold KB_X0_lineUp_15 at hkK15
      refine g_iload_n cx 2 rfl e_X0_lineUp_15 ?_
      refine g_bipush cx 10 (by decide) e_X0_lineUp_16 ?_
      refine g_icmp_ge cx 124 e_X0_lineUp_18 (by decide) (fun zc11 => ?_) (fun zc11 => ?_)
      · have p12 := gn_ge 10 10 (gc_le zc11) py8 (jv_k (x := 10) 10 (by decide)) (by decide)
        have hk13 := hkK15.trans (if_pos zc11)
        exact hret e_X0_lineUp_124 (Nat.le_of_ble_eq_true rfl) (Nat.le_of_ble_eq_true rfl) ⟨F9, R10, rfl, oF9, oR10, fF9, fR10, (hk13.symm.trans hSP)⟩
      · have p14 := gn_lt 0 9 (gc_nle zc11) py8 (jv_k (x := 10) 10 (by decide)) (by decide)
        have hk15 := hkK15.trans (if_neg zc11)
        refine g_iload_n cx 1 rfl e_X0_lineUp_21 ?_
        refine g_iconst cx 1 (by decide) e_X0_lineUp_22 ?_
        refine g_iload_n cx 2 rfl e_X0_lineUp_23 ?_
        refine g_ishl cx e_X0_lineUp_24 ?_
        refine g_topi (fun x16 ex16 => ?_)
        have hk17 := k_ls hk15 ex16
        refine g_iand cx e_X0_lineUp_25 ?_
        refine g_topi (fun x18 ex18 => ?_)
        have hk19 := k_ls hk17 ex18
        have J118 : ∀ (F20 : Nat → Int32) (R21 : Nat → Nat → Int32), (g_ok LK_wX F20) → (g_fr md_X0_lineUp F F20) → (g_okR LA_wX R21) → (g_fr mr_X0_lineUp R R21) → (SP = K_X0_lineUp_118 b15 y8 F20 R21) → G X E 4 0 0 (wX X ad F20 R21) [(0, .ref (ad 37)), (1, .int r3), (2, .int y8)] 118 [] := by
          intro F20 R21 oF20 fF20 oR21 fR21 hkJ118
          unfold K_X0_lineUp_118 at hkJ118
          obtain ⟨x22, ex22⟩ : ∃ z : Int32, z = y8 + Int32.ofInt 1 := ⟨_, rfl⟩
          have hk23 := k_ls hkJ118 (show x22 = y8 + 1 from ex22)
          refine g_iinc cx x22 [(2, .int x22), (0, .ref (ad 37)), (1, .int r3)] 2 e_X0_lineUp_118 rfl ex22.symm (by decide) rfl ?_
          have zx22 := jv_add 1 10 (show x22 = y8 + 1 from ex22) p14 (jv_k (x := 1) 1 (by decide)) (by decide)
          refine g_goto cx 15 e_X0_lineUp_121 (by decide) ?_
          refine g_lsub [1, 2, 0] [(0, .ref (ad 37)), (1, .int r3), (2, .int x22)] rfl ?_
          exact ih15 F20 R21 x22 oF20 fF20 oR21 fR21 (jv_w zx22.2 (by decide)) (hk23.trans (by rw [hb15])) (Nat.lt_of_lt_of_le (show (2147483647 - x22.toInt).toNat < (2147483647 - y8.toInt).toNat from by have q0 := (jv_k (x := 1) 1 (by decide)).1; have q1 := (jv_k (x := 1) 1 (by decide)).2; have q2 := (jv_k (x := 10) 10 (by decide)).1; have q3 := (jv_k (x := 10) 10 (by decide)).2; have q4 := zx22.2.1; have q5 := zx22.2.2; have q6 := p14.1; have q7 := p14.2; have q8 := (gc_nle zc11); have q9 := (g_eq0 zx22.1); omega) (Nat.le_of_lt_succ hm15))
        refine g_if_eq cx 118 e_X0_lineUp_26 (by decide) (fun zc24 => ?_) (fun zc24 => ?_)
        · have p25 := gn_eq 0 0 (gc_eq zc24) (jv_t x18) (jv_k (x := 0) 0 (by decide)) (by decide)
          have hk26 := hk19.trans (if_pos zc24)
          exact J118 F9 R10 oF9 fF9 oR10 fR10 hk26
        · have hk27 := hk19.trans (if_neg zc24)
          refine g_aload_n cx 0 rfl e_X0_lineUp_29 ?_
          refine g_get cx cl_X0 fl_X0_56 37 (.int (F9 602)) e_X0_lineUp_30 rfl rfl ?_
          refine g_istore_n cx [(3, .int (F9 602)), (0, .ref (ad 37)), (1, .int r3), (2, .int y8)] e_X0_lineUp_33 (by decide) rfl ?_
          have J34 : ∀ (N : Nat) (R29 : Nat → Nat → Int32) (y28 : Int32), (g_okR LA_wX R29) → (g_fr mr_X0_lineUp R R29) → (jv (-2147483648) 2147483647 y28) → (SP = K_X0_lineUp_34 b15 F9 y8 N R29 y28) → (y28.toInt + 2147483648).toNat < N → G X E 4 0 0 (wX X ad F9 R29) [(0, .ref (ad 37)), (1, .int r3), (2, .int y8), (3, .int y28)] 34 [] := by
            intro N
            induction N with
            | zero => intro R29 y28 oR29 fR29 py28 hkJ34 hm; exact absurd hm (Nat.not_lt_zero _)
            | succ N ih34 =>
              intro R29 y28 oR29 fR29 py28 hkJ34 hm34
              have hkK34 : SP = KB_X0_lineUp_34 (K_X0_lineUp_34 b15 F9 y8 N) b15 F9 y8 R29 y28 := hkJ34
              obtain ⟨b34, hb34⟩ : ∃ z, z = K_X0_lineUp_34 b15 F9 y8 N := ⟨_, rfl⟩
              rw [← hb34] at hkK34
              unfold KB_X0_lineUp_34 at hkK34
              refine g_iload_n cx 3 rfl e_X0_lineUp_34 ?_
              have J91 : (SP = K_X0_lineUp_91 b15 F9 R29 y8 y28) → G X E 4 0 0 (wX X ad F9 R29) [(0, .ref (ad 37)), (1, .int r3), (2, .int y8), (3, .int y28)] 91 [] := by
                intro   hkJ91
                unfold K_X0_lineUp_91 at hkJ91
                refine g_iload_n cx 3 rfl e_X0_lineUp_91 ?_
                refine g_if_lt cx 118 e_X0_lineUp_92 (by decide) (fun zc30 => ?_) (fun zc30 => ?_)
                · have p31 := gn_lt (-2147483648) (-1) (gc_lt zc30) py28 (jv_k (x := 0) 0 (by decide)) (by decide)
                  have hk32 := hkJ91.trans (if_pos zc30)
                  refine g_lsub [0, 1, 2] [(0, .ref (ad 37)), (1, .int r3), (2, .int y8)] rfl ?_
                  exact J118 F9 R29 oF9 fF9 oR29 fR29 hk32
                · have p33 := gn_ge 0 2147483647 (gc_nlt zc30) py28 (jv_k (x := 0) 0 (by decide)) (by decide)
                  have hk34 := hkJ91.trans (if_neg zc30)
                  refine g_iload_n cx 3 rfl e_X0_lineUp_95 ?_
                  refine g_bipush cx 10 (by decide) e_X0_lineUp_96 ?_
                  refine g_icmp_ge cx 118 e_X0_lineUp_98 (by decide) (fun zc35 => ?_) (fun zc35 => ?_)
                  · have p36 := gn_ge 10 2147483647 (gc_le zc35) p33 (jv_k (x := 10) 10 (by decide)) (by decide)
                    have hk37 := hk34.trans (if_pos zc35)
                    refine g_lsub [0, 1, 2] [(0, .ref (ad 37)), (1, .int r3), (2, .int y8)] rfl ?_
                    exact J118 F9 R29 oF9 fF9 oR29 fR29 hk37
                  · have p38 := gn_lt 0 9 (gc_nle zc35) p33 (jv_k (x := 10) 10 (by decide)) (by decide)
                    have hk39 := hk34.trans (if_neg zc35)
                    refine g_aload_n cx 0 rfl e_X0_lineUp_101 ?_
                    refine g_get cx cl_X0 fl_X0_46 37 (.ref (ad 40)) e_X0_lineUp_102 rfl rfl ?_
                    refine g_iload_n cx 3 rfl e_X0_lineUp_105 ?_
                    refine g_iload_n cx 2 rfl e_X0_lineUp_106 ?_
                    refine g_iast cx 40 (wX X ad F9 (g_u R29 40 (upd (R29 40) (Int32.toNatClampNeg y28) y8))) e_X0_lineUp_107 rfl (jv_ix 10 p38 (by decide)) rfl ?_
                    obtain ⟨R40, hR40⟩ : ∃ z, z = g_u R29 40 (upd (R29 40) (Int32.toNatClampNeg y28) y8) := ⟨_, rfl⟩
                    rw [← hR40]
                    have hk41 := k_ls hk39 hR40
                    have oR40 : g_okR LA_wX R40 := by rw [hR40]; exact g_okR_u oR29 rfl
                    have fR40 : g_fr mr_X0_lineUp R R40 := by rw [hR40]; exact g_fr_r fR29 rfl
                    refine g_aload_n cx 0 rfl e_X0_lineUp_108 ?_
                    refine g_dup cx rfl e_X0_lineUp_109 ?_
                    refine g_get cx cl_X0 fl_X0_56 37 (.int (F9 602)) e_X0_lineUp_110 rfl rfl ?_
                    refine g_iconst cx 1 (by decide) e_X0_lineUp_113 ?_
                    refine g_iadd cx e_X0_lineUp_114 ?_
                    refine g_topi (fun x42 ex42 => ?_)
                    have hk43 := k_ls hk41 ex42
                    refine g_put cx cl_X0 fl_X0_56 37 (wX X ad (upd F9 602 x42) R40) e_X0_lineUp_115 rfl rfl rfl rfl (Nat.le_of_ble_eq_true rfl) rfl ?_
                    obtain ⟨F44, hF44⟩ : ∃ z, z = upd F9 602 x42 := ⟨_, rfl⟩
                    rw [← hF44]
                    have hk45 := k_ls hk43 hF44
                    have oF44 : g_ok LK_wX F44 := by rw [hF44]; exact g_ok_u oF9 rfl
                    have fF44 : g_fr md_X0_lineUp F F44 := by rw [hF44]; exact g_fr_u fF9 rfl
                    refine g_lsub [0, 1, 2] [(0, .ref (ad 37)), (1, .int r3), (2, .int y8)] rfl ?_
                    exact J118 F44 R40 oF44 fF44 oR40 fR40 hk45
              refine g_if_le cx 91 e_X0_lineUp_35 (by decide) (fun zc46 => ?_) (fun zc46 => ?_)
              · have p47 := gn_le (-2147483648) 0 (gc_le zc46) py28 (jv_k (x := 0) 0 (by decide)) (by decide)
                have hk48 := hkK34.trans (if_pos zc46)
                exact J91  hk48
              · have p49 := gn_gt 1 2147483647 (gc_nle zc46) py28 (jv_k (x := 0) 0 (by decide)) (by decide)
                have hk50 := hkK34.trans (if_neg zc46)
                refine g_iload_n cx 3 rfl e_X0_lineUp_38 ?_
                refine g_bipush cx 10 (by decide) e_X0_lineUp_39 ?_
                refine g_icmp_ge cx 91 e_X0_lineUp_41 (by decide) (fun zc51 => ?_) (fun zc51 => ?_)
                · have p52 := gn_ge 10 2147483647 (gc_le zc51) p49 (jv_k (x := 10) 10 (by decide)) (by decide)
                  have hk53 := hk50.trans (if_pos zc51)
                  exact J91  hk53
                · have p54 := gn_lt 1 9 (gc_nle zc51) p49 (jv_k (x := 10) 10 (by decide)) (by decide)
                  have hk55 := hk50.trans (if_neg zc51)
                  refine g_aload_n cx 0 rfl e_X0_lineUp_44 ?_
                  refine g_get cx cl_X0 fl_X0_35 37 (.ref (ad 43)) e_X0_lineUp_45 rfl rfl ?_
                  refine g_aload_n cx 0 rfl e_X0_lineUp_48 ?_
                  refine g_get cx cl_X0 fl_X0_46 37 (.ref (ad 40)) e_X0_lineUp_49 rfl rfl ?_
                  refine g_iload_n cx 3 rfl e_X0_lineUp_52 ?_
                  refine g_iconst cx 1 (by decide) e_X0_lineUp_53 ?_
                  refine g_isub cx e_X0_lineUp_54 ?_
                  refine g_topi (fun x56 ex56 => ?_)
                  have hk57 := k_ls hk55 ex56
                  have zx56 := jv_sub 0 8 ex56 p54 (jv_k (x := 1) 1 (by decide)) (by decide)
                  refine g_iald cx 40 e_X0_lineUp_55 rfl (jv_ix 10 zx56.2 (by decide)) ?_
                  refine g_topi (fun x58 ex58 => ?_)
                  have hk59 := k_ls hk57 ex58
                  refine g_cViW cx [.int x58] [] (w_X4_placeOf l X ad F9 R29 oF9 oR29 x58) ml_X0_189 yV_X4_placeOf e_X0_lineUp_56 (by unfold g_rr; decide) (by decide) 43 rfl rfl rfl (Nat.le_of_ble_eq_true rfl) (fun r60 w61 h62 => ?_)
                  obtain ⟨rfl, pr60, hx63⟩ := h62
                  have hk64 := k_ls hk59 hx63
                  refine g_aload_n cx 0 rfl e_X0_lineUp_59 ?_
                  refine g_get cx cl_X0 fl_X0_35 37 (.ref (ad 43)) e_X0_lineUp_60 rfl rfl ?_
                  refine g_getN cx cl_X4 fn_X0_159 43 (.ref (ad 44)) e_X0_lineUp_63 rfl rfl ?_
                  refine g_iload_n cx 2 rfl e_X0_lineUp_66 ?_
                  refine g_iald cx 44 e_X0_lineUp_67 rfl (jv_ix 10 p14 (by decide)) ?_
                  refine g_topi (fun x65 ex65 => ?_)
                  have hk66 := k_ls hk64 ex65
                  refine g_icmp_le cx 91 e_X0_lineUp_68 (by decide) (fun zc67 => ?_) (fun zc67 => ?_)
                  · have hk68 := hk66.trans (if_pos zc67)
                    exact J91  hk68
                  · have p69 := gn_lt (-2147483648) 2147483646 (gc_nle zc67) (jv_t x65) pr60 (by decide)
                    have p70 := gn_gt (-2147483647) 2147483647 (gc_nle zc67) pr60 (jv_t x65) (by decide)
                    have hk71 := hk66.trans (if_neg zc67)
                    refine g_aload_n cx 0 rfl e_X0_lineUp_71 ?_
                    refine g_get cx cl_X0 fl_X0_46 37 (.ref (ad 40)) e_X0_lineUp_72 rfl rfl ?_
                    refine g_iload_n cx 3 rfl e_X0_lineUp_75 ?_
                    refine g_aload_n cx 0 rfl e_X0_lineUp_76 ?_
                    refine g_get cx cl_X0 fl_X0_46 37 (.ref (ad 40)) e_X0_lineUp_77 rfl rfl ?_
                    refine g_iload_n cx 3 rfl e_X0_lineUp_80 ?_
                    refine g_iconst cx 1 (by decide) e_X0_lineUp_81 ?_
                    refine g_isub cx e_X0_lineUp_82 ?_
                    refine g_topi (fun x72 ex72 => ?_)
                    have hk73 := k_ls hk71 ex72
                    have zx72 := jv_sub 0 8 ex72 p54 (jv_k (x := 1) 1 (by decide)) (by decide)
                    refine g_iald cx 40 e_X0_lineUp_83 rfl (jv_ix 10 zx72.2 (by decide)) ?_
                    refine g_topi (fun x74 ex74 => ?_)
                    have hk75 := k_ls hk73 ex74
                    refine g_iast cx 40 (wX X ad F9 (g_u R29 40 (upd (R29 40) (Int32.toNatClampNeg y28) x74))) e_X0_lineUp_84 rfl (jv_ix 10 p54 (by decide)) rfl ?_
                    obtain ⟨R76, hR76⟩ : ∃ z, z = g_u R29 40 (upd (R29 40) (Int32.toNatClampNeg y28) x74) := ⟨_, rfl⟩
                    rw [← hR76]
                    have hk77 := k_ls hk75 hR76
                    have oR76 : g_okR LA_wX R76 := by rw [hR76]; exact g_okR_u oR29 rfl
                    have fR76 : g_fr mr_X0_lineUp R R76 := by rw [hR76]; exact g_fr_r fR29 rfl
                    obtain ⟨x78, ex78⟩ : ∃ z : Int32, z = y28 + Int32.ofInt (-1) := ⟨_, rfl⟩
                    have hk79 := k_ls hk77 (show x78 = y28 + (-1) from ex78)
                    refine g_iinc cx x78 [(3, .int x78), (0, .ref (ad 37)), (1, .int r3), (2, .int y8)] 3 e_X0_lineUp_85 rfl ex78.symm (by decide) rfl ?_
                    have zx78 := jv_add 0 8 (show x78 = y28 + (-1) from ex78) p54 (jv_k (x := (-1)) (-1) (by decide)) (by decide)
                    refine g_goto cx 34 e_X0_lineUp_88 (by decide) ?_
                    refine g_lsub [1, 2, 3, 0] [(0, .ref (ad 37)), (1, .int r3), (2, .int y8), (3, .int x78)] rfl ?_
                    exact ih34 R76 x78 oR76 fR76 (jv_w zx78.2 (by decide)) (hk79.trans (by rw [hb34])) (Nat.lt_of_lt_of_le (show (x78.toInt + 2147483648).toNat < (y28.toInt + 2147483648).toNat from by have q0 := (jv_k (x := (-1)) (-1) (by decide)).1; have q1 := (jv_k (x := (-1)) (-1) (by decide)).2; have q2 := (jv_k (x := 0) 0 (by decide)).1; have q3 := (jv_k (x := 0) 0 (by decide)).2; have q4 := (jv_k (x := 1) 1 (by decide)).1; have q5 := (jv_k (x := 1) 1 (by decide)).2; have q6 := (jv_k (x := 10) 10 (by decide)).1; have q7 := (jv_k (x := 10) 10 (by decide)).2; have q8 := (jv_t x18).1; have q9 := (jv_t x18).2; have q10 := zx56.2.1; have q11 := zx56.2.2; have q12 := zx72.2.1; have q13 := zx72.2.2; have q14 := zx78.2.1; have q15 := zx78.2.2; have q16 := p54.1; have q17 := p54.2; have q18 := p14.1; have q19 := p14.2; have q20 := (gc_nle zc11); have q21 := (gc_ne zc24); have q22 := (gc_nle zc46); have q23 := (gc_nle zc51); have q24 := (g_eq0 zx56.1); have q25 := (g_eq0 zx72.1); have q26 := (g_eq0 zx78.1); omega) (Nat.le_of_lt_succ hm34))
          refine g_lsub [1, 2, 3, 0] [(0, .ref (ad 37)), (1, .int r3), (2, .int y8), (3, .int (F9 602))] rfl ?_
          exact J34 8589934592 R10 (F9 602) oR10 fR10 (jv_t (F9 602)) hk27 (show ((F9 602).toInt + 2147483648).toNat < 8589934592 from by have q0 := (jv_t (F9 602)).1; have q1 := (jv_t (F9 602)).2; omega)
  refine g_lsub [2, 1, 0] [(0, .ref (ad 37)), (1, .int r3), (2, .int 0)] rfl ?_
  exact J15 8589934592 F1 R 0 oF1 fF1 hA (g_fr_rf R) (jv_w (jv_k (x := 0) 0 (by decide)) (by decide)) hk7 (show (2147483647 - (0 : Int32).toInt).toNat < 8589934592 from by have q0 := (jv_k (x := 0) 0 (by decide)).1; have q1 := (jv_k (x := 0) 0 (by decide)).2; omega)
def K_X0_touch_20 (F : Nat → Int32) (R : Nat → Nat → Int32)  : (Nat → Int32) × (Nat → Nat → Int32) :=
  (F, R)
def K_X0_touch_81 (F : Nat → Int32) (R : Nat → Nat → Int32)  : (Nat → Int32) × (Nat → Nat → Int32) :=
  (F, R)
def K_X0_touch_151 (F : Nat → Int32) (R : Nat → Nat → Int32) (a0 : Int32) (a1 : Int32) (x31 : Int32) (y74 : Int32) : (Nat → Int32) × (Nat → Nat → Int32) :=
  k_lt (g_u R 38 (upd (R 38) (Int32.toNatClampNeg a0) y74)) (fun R75 => k_lt (R75 38 (Int32.toNatClampNeg a0)) (fun x77 => k_lt (g_u R75 38 (upd (R75 38) (Int32.toNatClampNeg a1) x77)) (fun R79 => k_lt (R79 44 (Int32.toNatClampNeg a0)) (fun x81 => k_lt (x81 + x31) (fun x83 => k_lt (R79 39 (Int32.toNatClampNeg a1)) (fun x85 => k_lt (if x85 < x83 then x85 else x83) (fun x87 => k_lt (g_u R79 44 (upd (R79 44) (Int32.toNatClampNeg a1) x87)) (fun R89 => k_lt (1 <<< (a0 &&& 31)) (fun x91 => k_lt (1 <<< (a1 &&& 31)) (fun x93 => k_lt (x91 ||| x93) (fun x95 => k_lt ((F 606) ||| x95) (fun x97 => k_lt (upd F 606 x97) (fun F99 => (F99, R89))))))))))))))
def sp_X0_touch (F : Nat → Int32) (R : Nat → Nat → Int32) (a0 : Int32) (a1 : Int32) : (Nat → Int32) × (Nat → Nat → Int32) :=
  k_lt (g_in a0 0 9) (fun r1 => if r1 = 0 then K_X0_touch_20 F R else k_lt (g_in a1 0 9) (fun r11 => if r11 = 0 then K_X0_touch_20 F R else k_lt (sp_X8_side_5 F R a0 2) (fun r19 => k_lt (sp_X8_side_5 F R a1 2) (fun r24 => k_lt (r19 + r24) (fun x29 => k_lt (x29 / 2) (fun x31 => k_lt (R 44 (Int32.toNatClampNeg a1)) (fun x33 => k_lt (R 44 (Int32.toNatClampNeg a0)) (fun x35 => k_lt (x33 - x35) (fun x37 => if x31 ≤ x37 then K_X0_touch_81 F R else k_lt (R 38 (Int32.toNatClampNeg a1)) (fun x44 => k_lt (R 38 (Int32.toNatClampNeg a0)) (fun x46 => if x46 < x44 then k_lt (sp_X8_side_5 F R a0 4) (fun r52 => k_lt (sp_X8_side_5 F R a1 4) (fun r57 => k_lt (r52 + r57) (fun x62 => k_lt (R 38 (Int32.toNatClampNeg a0)) (fun x64 => k_lt (x64 * r52) (fun x66 => k_lt (R 38 (Int32.toNatClampNeg a1)) (fun x68 => k_lt (x68 * r57) (fun x70 => k_lt (x66 + x70) (fun x72 => if x62 ≤ 0 then K_X0_touch_151 F R a0 a1 x31 0 else k_lt (x72 / x62) (fun x106 => K_X0_touch_151 F R a0 a1 x31 x106))))))))) else K_X0_touch_81 F R)))))))))))
theorem e_X0_touch_0 : g_dc cX0_touch 0 (.iload_n 1) 1 1 := ⟨by decide +kernel, rfl⟩
theorem e_X0_touch_1 : g_dc cX0_touch 1 (.iconst 0) 1 2 := ⟨by decide +kernel, rfl⟩
theorem e_X0_touch_2 : g_dc cX0_touch 2 (.bipush 9) 2 4 := ⟨by decide +kernel, rfl⟩
theorem e_X0_touch_4 : g_dc cX0_touch 4 (.invokestatic 192) 3 7 := ⟨by decide +kernel, rfl⟩
theorem e_X0_touch_7 : g_dc cX0_touch 7 (.ifCond .eq 13) 3 10 := ⟨by decide +kernel, rfl⟩
theorem e_X0_touch_10 : g_dc cX0_touch 10 (.iload_n 2) 1 11 := ⟨by decide +kernel, rfl⟩
theorem e_X0_touch_11 : g_dc cX0_touch 11 (.iconst 0) 1 12 := ⟨by decide +kernel, rfl⟩
theorem e_X0_touch_12 : g_dc cX0_touch 12 (.bipush 9) 2 14 := ⟨by decide +kernel, rfl⟩
theorem e_X0_touch_14 : g_dc cX0_touch 14 (.invokestatic 192) 3 17 := ⟨by decide +kernel, rfl⟩
theorem e_X0_touch_17 : g_dc cX0_touch 17 (.ifCond .ne 4) 3 20 := ⟨by decide +kernel, rfl⟩
theorem e_X0_touch_20 : g_dc cX0_touch 20 (.return_) 1 21 := ⟨by decide +kernel, rfl⟩
theorem e_X0_touch_21 : g_dc cX0_touch 21 (.aload_n 0) 1 22 := ⟨by decide +kernel, rfl⟩
theorem e_X0_touch_22 : g_dc cX0_touch 22 (.getfield 12) 3 25 := ⟨by decide +kernel, rfl⟩
theorem e_X0_touch_25 : g_dc cX0_touch 25 (.iload_n 1) 1 26 := ⟨by decide +kernel, rfl⟩
theorem e_X0_touch_26 : g_dc cX0_touch 26 (.iconst 2) 1 27 := ⟨by decide +kernel, rfl⟩
theorem e_X0_touch_27 : g_dc cX0_touch 27 (.invokevirtual 171) 3 30 := ⟨by decide +kernel, rfl⟩
theorem e_X0_touch_30 : g_dc cX0_touch 30 (.aload_n 0) 1 31 := ⟨by decide +kernel, rfl⟩
theorem e_X0_touch_31 : g_dc cX0_touch 31 (.getfield 12) 3 34 := ⟨by decide +kernel, rfl⟩
theorem e_X0_touch_34 : g_dc cX0_touch 34 (.iload_n 2) 1 35 := ⟨by decide +kernel, rfl⟩
theorem e_X0_touch_35 : g_dc cX0_touch 35 (.iconst 2) 1 36 := ⟨by decide +kernel, rfl⟩
theorem e_X0_touch_36 : g_dc cX0_touch 36 (.invokevirtual 171) 3 39 := ⟨by decide +kernel, rfl⟩
theorem e_X0_touch_39 : g_dc cX0_touch 39 (.iadd) 1 40 := ⟨by decide +kernel, rfl⟩
theorem e_X0_touch_40 : g_dc cX0_touch 40 (.iconst 2) 1 41 := ⟨by decide +kernel, rfl⟩
theorem e_X0_touch_41 : g_dc cX0_touch 41 (.idiv) 1 42 := ⟨by decide +kernel, rfl⟩
theorem e_X0_touch_42 : g_dc cX0_touch 42 (.istore_n 3) 1 43 := ⟨by decide +kernel, rfl⟩
theorem e_X0_touch_43 : g_dc cX0_touch 43 (.aload_n 0) 1 44 := ⟨by decide +kernel, rfl⟩
theorem e_X0_touch_44 : g_dc cX0_touch 44 (.getfield 35) 3 47 := ⟨by decide +kernel, rfl⟩
theorem e_X0_touch_47 : g_dc cX0_touch 47 (.getfield 159) 3 50 := ⟨by decide +kernel, rfl⟩
theorem e_X0_touch_50 : g_dc cX0_touch 50 (.iload_n 2) 1 51 := ⟨by decide +kernel, rfl⟩
theorem e_X0_touch_51 : g_dc cX0_touch 51 (.iaload) 1 52 := ⟨by decide +kernel, rfl⟩
theorem e_X0_touch_52 : g_dc cX0_touch 52 (.aload_n 0) 1 53 := ⟨by decide +kernel, rfl⟩
theorem e_X0_touch_53 : g_dc cX0_touch 53 (.getfield 35) 3 56 := ⟨by decide +kernel, rfl⟩
theorem e_X0_touch_56 : g_dc cX0_touch 56 (.getfield 159) 3 59 := ⟨by decide +kernel, rfl⟩
theorem e_X0_touch_59 : g_dc cX0_touch 59 (.iload_n 1) 1 60 := ⟨by decide +kernel, rfl⟩
theorem e_X0_touch_60 : g_dc cX0_touch 60 (.iaload) 1 61 := ⟨by decide +kernel, rfl⟩
theorem e_X0_touch_61 : g_dc cX0_touch 61 (.isub) 1 62 := ⟨by decide +kernel, rfl⟩
theorem e_X0_touch_62 : g_dc cX0_touch 62 (.iload_n 3) 1 63 := ⟨by decide +kernel, rfl⟩
theorem e_X0_touch_63 : g_dc cX0_touch 63 (.if_icmp .ge 18) 3 66 := ⟨by decide +kernel, rfl⟩
theorem e_X0_touch_66 : g_dc cX0_touch 66 (.aload_n 0) 1 67 := ⟨by decide +kernel, rfl⟩
theorem e_X0_touch_67 : g_dc cX0_touch 67 (.getfield 39) 3 70 := ⟨by decide +kernel, rfl⟩
theorem e_X0_touch_70 : g_dc cX0_touch 70 (.iload_n 2) 1 71 := ⟨by decide +kernel, rfl⟩
theorem e_X0_touch_71 : g_dc cX0_touch 71 (.iaload) 1 72 := ⟨by decide +kernel, rfl⟩
theorem e_X0_touch_72 : g_dc cX0_touch 72 (.aload_n 0) 1 73 := ⟨by decide +kernel, rfl⟩
theorem e_X0_touch_73 : g_dc cX0_touch 73 (.getfield 39) 3 76 := ⟨by decide +kernel, rfl⟩
theorem e_X0_touch_76 : g_dc cX0_touch 76 (.iload_n 1) 1 77 := ⟨by decide +kernel, rfl⟩
theorem e_X0_touch_77 : g_dc cX0_touch 77 (.iaload) 1 78 := ⟨by decide +kernel, rfl⟩
theorem e_X0_touch_78 : g_dc cX0_touch 78 (.if_icmp .gt 4) 3 81 := ⟨by decide +kernel, rfl⟩
theorem e_X0_touch_81 : g_dc cX0_touch 81 (.return_) 1 82 := ⟨by decide +kernel, rfl⟩
theorem e_X0_touch_82 : g_dc cX0_touch 82 (.aload_n 0) 1 83 := ⟨by decide +kernel, rfl⟩
theorem e_X0_touch_83 : g_dc cX0_touch 83 (.getfield 12) 3 86 := ⟨by decide +kernel, rfl⟩
theorem e_X0_touch_86 : g_dc cX0_touch 86 (.iload_n 1) 1 87 := ⟨by decide +kernel, rfl⟩
theorem e_X0_touch_87 : g_dc cX0_touch 87 (.iconst 4) 1 88 := ⟨by decide +kernel, rfl⟩
theorem e_X0_touch_88 : g_dc cX0_touch 88 (.invokevirtual 171) 3 91 := ⟨by decide +kernel, rfl⟩
theorem e_X0_touch_91 : g_dc cX0_touch 91 (.istore 4) 2 93 := ⟨by decide +kernel, rfl⟩
theorem e_X0_touch_93 : g_dc cX0_touch 93 (.aload_n 0) 1 94 := ⟨by decide +kernel, rfl⟩
theorem e_X0_touch_94 : g_dc cX0_touch 94 (.getfield 12) 3 97 := ⟨by decide +kernel, rfl⟩
theorem e_X0_touch_97 : g_dc cX0_touch 97 (.iload_n 2) 1 98 := ⟨by decide +kernel, rfl⟩
theorem e_X0_touch_98 : g_dc cX0_touch 98 (.iconst 4) 1 99 := ⟨by decide +kernel, rfl⟩
theorem e_X0_touch_99 : g_dc cX0_touch 99 (.invokevirtual 171) 3 102 := ⟨by decide +kernel, rfl⟩
theorem e_X0_touch_102 : g_dc cX0_touch 102 (.istore 5) 2 104 := ⟨by decide +kernel, rfl⟩
theorem e_X0_touch_104 : g_dc cX0_touch 104 (.iload 4) 2 106 := ⟨by decide +kernel, rfl⟩
theorem e_X0_touch_106 : g_dc cX0_touch 106 (.iload 5) 2 108 := ⟨by decide +kernel, rfl⟩
theorem e_X0_touch_108 : g_dc cX0_touch 108 (.iadd) 1 109 := ⟨by decide +kernel, rfl⟩
theorem e_X0_touch_109 : g_dc cX0_touch 109 (.istore 6) 2 111 := ⟨by decide +kernel, rfl⟩
theorem e_X0_touch_111 : g_dc cX0_touch 111 (.aload_n 0) 1 112 := ⟨by decide +kernel, rfl⟩
theorem e_X0_touch_112 : g_dc cX0_touch 112 (.getfield 39) 3 115 := ⟨by decide +kernel, rfl⟩
theorem e_X0_touch_115 : g_dc cX0_touch 115 (.iload_n 1) 1 116 := ⟨by decide +kernel, rfl⟩
theorem e_X0_touch_116 : g_dc cX0_touch 116 (.iaload) 1 117 := ⟨by decide +kernel, rfl⟩
theorem e_X0_touch_117 : g_dc cX0_touch 117 (.iload 4) 2 119 := ⟨by decide +kernel, rfl⟩
theorem e_X0_touch_119 : g_dc cX0_touch 119 (.imul) 1 120 := ⟨by decide +kernel, rfl⟩
theorem e_X0_touch_120 : g_dc cX0_touch 120 (.aload_n 0) 1 121 := ⟨by decide +kernel, rfl⟩
theorem e_X0_touch_121 : g_dc cX0_touch 121 (.getfield 39) 3 124 := ⟨by decide +kernel, rfl⟩
theorem e_X0_touch_124 : g_dc cX0_touch 124 (.iload_n 2) 1 125 := ⟨by decide +kernel, rfl⟩
theorem e_X0_touch_125 : g_dc cX0_touch 125 (.iaload) 1 126 := ⟨by decide +kernel, rfl⟩
theorem e_X0_touch_126 : g_dc cX0_touch 126 (.iload 5) 2 128 := ⟨by decide +kernel, rfl⟩
theorem e_X0_touch_128 : g_dc cX0_touch 128 (.imul) 1 129 := ⟨by decide +kernel, rfl⟩
theorem e_X0_touch_129 : g_dc cX0_touch 129 (.iadd) 1 130 := ⟨by decide +kernel, rfl⟩
theorem e_X0_touch_130 : g_dc cX0_touch 130 (.istore 7) 2 132 := ⟨by decide +kernel, rfl⟩
theorem e_X0_touch_132 : g_dc cX0_touch 132 (.aload_n 0) 1 133 := ⟨by decide +kernel, rfl⟩
theorem e_X0_touch_133 : g_dc cX0_touch 133 (.getfield 39) 3 136 := ⟨by decide +kernel, rfl⟩
theorem e_X0_touch_136 : g_dc cX0_touch 136 (.iload_n 1) 1 137 := ⟨by decide +kernel, rfl⟩
theorem e_X0_touch_137 : g_dc cX0_touch 137 (.iload 6) 2 139 := ⟨by decide +kernel, rfl⟩
theorem e_X0_touch_139 : g_dc cX0_touch 139 (.ifCond .le 11) 3 142 := ⟨by decide +kernel, rfl⟩
theorem e_X0_touch_142 : g_dc cX0_touch 142 (.iload 7) 2 144 := ⟨by decide +kernel, rfl⟩
theorem e_X0_touch_144 : g_dc cX0_touch 144 (.iload 6) 2 146 := ⟨by decide +kernel, rfl⟩
theorem e_X0_touch_146 : g_dc cX0_touch 146 (.idiv) 1 147 := ⟨by decide +kernel, rfl⟩
theorem e_X0_touch_147 : g_dc cX0_touch 147 (.goto 4) 3 150 := ⟨by decide +kernel, rfl⟩
theorem e_X0_touch_150 : g_dc cX0_touch 150 (.iconst 0) 1 151 := ⟨by decide +kernel, rfl⟩
theorem e_X0_touch_151 : g_dc cX0_touch 151 (.iastore) 1 152 := ⟨by decide +kernel, rfl⟩
theorem e_X0_touch_152 : g_dc cX0_touch 152 (.aload_n 0) 1 153 := ⟨by decide +kernel, rfl⟩
theorem e_X0_touch_153 : g_dc cX0_touch 153 (.getfield 39) 3 156 := ⟨by decide +kernel, rfl⟩
theorem e_X0_touch_156 : g_dc cX0_touch 156 (.iload_n 2) 1 157 := ⟨by decide +kernel, rfl⟩
theorem e_X0_touch_157 : g_dc cX0_touch 157 (.aload_n 0) 1 158 := ⟨by decide +kernel, rfl⟩
theorem e_X0_touch_158 : g_dc cX0_touch 158 (.getfield 39) 3 161 := ⟨by decide +kernel, rfl⟩
theorem e_X0_touch_161 : g_dc cX0_touch 161 (.iload_n 1) 1 162 := ⟨by decide +kernel, rfl⟩
theorem e_X0_touch_162 : g_dc cX0_touch 162 (.iaload) 1 163 := ⟨by decide +kernel, rfl⟩
theorem e_X0_touch_163 : g_dc cX0_touch 163 (.iastore) 1 164 := ⟨by decide +kernel, rfl⟩
theorem e_X0_touch_164 : g_dc cX0_touch 164 (.aload_n 0) 1 165 := ⟨by decide +kernel, rfl⟩
theorem e_X0_touch_165 : g_dc cX0_touch 165 (.getfield 35) 3 168 := ⟨by decide +kernel, rfl⟩
theorem e_X0_touch_168 : g_dc cX0_touch 168 (.getfield 159) 3 171 := ⟨by decide +kernel, rfl⟩
theorem e_X0_touch_171 : g_dc cX0_touch 171 (.iload_n 2) 1 172 := ⟨by decide +kernel, rfl⟩
theorem e_X0_touch_172 : g_dc cX0_touch 172 (.aload_n 0) 1 173 := ⟨by decide +kernel, rfl⟩
theorem e_X0_touch_173 : g_dc cX0_touch 173 (.getfield 35) 3 176 := ⟨by decide +kernel, rfl⟩
theorem e_X0_touch_176 : g_dc cX0_touch 176 (.getfield 159) 3 179 := ⟨by decide +kernel, rfl⟩
theorem e_X0_touch_179 : g_dc cX0_touch 179 (.iload_n 1) 1 180 := ⟨by decide +kernel, rfl⟩
theorem e_X0_touch_180 : g_dc cX0_touch 180 (.iaload) 1 181 := ⟨by decide +kernel, rfl⟩
theorem e_X0_touch_181 : g_dc cX0_touch 181 (.iload_n 3) 1 182 := ⟨by decide +kernel, rfl⟩
theorem e_X0_touch_182 : g_dc cX0_touch 182 (.iadd) 1 183 := ⟨by decide +kernel, rfl⟩
theorem e_X0_touch_183 : g_dc cX0_touch 183 (.aload_n 0) 1 184 := ⟨by decide +kernel, rfl⟩
theorem e_X0_touch_184 : g_dc cX0_touch 184 (.getfield 43) 3 187 := ⟨by decide +kernel, rfl⟩
theorem e_X0_touch_187 : g_dc cX0_touch 187 (.iload_n 2) 1 188 := ⟨by decide +kernel, rfl⟩
theorem e_X0_touch_188 : g_dc cX0_touch 188 (.iaload) 1 189 := ⟨by decide +kernel, rfl⟩
theorem e_X0_touch_189 : g_dc cX0_touch 189 (.invokestatic 168) 3 192 := ⟨by decide +kernel, rfl⟩
theorem e_X0_touch_192 : g_dc cX0_touch 192 (.iastore) 1 193 := ⟨by decide +kernel, rfl⟩
theorem e_X0_touch_193 : g_dc cX0_touch 193 (.aload_n 0) 1 194 := ⟨by decide +kernel, rfl⟩
theorem e_X0_touch_194 : g_dc cX0_touch 194 (.dup) 1 195 := ⟨by decide +kernel, rfl⟩
theorem e_X0_touch_195 : g_dc cX0_touch 195 (.getfield 68) 3 198 := ⟨by decide +kernel, rfl⟩
theorem e_X0_touch_198 : g_dc cX0_touch 198 (.iconst 1) 1 199 := ⟨by decide +kernel, rfl⟩
theorem e_X0_touch_199 : g_dc cX0_touch 199 (.iload_n 1) 1 200 := ⟨by decide +kernel, rfl⟩
theorem e_X0_touch_200 : g_dc cX0_touch 200 (.ishl) 1 201 := ⟨by decide +kernel, rfl⟩
theorem e_X0_touch_201 : g_dc cX0_touch 201 (.iconst 1) 1 202 := ⟨by decide +kernel, rfl⟩
theorem e_X0_touch_202 : g_dc cX0_touch 202 (.iload_n 2) 1 203 := ⟨by decide +kernel, rfl⟩
theorem e_X0_touch_203 : g_dc cX0_touch 203 (.ishl) 1 204 := ⟨by decide +kernel, rfl⟩
theorem e_X0_touch_204 : g_dc cX0_touch 204 (.ior) 1 205 := ⟨by decide +kernel, rfl⟩
theorem e_X0_touch_205 : g_dc cX0_touch 205 (.ior) 1 206 := ⟨by decide +kernel, rfl⟩
theorem e_X0_touch_206 : g_dc cX0_touch 206 (.putfield 68) 3 209 := ⟨by decide +kernel, rfl⟩
theorem e_X0_touch_209 : g_dc cX0_touch 209 (.return_) 1 210 := ⟨by decide +kernel, rfl⟩
def md_X0_touch : List Nat := [606]
def mr_X0_touch : List Nat := [38, 44]
set_option maxHeartbeats 4000000 in
set_option maxRecDepth 100000 in
theorem w_X0_touch (l : Launch) (X : gX) (ad : Nat → Nat) (F : Nat → Int32) (R : Nat → Nat → Int32) (hI : g_ok LK_wX F) (hA : g_okR LA_wX R) (a0 : Int32) (a1 : Int32) : g_Cv l X yX0_touch cX0_touch 8 3 0 0 [.ref (ad 37), .int a0, .int a1] (wX X ad F R) (fun w => ∃ (F' : Nat → Int32) (R' : Nat → Nat → Int32), w = wX X ad F' R' ∧ g_ok LK_wX F' ∧ g_okR LA_wX R' ∧ g_fr md_X0_touch F F' ∧ g_fr mr_X0_touch R R' ∧ (F', R') = sp_X0_touch F R a0 a1) := by
  refine g_mv (by decide +kernel) (Nat.le_of_ble_eq_true rfl) (fun E cx hret => ?_)
  obtain ⟨SP, hSP⟩ : ∃ z, z = sp_X0_touch F R a0 a1 := ⟨_, rfl⟩
  have hk0 := hSP
  unfold sp_X0_touch at hk0
  refine g_iload_n cx 1 rfl e_X0_touch_0 ?_
  refine g_iconst cx 0 (by decide) e_X0_touch_1 ?_
  refine g_bipush cx 9 (by decide) e_X0_touch_2 ?_
  refine g_cNiW cx [.int a0, .int 0, .int 9] [] (c_X10_within l X (wX X ad F R) a0 0 9) mn_X0_192 yS_X10_within e_X0_touch_4 (by unfold g_rr; decide) (by decide) rfl (Nat.le_of_ble_eq_true rfl) (fun r1 w2 h3 => ?_)
  obtain ⟨rfl, hr1⟩ := h3
  have pr1 : jv 0 1 r1 := by rw [hr1]; exact gi_01 _ _ _
  have hk4 := k_ls hk0 hr1
  have J20 : (SP = K_X0_touch_20 F R) → G X E 8 0 0 (wX X ad F R) [] 20 [] := by
    intro   hkJ20
    unfold K_X0_touch_20 at hkJ20
    exact hret e_X0_touch_20 (Nat.le_of_ble_eq_true rfl) (Nat.le_of_ble_eq_true rfl) ⟨F, R, rfl, hI, hA, (g_fr_rf F), (g_fr_rf R), (hkJ20.symm.trans hSP)⟩
  refine g_if_eq cx 20 e_X0_touch_7 (by decide) (fun zc5 => ?_) (fun zc5 => ?_)
  · have p6 := gn_eq 0 0 (gc_eq zc5) pr1 (jv_k (x := 0) 0 (by decide)) (by decide)
    have hk7 := hk4.trans (if_pos zc5)
    refine g_lsub [] [] rfl ?_
    exact J20  hk7
  · have p8 := gn_neL 1 1 (gc_ne zc5) pr1 (jv_k (x := 0) 0 (by decide)) (by decide)
    have p9 := jv_i 0 9 (jv_t a0) (gi_in (A := 0) (B := 9) hr1 zc5 (by decide) (by decide)) (by decide)
    have hk10 := hk4.trans (if_neg zc5)
    refine g_iload_n cx 2 rfl e_X0_touch_10 ?_
    refine g_iconst cx 0 (by decide) e_X0_touch_11 ?_
    refine g_bipush cx 9 (by decide) e_X0_touch_12 ?_
    refine g_cNiW cx [.int a1, .int 0, .int 9] [] (c_X10_within l X (wX X ad F R) a1 0 9) mn_X0_192 yS_X10_within e_X0_touch_14 (by unfold g_rr; decide) (by decide) rfl (Nat.le_of_ble_eq_true rfl) (fun r11 w12 h13 => ?_)
    obtain ⟨rfl, hr11⟩ := h13
    have pr11 : jv 0 1 r11 := by rw [hr11]; exact gi_01 _ _ _
    have hk14 := k_ls hk10 hr11
    refine g_if_ne cx 21 e_X0_touch_17 (by decide) (fun zc15 => ?_) (fun zc15 => ?_)
    · have p16 := gn_neL 1 1 (gc_ne zc15) pr11 (jv_k (x := 0) 0 (by decide)) (by decide)
      have p17 := jv_i 0 9 (jv_t a1) (gi_in (A := 0) (B := 9) hr11 zc15 (by decide) (by decide)) (by decide)
      have hk18 := hk14.trans (if_neg zc15)
      refine g_aload_n cx 0 rfl e_X0_touch_21 ?_
      refine g_get cx cl_X0 fl_X0_12 37 (.ref (ad 5)) e_X0_touch_22 rfl rfl ?_
      refine g_iload_n cx 1 rfl e_X0_touch_25 ?_
      refine g_iconst cx 2 (by decide) e_X0_touch_26 ?_
      refine g_cViW cx [.int a0, .int 2] [] (w_X8_side_5 l X ad F R hI hA a0 2) ml_X0_171 yV_X8_side e_X0_touch_27 (by unfold g_rr; decide) (by decide) 5 rfl rfl rfl (Nat.le_of_ble_eq_true rfl) (fun r19 w20 h21 => ?_)
      obtain ⟨rfl, pr19, hx22⟩ := h21
      have hk23 := k_ls hk18 hx22
      refine g_aload_n cx 0 rfl e_X0_touch_30 ?_
      refine g_get cx cl_X0 fl_X0_12 37 (.ref (ad 5)) e_X0_touch_31 rfl rfl ?_
      refine g_iload_n cx 2 rfl e_X0_touch_34 ?_
      refine g_iconst cx 2 (by decide) e_X0_touch_35 ?_
      refine g_cViW cx [.int a1, .int 2] [.int r19] (w_X8_side_5 l X ad F R hI hA a1 2) ml_X0_171 yV_X8_side e_X0_touch_36 (by unfold g_rr; decide) (by decide) 5 rfl rfl rfl (Nat.le_of_ble_eq_true rfl) (fun r24 w25 h26 => ?_)
      obtain ⟨rfl, pr24, hx27⟩ := h26
      have hk28 := k_ls hk23 hx27
      refine g_iadd cx e_X0_touch_39 ?_
      refine g_topi (fun x29 ex29 => ?_)
      have hk30 := k_ls hk28 ex29
      refine g_iconst cx 2 (by decide) e_X0_touch_40 ?_
      refine g_idiv cx (by decide) e_X0_touch_41 ?_
      refine g_topi (fun x31 ex31 => ?_)
      have hk32 := k_ls hk30 ex31
      refine g_istore_n cx [(3, .int x31), (0, .ref (ad 37)), (1, .int a0), (2, .int a1)] e_X0_touch_42 (by decide) rfl ?_
      refine g_aload_n cx 1 rfl e_X0_touch_43 ?_
      refine g_get cx cl_X0 fl_X0_35 37 (.ref (ad 43)) e_X0_touch_44 rfl rfl ?_
      refine g_getN cx cl_X4 fn_X0_159 43 (.ref (ad 44)) e_X0_touch_47 rfl rfl ?_
      refine g_iload_n cx 3 rfl e_X0_touch_50 ?_
      refine g_iald cx 44 e_X0_touch_51 rfl (jv_ix 10 p17 (by decide)) ?_
      refine g_topi (fun x33 ex33 => ?_)
      have hk34 := k_ls hk32 ex33
      refine g_aload_n cx 1 rfl e_X0_touch_52 ?_
      refine g_get cx cl_X0 fl_X0_35 37 (.ref (ad 43)) e_X0_touch_53 rfl rfl ?_
      refine g_getN cx cl_X4 fn_X0_159 43 (.ref (ad 44)) e_X0_touch_56 rfl rfl ?_
      refine g_iload_n cx 2 rfl e_X0_touch_59 ?_
      refine g_iald cx 44 e_X0_touch_60 rfl (jv_ix 10 p9 (by decide)) ?_
      refine g_topi (fun x35 ex35 => ?_)
      have hk36 := k_ls hk34 ex35
      refine g_isub cx e_X0_touch_61 ?_
      refine g_topi (fun x37 ex37 => ?_)
      have hk38 := k_ls hk36 ex37
      refine g_iload_n cx 0 rfl e_X0_touch_62 ?_
      have J81 : (SP = K_X0_touch_81 F R) → G X E 8 0 0 (wX X ad F R) [] 81 [] := by
        intro   hkJ81
        unfold K_X0_touch_81 at hkJ81
        exact hret e_X0_touch_81 (Nat.le_of_ble_eq_true rfl) (Nat.le_of_ble_eq_true rfl) ⟨F, R, rfl, hI, hA, (g_fr_rf F), (g_fr_rf R), (hkJ81.symm.trans hSP)⟩
      refine g_icmp_ge cx 81 e_X0_touch_63 (by decide) (fun zc39 => ?_) (fun zc39 => ?_)
      · have hk40 := hk38.trans (if_pos zc39)
        refine g_lsub [] [] rfl ?_
        exact J81  hk40
      · have p41 := gn_lt (-2147483648) 2147483646 (gc_nle zc39) (jv_t x37) (jv_t x31) (by decide)
        have p42 := gn_gt (-2147483647) 2147483647 (gc_nle zc39) (jv_t x31) (jv_t x37) (by decide)
        have hk43 := hk38.trans (if_neg zc39)
        refine g_aload_n cx 1 rfl e_X0_touch_66 ?_
        refine g_get cx cl_X0 fl_X0_39 37 (.ref (ad 38)) e_X0_touch_67 rfl rfl ?_
        refine g_iload_n cx 3 rfl e_X0_touch_70 ?_
        refine g_iald cx 38 e_X0_touch_71 rfl (jv_ix 10 p17 (by decide)) ?_
        refine g_topi (fun x44 ex44 => ?_)
        have hk45 := k_ls hk43 ex44
        refine g_aload_n cx 1 rfl e_X0_touch_72 ?_
        refine g_get cx cl_X0 fl_X0_39 37 (.ref (ad 38)) e_X0_touch_73 rfl rfl ?_
        refine g_iload_n cx 2 rfl e_X0_touch_76 ?_
        refine g_iald cx 38 e_X0_touch_77 rfl (jv_ix 10 p9 (by decide)) ?_
        refine g_topi (fun x46 ex46 => ?_)
        have hk47 := k_ls hk45 ex46
        refine g_icmp_gt cx 82 e_X0_touch_78 (by decide) (fun zc48 => ?_) (fun zc48 => ?_)
        · have p49 := gn_lt (-2147483648) 2147483646 (gc_lt zc48) (jv_t x46) (jv_t x44) (by decide)
          have p50 := gn_gt (-2147483647) 2147483647 (gc_lt zc48) (jv_t x44) (jv_t x46) (by decide)
          have hk51 := hk47.trans (if_pos zc48)
          refine g_aload_n cx 1 rfl e_X0_touch_82 ?_
          refine g_get cx cl_X0 fl_X0_12 37 (.ref (ad 5)) e_X0_touch_83 rfl rfl ?_
          refine g_iload_n cx 2 rfl e_X0_touch_86 ?_
          refine g_iconst cx 4 (by decide) e_X0_touch_87 ?_
          refine g_cViW cx [.int a0, .int 4] [] (w_X8_side_5 l X ad F R hI hA a0 4) ml_X0_171 yV_X8_side e_X0_touch_88 (by unfold g_rr; decide) (by decide) 5 rfl rfl rfl (Nat.le_of_ble_eq_true rfl) (fun r52 w53 h54 => ?_)
          obtain ⟨rfl, pr52, hx55⟩ := h54
          have hk56 := k_ls hk51 hx55
          refine g_istore cx [(4, .int r52), (3, .int x31), (0, .ref (ad 37)), (1, .int a0), (2, .int a1)] e_X0_touch_91 (by decide) rfl ?_
          refine g_aload_n cx 2 rfl e_X0_touch_93 ?_
          refine g_get cx cl_X0 fl_X0_12 37 (.ref (ad 5)) e_X0_touch_94 rfl rfl ?_
          refine g_iload_n cx 4 rfl e_X0_touch_97 ?_
          refine g_iconst cx 4 (by decide) e_X0_touch_98 ?_
          refine g_cViW cx [.int a1, .int 4] [] (w_X8_side_5 l X ad F R hI hA a1 4) ml_X0_171 yV_X8_side e_X0_touch_99 (by unfold g_rr; decide) (by decide) 5 rfl rfl rfl (Nat.le_of_ble_eq_true rfl) (fun r57 w58 h59 => ?_)
          obtain ⟨rfl, pr57, hx60⟩ := h59
          have hk61 := k_ls hk56 hx60
          refine g_istore cx [(5, .int r57), (4, .int r52), (3, .int x31), (0, .ref (ad 37)), (1, .int a0), (2, .int a1)] e_X0_touch_102 (by decide) rfl ?_
          refine g_iload cx 1 rfl e_X0_touch_104 ?_
          refine g_iload cx 0 rfl e_X0_touch_106 ?_
          refine g_iadd cx e_X0_touch_108 ?_
          refine g_topi (fun x62 ex62 => ?_)
          have hk63 := k_ls hk61 ex62
          refine g_istore cx [(6, .int x62), (5, .int r57), (4, .int r52), (3, .int x31), (0, .ref (ad 37)), (1, .int a0), (2, .int a1)] e_X0_touch_109 (by decide) rfl ?_
          refine g_aload_n cx 4 rfl e_X0_touch_111 ?_
          refine g_get cx cl_X0 fl_X0_39 37 (.ref (ad 38)) e_X0_touch_112 rfl rfl ?_
          refine g_iload_n cx 5 rfl e_X0_touch_115 ?_
          refine g_iald cx 38 e_X0_touch_116 rfl (jv_ix 10 p9 (by decide)) ?_
          refine g_topi (fun x64 ex64 => ?_)
          have hk65 := k_ls hk63 ex64
          refine g_iload cx 2 rfl e_X0_touch_117 ?_
          refine g_imul cx e_X0_touch_119 ?_
          refine g_topi (fun x66 ex66 => ?_)
          have hk67 := k_ls hk65 ex66
          refine g_aload_n cx 4 rfl e_X0_touch_120 ?_
          refine g_get cx cl_X0 fl_X0_39 37 (.ref (ad 38)) e_X0_touch_121 rfl rfl ?_
          refine g_iload_n cx 6 rfl e_X0_touch_124 ?_
          refine g_iald cx 38 e_X0_touch_125 rfl (jv_ix 10 p17 (by decide)) ?_
          refine g_topi (fun x68 ex68 => ?_)
          have hk69 := k_ls hk67 ex68
          refine g_iload cx 1 rfl e_X0_touch_126 ?_
          refine g_imul cx e_X0_touch_128 ?_
          refine g_topi (fun x70 ex70 => ?_)
          have hk71 := k_ls hk69 ex70
          refine g_iadd cx e_X0_touch_129 ?_
          refine g_topi (fun x72 ex72 => ?_)
          have hk73 := k_ls hk71 ex72
          refine g_istore cx [(7, .int x72), (6, .int x62), (5, .int r57), (4, .int r52), (3, .int x31), (0, .ref (ad 37)), (1, .int a0), (2, .int a1)] e_X0_touch_130 (by decide) rfl ?_
          refine g_aload_n cx 5 rfl e_X0_touch_132 ?_
          refine g_get cx cl_X0 fl_X0_39 37 (.ref (ad 38)) e_X0_touch_133 rfl rfl ?_
          refine g_iload_n cx 6 rfl e_X0_touch_136 ?_
          refine g_iload cx 1 rfl e_X0_touch_137 ?_
          have J151 : ∀ (y74 : Int32), (jv (-2147483648) 2147483647 y74) → (SP = K_X0_touch_151 F R a0 a1 x31 y74) → G X E 8 0 0 (wX X ad F R) [(0, .ref (ad 37)), (1, .int a0), (2, .int a1), (3, .int x31)] 151 [.int y74, .int a0, .ref (ad 38)] := by
            intro y74 py74 hkJ151
            unfold K_X0_touch_151 at hkJ151
            refine g_iast cx 38 (wX X ad F (g_u R 38 (upd (R 38) (Int32.toNatClampNeg a0) y74))) e_X0_touch_151 rfl (jv_ix 10 p9 (by decide)) rfl ?_
            obtain ⟨R75, hR75⟩ : ∃ z, z = g_u R 38 (upd (R 38) (Int32.toNatClampNeg a0) y74) := ⟨_, rfl⟩
            rw [← hR75]
            have hk76 := k_ls hkJ151 hR75
            have oR75 : g_okR LA_wX R75 := by rw [hR75]; exact g_okR_u hA rfl
            have fR75 : g_fr mr_X0_touch R R75 := by rw [hR75]; exact g_fr_r (g_fr_rf R) rfl
            refine g_aload_n cx 0 rfl e_X0_touch_152 ?_
            refine g_get cx cl_X0 fl_X0_39 37 (.ref (ad 38)) e_X0_touch_153 rfl rfl ?_
            refine g_iload_n cx 2 rfl e_X0_touch_156 ?_
            refine g_aload_n cx 0 rfl e_X0_touch_157 ?_
            refine g_get cx cl_X0 fl_X0_39 37 (.ref (ad 38)) e_X0_touch_158 rfl rfl ?_
            refine g_iload_n cx 1 rfl e_X0_touch_161 ?_
            refine g_iald cx 38 e_X0_touch_162 rfl (jv_ix 10 p9 (by decide)) ?_
            refine g_topi (fun x77 ex77 => ?_)
            have hk78 := k_ls hk76 ex77
            refine g_iast cx 38 (wX X ad F (g_u R75 38 (upd (R75 38) (Int32.toNatClampNeg a1) x77))) e_X0_touch_163 rfl (jv_ix 10 p17 (by decide)) rfl ?_
            obtain ⟨R79, hR79⟩ : ∃ z, z = g_u R75 38 (upd (R75 38) (Int32.toNatClampNeg a1) x77) := ⟨_, rfl⟩
            rw [← hR79]
            have hk80 := k_ls hk78 hR79
            have oR79 : g_okR LA_wX R79 := by rw [hR79]; exact g_okR_u oR75 rfl
            have fR79 : g_fr mr_X0_touch R R79 := by rw [hR79]; exact g_fr_r fR75 rfl
            refine g_aload_n cx 0 rfl e_X0_touch_164 ?_
            refine g_get cx cl_X0 fl_X0_35 37 (.ref (ad 43)) e_X0_touch_165 rfl rfl ?_
            refine g_getN cx cl_X4 fn_X0_159 43 (.ref (ad 44)) e_X0_touch_168 rfl rfl ?_
            refine g_iload_n cx 2 rfl e_X0_touch_171 ?_
            refine g_aload_n cx 0 rfl e_X0_touch_172 ?_
            refine g_get cx cl_X0 fl_X0_35 37 (.ref (ad 43)) e_X0_touch_173 rfl rfl ?_
            refine g_getN cx cl_X4 fn_X0_159 43 (.ref (ad 44)) e_X0_touch_176 rfl rfl ?_
            refine g_iload_n cx 1 rfl e_X0_touch_179 ?_
            refine g_iald cx 44 e_X0_touch_180 rfl (jv_ix 10 p9 (by decide)) ?_
            refine g_topi (fun x81 ex81 => ?_)
            have hk82 := k_ls hk80 ex81
            refine g_iload_n cx 3 rfl e_X0_touch_181 ?_
            refine g_iadd cx e_X0_touch_182 ?_
            refine g_topi (fun x83 ex83 => ?_)
            have hk84 := k_ls hk82 ex83
            refine g_aload_n cx 0 rfl e_X0_touch_183 ?_
            refine g_get cx cl_X0 fl_X0_43 37 (.ref (ad 39)) e_X0_touch_184 rfl rfl ?_
            refine g_iload_n cx 2 rfl e_X0_touch_187 ?_
            refine g_iald cx 39 e_X0_touch_188 rfl (jv_ix 10 p17 (by decide)) ?_
            refine g_topi (fun x85 ex85 => ?_)
            have hk86 := k_ls hk84 ex85
            refine g_mmin cx ml_X0_168 e_X0_touch_189 ⟨Nat.le_of_ble_eq_true rfl, Nat.le_of_ble_eq_true rfl⟩ (by decide) ?_
            refine g_topi (fun x87 ex87 => ?_)
            have hk88 := k_ls hk86 ex87
            refine g_iast cx 44 (wX X ad F (g_u R79 44 (upd (R79 44) (Int32.toNatClampNeg a1) x87))) e_X0_touch_192 rfl (jv_ix 10 p17 (by decide)) rfl ?_
            obtain ⟨R89, hR89⟩ : ∃ z, z = g_u R79 44 (upd (R79 44) (Int32.toNatClampNeg a1) x87) := ⟨_, rfl⟩
            rw [← hR89]
            have hk90 := k_ls hk88 hR89
            have oR89 : g_okR LA_wX R89 := by rw [hR89]; exact g_okR_u oR79 rfl
            have fR89 : g_fr mr_X0_touch R R89 := by rw [hR89]; exact g_fr_r fR79 rfl
            refine g_aload_n cx 0 rfl e_X0_touch_193 ?_
            refine g_dup cx rfl e_X0_touch_194 ?_
            refine g_get cx cl_X0 fl_X0_68 37 (.int (F 606)) e_X0_touch_195 rfl rfl ?_
            refine g_iconst cx 1 (by decide) e_X0_touch_198 ?_
            refine g_iload_n cx 1 rfl e_X0_touch_199 ?_
            refine g_ishl cx e_X0_touch_200 ?_
            refine g_topi (fun x91 ex91 => ?_)
            have hk92 := k_ls hk90 ex91
            refine g_iconst cx 1 (by decide) e_X0_touch_201 ?_
            refine g_iload_n cx 2 rfl e_X0_touch_202 ?_
            refine g_ishl cx e_X0_touch_203 ?_
            refine g_topi (fun x93 ex93 => ?_)
            have hk94 := k_ls hk92 ex93
            refine g_ior cx e_X0_touch_204 ?_
            refine g_topi (fun x95 ex95 => ?_)
            have hk96 := k_ls hk94 ex95
            refine g_ior cx e_X0_touch_205 ?_
            refine g_topi (fun x97 ex97 => ?_)
            have hk98 := k_ls hk96 ex97
            refine g_put cx cl_X0 fl_X0_68 37 (wX X ad (upd F 606 x97) R89) e_X0_touch_206 rfl rfl rfl rfl (Nat.le_of_ble_eq_true rfl) rfl ?_
            obtain ⟨F99, hF99⟩ : ∃ z, z = upd F 606 x97 := ⟨_, rfl⟩
            rw [← hF99]
            have hk100 := k_ls hk98 hF99
            have oF99 : g_ok LK_wX F99 := by rw [hF99]; exact g_ok_u hI rfl
            have fF99 : g_fr md_X0_touch F F99 := by rw [hF99]; exact g_fr_u (g_fr_rf F) rfl
            exact hret e_X0_touch_209 (Nat.le_of_ble_eq_true rfl) (Nat.le_of_ble_eq_true rfl) ⟨F99, R89, rfl, oF99, oR89, fF99, fR89, (hk100.symm.trans hSP)⟩
          refine g_if_le cx 150 e_X0_touch_139 (by decide) (fun zc101 => ?_) (fun zc101 => ?_)
          · have p102 := gn_le (-2147483648) 0 (gc_le zc101) (jv_t x62) (jv_k (x := 0) 0 (by decide)) (by decide)
            have hk103 := hk73.trans (if_pos zc101)
            refine g_iconst cx 0 (by decide) e_X0_touch_150 ?_
            refine g_lsub [5, 6, 7, 4] [(0, .ref (ad 37)), (1, .int a0), (2, .int a1), (3, .int x31)] rfl ?_
            exact J151 0 (jv_w (jv_k (x := 0) 0 (by decide)) (by decide)) hk103
          · have p104 := gn_gt 1 2147483647 (gc_nle zc101) (jv_t x62) (jv_k (x := 0) 0 (by decide)) (by decide)
            have hk105 := hk73.trans (if_neg zc101)
            refine g_iload cx 0 rfl e_X0_touch_142 ?_
            refine g_iload cx 1 rfl e_X0_touch_144 ?_
            refine g_idiv cx (g_nz0 p104 (by decide)) e_X0_touch_146 ?_
            refine g_topi (fun x106 ex106 => ?_)
            have hk107 := k_ls hk105 ex106
            refine g_goto cx 151 e_X0_touch_147 (by decide) ?_
            refine g_lsub [5, 6, 7, 4] [(0, .ref (ad 37)), (1, .int a0), (2, .int a1), (3, .int x31)] rfl ?_
            exact J151 x106 (jv_t x106) hk107
        · have hk108 := hk47.trans (if_neg zc48)
          refine g_lsub [] [] rfl ?_
          exact J81  hk108
    · have p109 := gn_eq 0 0 (gc_eq zc15) pr11 (jv_k (x := 0) 0 (by decide)) (by decide)
      have hk110 := hk14.trans (if_pos zc15)
      refine g_lsub [] [] rfl ?_
      exact J20  hk110
def K_X0_tick_187 (b168 : (Nat → Int32) → (Nat → Nat → Int32) → (Int32) → (Nat → Int32) × (Nat → Nat → Int32)) (y51 : Int32) (F67 : Nat → Int32) (R68 : Nat → Nat → Int32) : (Nat → Int32) × (Nat → Nat → Int32) :=
  k_lt (y51 + 1) (fun x69 => b168 F67 R68 x69)
def KB_X0_tick_168 (b168 : (Nat → Int32) → (Nat → Nat → Int32) → (Int32) → (Nat → Int32) × (Nat → Nat → Int32)) (r46 : Int32) (F52 : Nat → Int32) (R53 : Nat → Nat → Int32) (y51 : Int32) : (Nat → Int32) × (Nat → Nat → Int32) :=
  if 10 ≤ y51 then k_lt ((F52 695) ||| (F52 606)) (fun x57 => k_lt (upd F52 695 x57) (fun F59 => (F59, R53))) else k_lt (1 <<< (y51 &&& 31)) (fun x63 => k_lt (r46 &&& x63) (fun x65 => if x65 = 0 then K_X0_tick_187 b168 y51 F52 R53 else k_lt2 (sp_X0_lead F52 R53 y51) (fun F79 R80 => K_X0_tick_187 b168 y51 F79 R80)))
def K_X0_tick_168 (r46 : Int32) : Nat → (Nat → Int32) → (Nat → Nat → Int32) → (Int32) → (Nat → Int32) × (Nat → Nat → Int32)
  | 0 => fun F52 R53 _ => (F52, R53)
  | n + 1 => KB_X0_tick_168 (K_X0_tick_168 r46 n) r46
def K_X0_tick_158 (F42 : Nat → Int32) (R43 : Nat → Nat → Int32)  : (Nat → Int32) × (Nat → Nat → Int32) :=
  k_lt (sp_X4_standingSet F42 R43) (fun r46 => K_X0_tick_168 r46 8589934592 F42 R43 0)
def KB_X0_tick_116 (b116 : (Nat → Int32) → (Nat → Nat → Int32) → (Int32) → (Nat → Int32) × (Nat → Nat → Int32))  (F42 : Nat → Int32) (R43 : Nat → Nat → Int32) (y41 : Int32) : (Nat → Int32) × (Nat → Nat → Int32) :=
  k_lt (y41 + 1) (fun x44 => if (F42 602) ≤ x44 then K_X0_tick_158 F42 R43 else k_lt (y41 + 1) (fun x87 => if 10 ≤ x87 then K_X0_tick_158 F42 R43 else k_lt (R43 40 (Int32.toNatClampNeg y41)) (fun x96 => k_lt (y41 + 1) (fun x98 => k_lt (R43 40 (Int32.toNatClampNeg x98)) (fun x100 => k_lt2 (sp_X0_touch F42 R43 x96 x100) (fun F106 R107 => k_lt (y41 + 1) (fun x109 => b116 F106 R107 x109)))))))
def K_X0_tick_116  : Nat → (Nat → Int32) → (Nat → Nat → Int32) → (Int32) → (Nat → Int32) × (Nat → Nat → Int32)
  | 0 => fun F42 R43 _ => (F42, R43)
  | n + 1 => KB_X0_tick_116 (K_X0_tick_116 n)
def K_X0_tick_104 (b85 : (Nat → Int32) → (Nat → Nat → Int32) → (Int32) → (Nat → Int32) × (Nat → Nat → Int32)) (y28 : Int32) (F117 : Nat → Int32) (R118 : Nat → Nat → Int32) : (Nat → Int32) × (Nat → Nat → Int32) :=
  k_lt (y28 + 1) (fun x119 => b85 F117 R118 x119)
def KB_X0_tick_85 (b85 : (Nat → Int32) → (Nat → Nat → Int32) → (Int32) → (Nat → Int32) × (Nat → Nat → Int32)) (r23 : Int32) (F29 : Nat → Int32) (R30 : Nat → Nat → Int32) (y28 : Int32) : (Nat → Int32) × (Nat → Nat → Int32) :=
  if 10 ≤ y28 then k_lt2 (sp_X0_lineUp F29 R30) (fun F38 R39 => K_X0_tick_116 8589934592 F38 R39 0) else k_lt (1 <<< (y28 &&& 31)) (fun x113 => k_lt (r23 &&& x113) (fun x115 => if x115 = 0 then K_X0_tick_104 b85 y28 F29 R30 else k_lt2 (sp_X0_slide F29 R30 y28) (fun F129 R130 => K_X0_tick_104 b85 y28 F129 R130)))
def K_X0_tick_85 (r23 : Int32) : Nat → (Nat → Int32) → (Nat → Nat → Int32) → (Int32) → (Nat → Int32) × (Nat → Nat → Int32)
  | 0 => fun F29 R30 _ => (F29, R30)
  | n + 1 => KB_X0_tick_85 (K_X0_tick_85 r23 n) r23
def K_X0_tick_69 (b25 : (Nat → Int32) → (Nat → Nat → Int32) → (Int32) → (Nat → Int32) × (Nat → Nat → Int32)) (y17 : Int32) (F138 : Nat → Int32) (R139 : Nat → Nat → Int32) : (Nat → Int32) × (Nat → Nat → Int32) :=
  k_lt (y17 + 1) (fun x140 => b25 F138 R139 x140)
def KB_X0_tick_25 (b25 : (Nat → Int32) → (Nat → Nat → Int32) → (Int32) → (Nat → Int32) × (Nat → Nat → Int32)) (r12 : Int32) (F18 : Nat → Int32) (R19 : Nat → Nat → Int32) (y17 : Int32) : (Nat → Int32) × (Nat → Nat → Int32) :=
  if 10 ≤ y17 then k_lt (sp_X4_standingSet F18 R19) (fun r23 => K_X0_tick_85 r23 8589934592 F18 R19 0) else k_lt (1 <<< (y17 &&& 31)) (fun x134 => k_lt (r12 &&& x134) (fun x136 => if x136 = 0 then K_X0_tick_69 b25 y17 F18 R19 else k_lt (R19 38 (Int32.toNatClampNeg y17)) (fun x146 => k_lt2 (sp_X0_feelCloth F18 R19 y17) (fun F152 R153 => k_lt (R153 38 (Int32.toNatClampNeg y17)) (fun x155 => k_lt (x155 - x146) (fun x157 => k_lt (if 0 ≤ x157 then x157 else 0 - x157) (fun x159 => k_lt2 (sp_X0_shake F152 R153 y17 x159) (fun F165 R166 => K_X0_tick_69 b25 y17 F165 R166))))))))
def K_X0_tick_25 (r12 : Int32) : Nat → (Nat → Int32) → (Nat → Nat → Int32) → (Int32) → (Nat → Int32) × (Nat → Nat → Int32)
  | 0 => fun F18 R19 _ => (F18, R19)
  | n + 1 => KB_X0_tick_25 (K_X0_tick_25 r12 n) r12
def sp_X0_tick (F : Nat → Int32) (R : Nat → Nat → Int32) (a0 : Int32) : (Nat → Int32) × (Nat → Nat → Int32) :=
  k_lt2 (sp_X0_pullCloth F R a0) (fun F5 R6 => k_lt (upd F5 605 0) (fun F8 => k_lt (upd F8 606 0) (fun F10 => k_lt (sp_X4_standingSet F10 R6) (fun r12 => K_X0_tick_25 r12 8589934592 F10 R6 0))))
theorem e_X0_tick_0 : g_dc cX0_tick 0 (.aload_n 0) 1 1 := ⟨by decide +kernel, rfl⟩
theorem e_X0_tick_1 : g_dc cX0_tick 1 (.iload_n 1) 1 2 := ⟨by decide +kernel, rfl⟩
theorem e_X0_tick_2 : g_dc cX0_tick 2 (.invokevirtual 105) 3 5 := ⟨by decide +kernel, rfl⟩
theorem e_X0_tick_5 : g_dc cX0_tick 5 (.aload_n 0) 1 6 := ⟨by decide +kernel, rfl⟩
theorem e_X0_tick_6 : g_dc cX0_tick 6 (.iconst 0) 1 7 := ⟨by decide +kernel, rfl⟩
theorem e_X0_tick_7 : g_dc cX0_tick 7 (.putfield 65) 3 10 := ⟨by decide +kernel, rfl⟩
theorem e_X0_tick_10 : g_dc cX0_tick 10 (.aload_n 0) 1 11 := ⟨by decide +kernel, rfl⟩
theorem e_X0_tick_11 : g_dc cX0_tick 11 (.iconst 0) 1 12 := ⟨by decide +kernel, rfl⟩
theorem e_X0_tick_12 : g_dc cX0_tick 12 (.putfield 68) 3 15 := ⟨by decide +kernel, rfl⟩
theorem e_X0_tick_15 : g_dc cX0_tick 15 (.aload_n 0) 1 16 := ⟨by decide +kernel, rfl⟩
theorem e_X0_tick_16 : g_dc cX0_tick 16 (.getfield 35) 3 19 := ⟨by decide +kernel, rfl⟩
theorem e_X0_tick_19 : g_dc cX0_tick 19 (.invokevirtual 101) 3 22 := ⟨by decide +kernel, rfl⟩
theorem e_X0_tick_22 : g_dc cX0_tick 22 (.istore_n 2) 1 23 := ⟨by decide +kernel, rfl⟩
theorem e_X0_tick_23 : g_dc cX0_tick 23 (.iconst 0) 1 24 := ⟨by decide +kernel, rfl⟩
theorem e_X0_tick_24 : g_dc cX0_tick 24 (.istore_n 3) 1 25 := ⟨by decide +kernel, rfl⟩
theorem e_X0_tick_25 : g_dc cX0_tick 25 (.iload_n 3) 1 26 := ⟨by decide +kernel, rfl⟩
theorem e_X0_tick_26 : g_dc cX0_tick 26 (.bipush 10) 2 28 := ⟨by decide +kernel, rfl⟩
theorem e_X0_tick_28 : g_dc cX0_tick 28 (.if_icmp .ge 47) 3 31 := ⟨by decide +kernel, rfl⟩
theorem e_X0_tick_31 : g_dc cX0_tick 31 (.iload_n 2) 1 32 := ⟨by decide +kernel, rfl⟩
theorem e_X0_tick_32 : g_dc cX0_tick 32 (.iconst 1) 1 33 := ⟨by decide +kernel, rfl⟩
theorem e_X0_tick_33 : g_dc cX0_tick 33 (.iload_n 3) 1 34 := ⟨by decide +kernel, rfl⟩
theorem e_X0_tick_34 : g_dc cX0_tick 34 (.ishl) 1 35 := ⟨by decide +kernel, rfl⟩
theorem e_X0_tick_35 : g_dc cX0_tick 35 (.iand) 1 36 := ⟨by decide +kernel, rfl⟩
theorem e_X0_tick_36 : g_dc cX0_tick 36 (.ifCond .eq 33) 3 39 := ⟨by decide +kernel, rfl⟩
theorem e_X0_tick_39 : g_dc cX0_tick 39 (.aload_n 0) 1 40 := ⟨by decide +kernel, rfl⟩
theorem e_X0_tick_40 : g_dc cX0_tick 40 (.getfield 39) 3 43 := ⟨by decide +kernel, rfl⟩
theorem e_X0_tick_43 : g_dc cX0_tick 43 (.iload_n 3) 1 44 := ⟨by decide +kernel, rfl⟩
theorem e_X0_tick_44 : g_dc cX0_tick 44 (.iaload) 1 45 := ⟨by decide +kernel, rfl⟩
theorem e_X0_tick_45 : g_dc cX0_tick 45 (.istore 4) 2 47 := ⟨by decide +kernel, rfl⟩
theorem e_X0_tick_47 : g_dc cX0_tick 47 (.aload_n 0) 1 48 := ⟨by decide +kernel, rfl⟩
theorem e_X0_tick_48 : g_dc cX0_tick 48 (.iload_n 3) 1 49 := ⟨by decide +kernel, rfl⟩
theorem e_X0_tick_49 : g_dc cX0_tick 49 (.invokevirtual 108) 3 52 := ⟨by decide +kernel, rfl⟩
theorem e_X0_tick_52 : g_dc cX0_tick 52 (.aload_n 0) 1 53 := ⟨by decide +kernel, rfl⟩
theorem e_X0_tick_53 : g_dc cX0_tick 53 (.iload_n 3) 1 54 := ⟨by decide +kernel, rfl⟩
theorem e_X0_tick_54 : g_dc cX0_tick 54 (.aload_n 0) 1 55 := ⟨by decide +kernel, rfl⟩
theorem e_X0_tick_55 : g_dc cX0_tick 55 (.getfield 39) 3 58 := ⟨by decide +kernel, rfl⟩
theorem e_X0_tick_58 : g_dc cX0_tick 58 (.iload_n 3) 1 59 := ⟨by decide +kernel, rfl⟩
theorem e_X0_tick_59 : g_dc cX0_tick 59 (.iaload) 1 60 := ⟨by decide +kernel, rfl⟩
theorem e_X0_tick_60 : g_dc cX0_tick 60 (.iload 4) 2 62 := ⟨by decide +kernel, rfl⟩
theorem e_X0_tick_62 : g_dc cX0_tick 62 (.isub) 1 63 := ⟨by decide +kernel, rfl⟩
theorem e_X0_tick_63 : g_dc cX0_tick 63 (.invokestatic 111) 3 66 := ⟨by decide +kernel, rfl⟩
theorem e_X0_tick_66 : g_dc cX0_tick 66 (.invokevirtual 116) 3 69 := ⟨by decide +kernel, rfl⟩
theorem e_X0_tick_69 : g_dc cX0_tick 69 (.iinc 3 1) 3 72 := ⟨by decide +kernel, rfl⟩
theorem e_X0_tick_72 : g_dc cX0_tick 72 (.goto (-47)) 3 75 := ⟨by decide +kernel, rfl⟩
theorem e_X0_tick_75 : g_dc cX0_tick 75 (.aload_n 0) 1 76 := ⟨by decide +kernel, rfl⟩
theorem e_X0_tick_76 : g_dc cX0_tick 76 (.getfield 35) 3 79 := ⟨by decide +kernel, rfl⟩
theorem e_X0_tick_79 : g_dc cX0_tick 79 (.invokevirtual 101) 3 82 := ⟨by decide +kernel, rfl⟩
theorem e_X0_tick_82 : g_dc cX0_tick 82 (.istore_n 2) 1 83 := ⟨by decide +kernel, rfl⟩
theorem e_X0_tick_83 : g_dc cX0_tick 83 (.iconst 0) 1 84 := ⟨by decide +kernel, rfl⟩
theorem e_X0_tick_84 : g_dc cX0_tick 84 (.istore_n 3) 1 85 := ⟨by decide +kernel, rfl⟩
theorem e_X0_tick_85 : g_dc cX0_tick 85 (.iload_n 3) 1 86 := ⟨by decide +kernel, rfl⟩
theorem e_X0_tick_86 : g_dc cX0_tick 86 (.bipush 10) 2 88 := ⟨by decide +kernel, rfl⟩
theorem e_X0_tick_88 : g_dc cX0_tick 88 (.if_icmp .ge 22) 3 91 := ⟨by decide +kernel, rfl⟩
theorem e_X0_tick_91 : g_dc cX0_tick 91 (.iload_n 2) 1 92 := ⟨by decide +kernel, rfl⟩
theorem e_X0_tick_92 : g_dc cX0_tick 92 (.iconst 1) 1 93 := ⟨by decide +kernel, rfl⟩
theorem e_X0_tick_93 : g_dc cX0_tick 93 (.iload_n 3) 1 94 := ⟨by decide +kernel, rfl⟩
theorem e_X0_tick_94 : g_dc cX0_tick 94 (.ishl) 1 95 := ⟨by decide +kernel, rfl⟩
theorem e_X0_tick_95 : g_dc cX0_tick 95 (.iand) 1 96 := ⟨by decide +kernel, rfl⟩
theorem e_X0_tick_96 : g_dc cX0_tick 96 (.ifCond .eq 8) 3 99 := ⟨by decide +kernel, rfl⟩
theorem e_X0_tick_99 : g_dc cX0_tick 99 (.aload_n 0) 1 100 := ⟨by decide +kernel, rfl⟩
theorem e_X0_tick_100 : g_dc cX0_tick 100 (.iload_n 3) 1 101 := ⟨by decide +kernel, rfl⟩
theorem e_X0_tick_101 : g_dc cX0_tick 101 (.invokevirtual 120) 3 104 := ⟨by decide +kernel, rfl⟩
theorem e_X0_tick_104 : g_dc cX0_tick 104 (.iinc 3 1) 3 107 := ⟨by decide +kernel, rfl⟩
theorem e_X0_tick_107 : g_dc cX0_tick 107 (.goto (-22)) 3 110 := ⟨by decide +kernel, rfl⟩
theorem e_X0_tick_110 : g_dc cX0_tick 110 (.aload_n 0) 1 111 := ⟨by decide +kernel, rfl⟩
theorem e_X0_tick_111 : g_dc cX0_tick 111 (.invokevirtual 123) 3 114 := ⟨by decide +kernel, rfl⟩
theorem e_X0_tick_114 : g_dc cX0_tick 114 (.iconst 0) 1 115 := ⟨by decide +kernel, rfl⟩
theorem e_X0_tick_115 : g_dc cX0_tick 115 (.istore_n 3) 1 116 := ⟨by decide +kernel, rfl⟩
theorem e_X0_tick_116 : g_dc cX0_tick 116 (.iload_n 3) 1 117 := ⟨by decide +kernel, rfl⟩
theorem e_X0_tick_117 : g_dc cX0_tick 117 (.iconst 1) 1 118 := ⟨by decide +kernel, rfl⟩
theorem e_X0_tick_118 : g_dc cX0_tick 118 (.iadd) 1 119 := ⟨by decide +kernel, rfl⟩
theorem e_X0_tick_119 : g_dc cX0_tick 119 (.aload_n 0) 1 120 := ⟨by decide +kernel, rfl⟩
theorem e_X0_tick_120 : g_dc cX0_tick 120 (.getfield 56) 3 123 := ⟨by decide +kernel, rfl⟩
theorem e_X0_tick_123 : g_dc cX0_tick 123 (.if_icmp .ge 35) 3 126 := ⟨by decide +kernel, rfl⟩
theorem e_X0_tick_126 : g_dc cX0_tick 126 (.iload_n 3) 1 127 := ⟨by decide +kernel, rfl⟩
theorem e_X0_tick_127 : g_dc cX0_tick 127 (.iconst 1) 1 128 := ⟨by decide +kernel, rfl⟩
theorem e_X0_tick_128 : g_dc cX0_tick 128 (.iadd) 1 129 := ⟨by decide +kernel, rfl⟩
theorem e_X0_tick_129 : g_dc cX0_tick 129 (.bipush 10) 2 131 := ⟨by decide +kernel, rfl⟩
theorem e_X0_tick_131 : g_dc cX0_tick 131 (.if_icmp .ge 27) 3 134 := ⟨by decide +kernel, rfl⟩
theorem e_X0_tick_134 : g_dc cX0_tick 134 (.aload_n 0) 1 135 := ⟨by decide +kernel, rfl⟩
theorem e_X0_tick_135 : g_dc cX0_tick 135 (.aload_n 0) 1 136 := ⟨by decide +kernel, rfl⟩
theorem e_X0_tick_136 : g_dc cX0_tick 136 (.getfield 46) 3 139 := ⟨by decide +kernel, rfl⟩
theorem e_X0_tick_139 : g_dc cX0_tick 139 (.iload_n 3) 1 140 := ⟨by decide +kernel, rfl⟩
theorem e_X0_tick_140 : g_dc cX0_tick 140 (.iaload) 1 141 := ⟨by decide +kernel, rfl⟩
theorem e_X0_tick_141 : g_dc cX0_tick 141 (.aload_n 0) 1 142 := ⟨by decide +kernel, rfl⟩
theorem e_X0_tick_142 : g_dc cX0_tick 142 (.getfield 46) 3 145 := ⟨by decide +kernel, rfl⟩
theorem e_X0_tick_145 : g_dc cX0_tick 145 (.iload_n 3) 1 146 := ⟨by decide +kernel, rfl⟩
theorem e_X0_tick_146 : g_dc cX0_tick 146 (.iconst 1) 1 147 := ⟨by decide +kernel, rfl⟩
theorem e_X0_tick_147 : g_dc cX0_tick 147 (.iadd) 1 148 := ⟨by decide +kernel, rfl⟩
theorem e_X0_tick_148 : g_dc cX0_tick 148 (.iaload) 1 149 := ⟨by decide +kernel, rfl⟩
theorem e_X0_tick_149 : g_dc cX0_tick 149 (.invokevirtual 126) 3 152 := ⟨by decide +kernel, rfl⟩
theorem e_X0_tick_152 : g_dc cX0_tick 152 (.iinc 3 1) 3 155 := ⟨by decide +kernel, rfl⟩
theorem e_X0_tick_155 : g_dc cX0_tick 155 (.goto (-39)) 3 158 := ⟨by decide +kernel, rfl⟩
theorem e_X0_tick_158 : g_dc cX0_tick 158 (.aload_n 0) 1 159 := ⟨by decide +kernel, rfl⟩
theorem e_X0_tick_159 : g_dc cX0_tick 159 (.getfield 35) 3 162 := ⟨by decide +kernel, rfl⟩
theorem e_X0_tick_162 : g_dc cX0_tick 162 (.invokevirtual 101) 3 165 := ⟨by decide +kernel, rfl⟩
theorem e_X0_tick_165 : g_dc cX0_tick 165 (.istore_n 2) 1 166 := ⟨by decide +kernel, rfl⟩
theorem e_X0_tick_166 : g_dc cX0_tick 166 (.iconst 0) 1 167 := ⟨by decide +kernel, rfl⟩
theorem e_X0_tick_167 : g_dc cX0_tick 167 (.istore_n 3) 1 168 := ⟨by decide +kernel, rfl⟩
theorem e_X0_tick_168 : g_dc cX0_tick 168 (.iload_n 3) 1 169 := ⟨by decide +kernel, rfl⟩
theorem e_X0_tick_169 : g_dc cX0_tick 169 (.bipush 10) 2 171 := ⟨by decide +kernel, rfl⟩
theorem e_X0_tick_171 : g_dc cX0_tick 171 (.if_icmp .ge 22) 3 174 := ⟨by decide +kernel, rfl⟩
theorem e_X0_tick_174 : g_dc cX0_tick 174 (.iload_n 2) 1 175 := ⟨by decide +kernel, rfl⟩
theorem e_X0_tick_175 : g_dc cX0_tick 175 (.iconst 1) 1 176 := ⟨by decide +kernel, rfl⟩
theorem e_X0_tick_176 : g_dc cX0_tick 176 (.iload_n 3) 1 177 := ⟨by decide +kernel, rfl⟩
theorem e_X0_tick_177 : g_dc cX0_tick 177 (.ishl) 1 178 := ⟨by decide +kernel, rfl⟩
theorem e_X0_tick_178 : g_dc cX0_tick 178 (.iand) 1 179 := ⟨by decide +kernel, rfl⟩
theorem e_X0_tick_179 : g_dc cX0_tick 179 (.ifCond .eq 8) 3 182 := ⟨by decide +kernel, rfl⟩
theorem e_X0_tick_182 : g_dc cX0_tick 182 (.aload_n 0) 1 183 := ⟨by decide +kernel, rfl⟩
theorem e_X0_tick_183 : g_dc cX0_tick 183 (.iload_n 3) 1 184 := ⟨by decide +kernel, rfl⟩
theorem e_X0_tick_184 : g_dc cX0_tick 184 (.invokevirtual 129) 3 187 := ⟨by decide +kernel, rfl⟩
theorem e_X0_tick_187 : g_dc cX0_tick 187 (.iinc 3 1) 3 190 := ⟨by decide +kernel, rfl⟩
theorem e_X0_tick_190 : g_dc cX0_tick 190 (.goto (-22)) 3 193 := ⟨by decide +kernel, rfl⟩
theorem e_X0_tick_193 : g_dc cX0_tick 193 (.aload_n 0) 1 194 := ⟨by decide +kernel, rfl⟩
theorem e_X0_tick_194 : g_dc cX0_tick 194 (.getfield 35) 3 197 := ⟨by decide +kernel, rfl⟩
theorem e_X0_tick_197 : g_dc cX0_tick 197 (.dup) 1 198 := ⟨by decide +kernel, rfl⟩
theorem e_X0_tick_198 : g_dc cX0_tick 198 (.getfield 132) 3 201 := ⟨by decide +kernel, rfl⟩
theorem e_X0_tick_201 : g_dc cX0_tick 201 (.aload_n 0) 1 202 := ⟨by decide +kernel, rfl⟩
theorem e_X0_tick_202 : g_dc cX0_tick 202 (.getfield 68) 3 205 := ⟨by decide +kernel, rfl⟩
theorem e_X0_tick_205 : g_dc cX0_tick 205 (.ior) 1 206 := ⟨by decide +kernel, rfl⟩
theorem e_X0_tick_206 : g_dc cX0_tick 206 (.putfield 132) 3 209 := ⟨by decide +kernel, rfl⟩
theorem e_X0_tick_209 : g_dc cX0_tick 209 (.return_) 1 210 := ⟨by decide +kernel, rfl⟩
def md_X0_tick : List Nat := [602, 603, 604, 605, 606, 673, 675, 692, 693, 694, 695, 696, 698]
def mr_X0_tick : List Nat := [23, 24, 38, 39, 40, 44, 45, 46]
set_option maxHeartbeats 4000000 in
set_option maxRecDepth 100000 in
theorem w_X0_tick (l : Launch) (X : gX) (ad : Nat → Nat) (F : Nat → Int32) (R : Nat → Nat → Int32) (hI : g_ok LK_wX F) (hA : g_okR LA_wX R) (a0 : Int32) : g_Cv l X yX0_tick cX0_tick 5 5 0 0 [.ref (ad 37), .int a0] (wX X ad F R) (fun w => ∃ (F' : Nat → Int32) (R' : Nat → Nat → Int32), w = wX X ad F' R' ∧ g_ok LK_wX F' ∧ g_okR LA_wX R' ∧ g_fr md_X0_tick F F' ∧ g_fr mr_X0_tick R R' ∧ (F', R') = sp_X0_tick F R a0) := by
  refine g_mv (by decide +kernel) (Nat.le_of_ble_eq_true rfl) (fun E cx hret => ?_)
  obtain ⟨SP, hSP⟩ : ∃ z, z = sp_X0_tick F R a0 := ⟨_, rfl⟩
  have hk0 := hSP
  unfold sp_X0_tick at hk0
  refine g_aload_n cx 0 rfl e_X0_tick_0 ?_
  refine g_iload_n cx 1 rfl e_X0_tick_1 ?_
  refine g_cVvW cx [.int a0] [] (w_X0_pullCloth l X ad F R hI hA a0) ml_X0_105 yV_X0_pullCloth e_X0_tick_2 (by unfold g_rr; decide) (by decide) 37 rfl rfl rfl (Nat.le_of_ble_eq_true rfl) (fun w2 h3 => ?_)
  obtain ⟨F5, R6, rfl, oF5, oR6, cF5, cR6, hx4⟩ := h3
  have hk7 := k_ls2 hk0 hx4
  have fF5 : g_fr md_X0_tick F F5 := g_fr_c (g_fr_rf F) cF5 rfl
  have fR6 : g_fr mr_X0_tick R R6 := g_fr_c (g_fr_rf R) cR6 rfl
  refine g_aload_n cx 0 rfl e_X0_tick_5 ?_
  refine g_iconst cx 0 (by decide) e_X0_tick_6 ?_
  refine g_put cx cl_X0 fl_X0_65 37 (wX X ad (upd F5 605 0) R6) e_X0_tick_7 rfl rfl rfl rfl (Nat.le_of_ble_eq_true rfl) rfl ?_
  obtain ⟨F8, hF8⟩ : ∃ z, z = upd F5 605 0 := ⟨_, rfl⟩
  rw [← hF8]
  have hk9 := k_ls hk7 hF8
  have oF8 : g_ok LK_wX F8 := by rw [hF8]; exact g_ok_u oF5 rfl
  have fF8 : g_fr md_X0_tick F F8 := by rw [hF8]; exact g_fr_u fF5 rfl
  refine g_aload_n cx 0 rfl e_X0_tick_10 ?_
  refine g_iconst cx 0 (by decide) e_X0_tick_11 ?_
  refine g_put cx cl_X0 fl_X0_68 37 (wX X ad (upd F8 606 0) R6) e_X0_tick_12 rfl rfl rfl rfl (Nat.le_of_ble_eq_true rfl) rfl ?_
  obtain ⟨F10, hF10⟩ : ∃ z, z = upd F8 606 0 := ⟨_, rfl⟩
  rw [← hF10]
  have hk11 := k_ls hk9 hF10
  have oF10 : g_ok LK_wX F10 := by rw [hF10]; exact g_ok_u oF8 rfl
  have fF10 : g_fr md_X0_tick F F10 := by rw [hF10]; exact g_fr_u fF8 rfl
  refine g_aload_n cx 0 rfl e_X0_tick_15 ?_
  refine g_get cx cl_X0 fl_X0_35 37 (.ref (ad 43)) e_X0_tick_16 rfl rfl ?_
  refine g_cViW cx [] [] (w_X4_standingSet l X ad F10 R6 oF10 oR6) ml_X0_101 yV_X4_standingSet e_X0_tick_19 (by unfold g_rr; decide) (by decide) 43 rfl rfl rfl (Nat.le_of_ble_eq_true rfl) (fun r12 w13 h14 => ?_)
  obtain ⟨rfl, pr12, hx15⟩ := h14
  have hk16 := k_ls hk11 hx15
  refine g_istore_n cx [(2, .int r12), (0, .ref (ad 37)), (1, .int a0)] e_X0_tick_22 (by decide) rfl ?_
  refine g_iconst cx 0 (by decide) e_X0_tick_23 ?_
  refine g_istore_n cx [(3, .int 0), (2, .int r12), (0, .ref (ad 37)), (1, .int a0)] e_X0_tick_24 (by decide) rfl ?_
  have J25 : ∀ (N : Nat) (F18 : Nat → Int32) (R19 : Nat → Nat → Int32) (y17 : Int32), (g_ok LK_wX F18) → (g_fr md_X0_tick F F18) → (g_okR LA_wX R19) → (g_fr mr_X0_tick R R19) → (jv 0 10 y17) → (SP = K_X0_tick_25 r12 N F18 R19 y17) → (2147483647 - y17.toInt).toNat < N → G X E 5 0 0 (wX X ad F18 R19) [(0, .ref (ad 37)), (2, .int r12), (3, .int y17)] 25 [] := by
    intro N
    induction N with
    | zero => intro F18 R19 y17 oF18 fF18 oR19 fR19 py17 hkJ25 hm; exact absurd hm (Nat.not_lt_zero _)
    | succ N ih25 =>
      intro F18 R19 y17 oF18 fF18 oR19 fR19 py17 hkJ25 hm25
      have hkK25 : SP = KB_X0_tick_25 (K_X0_tick_25 r12 N) r12 F18 R19 y17 := hkJ25
      obtain ⟨b25, hb25⟩ : ∃ z, z = K_X0_tick_25 r12 N := ⟨_, rfl⟩
      rw [← hb25] at hkK25
      unfold KB_X0_tick_25 at hkK25
      refine g_iload_n cx 2 rfl e_X0_tick_25 ?_
      refine g_bipush cx 10 (by decide) e_X0_tick_26 ?_
      refine g_icmp_ge cx 75 e_X0_tick_28 (by decide) (fun zc20 => ?_) (fun zc20 => ?_)
      · have p21 := gn_ge 10 10 (gc_le zc20) py17 (jv_k (x := 10) 10 (by decide)) (by decide)
        have hk22 := hkK25.trans (if_pos zc20)
        refine g_aload_n cx 0 rfl e_X0_tick_75 ?_
        refine g_get cx cl_X0 fl_X0_35 37 (.ref (ad 43)) e_X0_tick_76 rfl rfl ?_
        refine g_cViW cx [] [] (w_X4_standingSet l X ad F18 R19 oF18 oR19) ml_X0_101 yV_X4_standingSet e_X0_tick_79 (by unfold g_rr; decide) (by decide) 43 rfl rfl rfl (Nat.le_of_ble_eq_true rfl) (fun r23 w24 h25 => ?_)
        obtain ⟨rfl, pr23, hx26⟩ := h25
        have hk27 := k_ls hk22 hx26
        refine g_istore_n cx [(2, .int r23), (0, .ref (ad 37)), (3, .int y17)] e_X0_tick_82 (by decide) rfl ?_
        refine g_iconst cx 0 (by decide) e_X0_tick_83 ?_
        refine g_istore_n cx [(3, .int 0), (2, .int r23), (0, .ref (ad 37))] e_X0_tick_84 (by decide) rfl ?_
        have J85 : ∀ (N : Nat) (F29 : Nat → Int32) (R30 : Nat → Nat → Int32) (y28 : Int32), (g_ok LK_wX F29) → (g_fr md_X0_tick F F29) → (g_okR LA_wX R30) → (g_fr mr_X0_tick R R30) → (jv 0 10 y28) → (SP = K_X0_tick_85 r23 N F29 R30 y28) → (2147483647 - y28.toInt).toNat < N → G X E 5 0 0 (wX X ad F29 R30) [(0, .ref (ad 37)), (2, .int r23), (3, .int y28)] 85 [] := by
          intro N
          induction N with
          | zero => intro F29 R30 y28 oF29 fF29 oR30 fR30 py28 hkJ85 hm; exact absurd hm (Nat.not_lt_zero _)
          | succ N ih85 =>
            intro F29 R30 y28 oF29 fF29 oR30 fR30 py28 hkJ85 hm85
            have hkK85 : SP = KB_X0_tick_85 (K_X0_tick_85 r23 N) r23 F29 R30 y28 := hkJ85
            obtain ⟨b85, hb85⟩ : ∃ z, z = K_X0_tick_85 r23 N := ⟨_, rfl⟩
            rw [← hb85] at hkK85
            unfold KB_X0_tick_85 at hkK85
            refine g_iload_n cx 2 rfl e_X0_tick_85 ?_
            refine g_bipush cx 10 (by decide) e_X0_tick_86 ?_
            refine g_icmp_ge cx 110 e_X0_tick_88 (by decide) (fun zc31 => ?_) (fun zc31 => ?_)
            · have p32 := gn_ge 10 10 (gc_le zc31) py28 (jv_k (x := 10) 10 (by decide)) (by decide)
              have hk33 := hkK85.trans (if_pos zc31)
              refine g_aload_n cx 0 rfl e_X0_tick_110 ?_
              refine g_cVvW cx [] [] (w_X0_lineUp l X ad F29 R30 oF29 oR30) ml_X0_123 yV_X0_lineUp e_X0_tick_111 (by unfold g_rr; decide) (by decide) 37 rfl rfl rfl (Nat.le_of_ble_eq_true rfl) (fun w35 h36 => ?_)
              obtain ⟨F38, R39, rfl, oF38, oR39, cF38, cR39, hx37⟩ := h36
              have hk40 := k_ls2 hk33 hx37
              have fF38 : g_fr md_X0_tick F F38 := g_fr_c fF29 cF38 rfl
              have fR39 : g_fr mr_X0_tick R R39 := g_fr_c fR30 cR39 rfl
              refine g_iconst cx 0 (by decide) e_X0_tick_114 ?_
              refine g_istore_n cx [(3, .int 0), (0, .ref (ad 37)), (2, .int r23)] e_X0_tick_115 (by decide) rfl ?_
              have J116 : ∀ (N : Nat) (F42 : Nat → Int32) (R43 : Nat → Nat → Int32) (y41 : Int32), (g_ok LK_wX F42) → (g_fr md_X0_tick F F42) → (g_okR LA_wX R43) → (g_fr mr_X0_tick R R43) → (jv 0 9 y41) → (SP = K_X0_tick_116 N F42 R43 y41) → (2147483647 - y41.toInt).toNat < N → G X E 5 0 0 (wX X ad F42 R43) [(0, .ref (ad 37)), (3, .int y41)] 116 [] := by
                intro N
                induction N with
                | zero => intro F42 R43 y41 oF42 fF42 oR43 fR43 py41 hkJ116 hm; exact absurd hm (Nat.not_lt_zero _)
                | succ N ih116 =>
                  intro F42 R43 y41 oF42 fF42 oR43 fR43 py41 hkJ116 hm116
                  have hkK116 : SP = KB_X0_tick_116 (K_X0_tick_116 N) F42 R43 y41 := hkJ116
                  obtain ⟨b116, hb116⟩ : ∃ z, z = K_X0_tick_116 N := ⟨_, rfl⟩
                  rw [← hb116] at hkK116
                  unfold KB_X0_tick_116 at hkK116
                  refine g_iload_n cx 1 rfl e_X0_tick_116 ?_
                  refine g_iconst cx 1 (by decide) e_X0_tick_117 ?_
                  refine g_iadd cx e_X0_tick_118 ?_
                  refine g_topi (fun x44 ex44 => ?_)
                  have hk45 := k_ls hkK116 ex44
                  have zx44 := jv_add 1 10 ex44 py41 (jv_k (x := 1) 1 (by decide)) (by decide)
                  refine g_aload_n cx 0 rfl e_X0_tick_119 ?_
                  refine g_get cx cl_X0 fl_X0_56 37 (.int (F42 602)) e_X0_tick_120 rfl rfl ?_
                  have J158 : (SP = K_X0_tick_158 F42 R43) → G X E 5 0 0 (wX X ad F42 R43) [(0, .ref (ad 37))] 158 [] := by
                    intro   hkJ158
                    unfold K_X0_tick_158 at hkJ158
                    refine g_aload_n cx 0 rfl e_X0_tick_158 ?_
                    refine g_get cx cl_X0 fl_X0_35 37 (.ref (ad 43)) e_X0_tick_159 rfl rfl ?_
                    refine g_cViW cx [] [] (w_X4_standingSet l X ad F42 R43 oF42 oR43) ml_X0_101 yV_X4_standingSet e_X0_tick_162 (by unfold g_rr; decide) (by decide) 43 rfl rfl rfl (Nat.le_of_ble_eq_true rfl) (fun r46 w47 h48 => ?_)
                    obtain ⟨rfl, pr46, hx49⟩ := h48
                    have hk50 := k_ls hkJ158 hx49
                    refine g_istore_n cx [(2, .int r46), (0, .ref (ad 37))] e_X0_tick_165 (by decide) rfl ?_
                    refine g_iconst cx 0 (by decide) e_X0_tick_166 ?_
                    refine g_istore_n cx [(3, .int 0), (2, .int r46), (0, .ref (ad 37))] e_X0_tick_167 (by decide) rfl ?_
                    have J168 : ∀ (N : Nat) (F52 : Nat → Int32) (R53 : Nat → Nat → Int32) (y51 : Int32), (g_ok LK_wX F52) → (g_fr md_X0_tick F F52) → (g_okR LA_wX R53) → (g_fr mr_X0_tick R R53) → (jv 0 10 y51) → (SP = K_X0_tick_168 r46 N F52 R53 y51) → (2147483647 - y51.toInt).toNat < N → G X E 5 0 0 (wX X ad F52 R53) [(0, .ref (ad 37)), (2, .int r46), (3, .int y51)] 168 [] := by
                      intro N
                      induction N with
                      | zero => intro F52 R53 y51 oF52 fF52 oR53 fR53 py51 hkJ168 hm; exact absurd hm (Nat.not_lt_zero _)
                      | succ N ih168 =>
                        intro F52 R53 y51 oF52 fF52 oR53 fR53 py51 hkJ168 hm168
                        have hkK168 : SP = KB_X0_tick_168 (K_X0_tick_168 r46 N) r46 F52 R53 y51 := hkJ168
                        obtain ⟨b168, hb168⟩ : ∃ z, z = K_X0_tick_168 r46 N := ⟨_, rfl⟩
                        rw [← hb168] at hkK168
                        unfold KB_X0_tick_168 at hkK168
                        refine g_iload_n cx 2 rfl e_X0_tick_168 ?_
                        refine g_bipush cx 10 (by decide) e_X0_tick_169 ?_
                        refine g_icmp_ge cx 193 e_X0_tick_171 (by decide) (fun zc54 => ?_) (fun zc54 => ?_)
                        · have p55 := gn_ge 10 10 (gc_le zc54) py51 (jv_k (x := 10) 10 (by decide)) (by decide)
                          have hk56 := hkK168.trans (if_pos zc54)
                          refine g_aload_n cx 0 rfl e_X0_tick_193 ?_
                          refine g_get cx cl_X0 fl_X0_35 37 (.ref (ad 43)) e_X0_tick_194 rfl rfl ?_
                          refine g_dup cx rfl e_X0_tick_197 ?_
                          refine g_getN cx cl_X4 fn_X0_132 43 (.int (F52 695)) e_X0_tick_198 rfl rfl ?_
                          refine g_aload_n cx 0 rfl e_X0_tick_201 ?_
                          refine g_get cx cl_X0 fl_X0_68 37 (.int (F52 606)) e_X0_tick_202 rfl rfl ?_
                          refine g_ior cx e_X0_tick_205 ?_
                          refine g_topi (fun x57 ex57 => ?_)
                          have hk58 := k_ls hk56 ex57
                          refine g_putN cx cl_X4 fn_X0_132 43 (wX X ad (upd F52 695 x57) R53) e_X0_tick_206 rfl rfl rfl rfl (Nat.le_of_ble_eq_true rfl) rfl ?_
                          obtain ⟨F59, hF59⟩ : ∃ z, z = upd F52 695 x57 := ⟨_, rfl⟩
                          rw [← hF59]
                          have hk60 := k_ls hk58 hF59
                          have oF59 : g_ok LK_wX F59 := by rw [hF59]; exact g_ok_u oF52 rfl
                          have fF59 : g_fr md_X0_tick F F59 := by rw [hF59]; exact g_fr_u fF52 rfl
                          exact hret e_X0_tick_209 (Nat.le_of_ble_eq_true rfl) (Nat.le_of_ble_eq_true rfl) ⟨F59, R53, rfl, oF59, oR53, fF59, fR53, (hk60.symm.trans hSP)⟩
                        · have p61 := gn_lt 0 9 (gc_nle zc54) py51 (jv_k (x := 10) 10 (by decide)) (by decide)
                          have hk62 := hkK168.trans (if_neg zc54)
                          refine g_iload_n cx 1 rfl e_X0_tick_174 ?_
                          refine g_iconst cx 1 (by decide) e_X0_tick_175 ?_
                          refine g_iload_n cx 2 rfl e_X0_tick_176 ?_
                          refine g_ishl cx e_X0_tick_177 ?_
                          refine g_topi (fun x63 ex63 => ?_)
                          have hk64 := k_ls hk62 ex63
                          refine g_iand cx e_X0_tick_178 ?_
                          refine g_topi (fun x65 ex65 => ?_)
                          have hk66 := k_ls hk64 ex65
                          have J187 : ∀ (F67 : Nat → Int32) (R68 : Nat → Nat → Int32), (g_ok LK_wX F67) → (g_fr md_X0_tick F F67) → (g_okR LA_wX R68) → (g_fr mr_X0_tick R R68) → (SP = K_X0_tick_187 b168 y51 F67 R68) → G X E 5 0 0 (wX X ad F67 R68) [(0, .ref (ad 37)), (2, .int r46), (3, .int y51)] 187 [] := by
                            intro F67 R68 oF67 fF67 oR68 fR68 hkJ187
                            unfold K_X0_tick_187 at hkJ187
                            obtain ⟨x69, ex69⟩ : ∃ z : Int32, z = y51 + Int32.ofInt 1 := ⟨_, rfl⟩
                            have hk70 := k_ls hkJ187 (show x69 = y51 + 1 from ex69)
                            refine g_iinc cx x69 [(3, .int x69), (0, .ref (ad 37)), (2, .int r46)] 2 e_X0_tick_187 rfl ex69.symm (by decide) rfl ?_
                            have zx69 := jv_add 1 10 (show x69 = y51 + 1 from ex69) p61 (jv_k (x := 1) 1 (by decide)) (by decide)
                            refine g_goto cx 168 e_X0_tick_190 (by decide) ?_
                            refine g_lsub [1, 2, 0] [(0, .ref (ad 37)), (2, .int r46), (3, .int x69)] rfl ?_
                            exact ih168 F67 R68 x69 oF67 fF67 oR68 fR68 (jv_w zx69.2 (by decide)) (hk70.trans (by rw [hb168])) (Nat.lt_of_lt_of_le (show (2147483647 - x69.toInt).toNat < (2147483647 - y51.toInt).toNat from by have q0 := (jv_k (x := 1) 1 (by decide)).1; have q1 := (jv_k (x := 1) 1 (by decide)).2; have q2 := (jv_k (x := 10) 10 (by decide)).1; have q3 := (jv_k (x := 10) 10 (by decide)).2; have q4 := zx44.2.1; have q5 := zx44.2.2; have q6 := zx69.2.1; have q7 := zx69.2.2; have q8 := p21.1; have q9 := p21.2; have q10 := p32.1; have q11 := p32.2; have q12 := py41.1; have q13 := py41.2; have q14 := p61.1; have q15 := p61.2; have q16 := (gc_le zc20); have q17 := (gc_le zc31); have q18 := (g_eq0 zx44.1); have q19 := (gc_nle zc54); have q20 := (g_eq0 zx69.1); omega) (Nat.le_of_lt_succ hm168))
                          refine g_if_eq cx 187 e_X0_tick_179 (by decide) (fun zc71 => ?_) (fun zc71 => ?_)
                          · have p72 := gn_eq 0 0 (gc_eq zc71) (jv_t x65) (jv_k (x := 0) 0 (by decide)) (by decide)
                            have hk73 := hk66.trans (if_pos zc71)
                            exact J187 F52 R53 oF52 fF52 oR53 fR53 hk73
                          · have hk74 := hk66.trans (if_neg zc71)
                            refine g_aload_n cx 0 rfl e_X0_tick_182 ?_
                            refine g_iload_n cx 2 rfl e_X0_tick_183 ?_
                            refine g_cVvW cx [.int y51] [] (w_X0_lead l X ad F52 R53 oF52 oR53 y51 p61) ml_X0_129 yV_X0_lead e_X0_tick_184 (by unfold g_rr; decide) (by decide) 37 rfl rfl rfl (Nat.le_of_ble_eq_true rfl) (fun w76 h77 => ?_)
                            obtain ⟨F79, R80, rfl, oF79, oR80, cF79, cR80, hx78⟩ := h77
                            have hk81 := k_ls2 hk74 hx78
                            have fF79 : g_fr md_X0_tick F F79 := g_fr_c fF52 cF79 rfl
                            have fR80 : g_fr mr_X0_tick R R80 := g_fr_c fR53 cR80 rfl
                            exact J187 F79 R80 oF79 fF79 oR80 fR80 hk81
                    refine g_lsub [2, 1, 0] [(0, .ref (ad 37)), (2, .int r46), (3, .int 0)] rfl ?_
                    exact J168 8589934592 F42 R43 0 oF42 fF42 oR43 fR43 (jv_w (jv_k (x := 0) 0 (by decide)) (by decide)) hk50 (show (2147483647 - (0 : Int32).toInt).toNat < 8589934592 from by have q0 := (jv_k (x := 0) 0 (by decide)).1; have q1 := (jv_k (x := 0) 0 (by decide)).2; omega)
                  refine g_icmp_ge cx 158 e_X0_tick_123 (by decide) (fun zc82 => ?_) (fun zc82 => ?_)
                  · have p83 := gn_le (-2147483648) 10 (gc_le zc82) (jv_t (F42 602)) zx44.2 (by decide)
                    have hk84 := hk45.trans (if_pos zc82)
                    refine g_lsub [0] [(0, .ref (ad 37))] rfl ?_
                    exact J158  hk84
                  · have p85 := gn_gt 2 2147483647 (gc_nle zc82) (jv_t (F42 602)) zx44.2 (by decide)
                    have hk86 := hk45.trans (if_neg zc82)
                    refine g_iload_n cx 1 rfl e_X0_tick_126 ?_
                    refine g_iconst cx 1 (by decide) e_X0_tick_127 ?_
                    refine g_iadd cx e_X0_tick_128 ?_
                    refine g_topi (fun x87 ex87 => ?_)
                    have hk88 := k_ls hk86 ex87
                    have zx87 := jv_add 1 10 ex87 py41 (jv_k (x := 1) 1 (by decide)) (by decide)
                    refine g_bipush cx 10 (by decide) e_X0_tick_129 ?_
                    refine g_icmp_ge cx 158 e_X0_tick_131 (by decide) (fun zc89 => ?_) (fun zc89 => ?_)
                    · have p90 := gn_ge 10 10 (gc_le zc89) zx87.2 (jv_k (x := 10) 10 (by decide)) (by decide)
                      have p91 : jv 9 9 y41 := ⟨by have q0 := (jv_k (x := 1) 1 (by decide)).1; have q1 := (jv_k (x := 1) 1 (by decide)).2; have q2 := (jv_k (x := 10) 10 (by decide)).1; have q3 := (jv_k (x := 10) 10 (by decide)).2; have q4 := zx44.2.1; have q5 := zx44.2.2; have q6 := p90.1; have q7 := p90.2; have q8 := py41.1; have q9 := py41.2; have q10 := (g_eq0 zx44.1); have q11 := (g_eq0 zx87.1); have q12 := (gc_le zc89); omega, by have q0 := (jv_k (x := 1) 1 (by decide)).1; have q1 := (jv_k (x := 1) 1 (by decide)).2; have q2 := (jv_k (x := 10) 10 (by decide)).1; have q3 := (jv_k (x := 10) 10 (by decide)).2; have q4 := zx44.2.1; have q5 := zx44.2.2; have q6 := p90.1; have q7 := p90.2; have q8 := py41.1; have q9 := py41.2; have q10 := (g_eq0 zx44.1); have q11 := (g_eq0 zx87.1); have q12 := (gc_le zc89); omega⟩
                      have hk92 := hk88.trans (if_pos zc89)
                      refine g_lsub [0] [(0, .ref (ad 37))] rfl ?_
                      exact J158  hk92
                    · have p93 := gn_lt 1 9 (gc_nle zc89) zx87.2 (jv_k (x := 10) 10 (by decide)) (by decide)
                      have p94 : jv 0 8 y41 := ⟨by have q0 := (jv_k (x := 1) 1 (by decide)).1; have q1 := (jv_k (x := 1) 1 (by decide)).2; have q2 := (jv_k (x := 10) 10 (by decide)).1; have q3 := (jv_k (x := 10) 10 (by decide)).2; have q4 := zx44.2.1; have q5 := zx44.2.2; have q6 := p93.1; have q7 := p93.2; have q8 := py41.1; have q9 := py41.2; have q10 := (g_eq0 zx44.1); have q11 := (g_eq0 zx87.1); have q12 := (gc_nle zc89); omega, by have q0 := (jv_k (x := 1) 1 (by decide)).1; have q1 := (jv_k (x := 1) 1 (by decide)).2; have q2 := (jv_k (x := 10) 10 (by decide)).1; have q3 := (jv_k (x := 10) 10 (by decide)).2; have q4 := zx44.2.1; have q5 := zx44.2.2; have q6 := p93.1; have q7 := p93.2; have q8 := py41.1; have q9 := py41.2; have q10 := (g_eq0 zx44.1); have q11 := (g_eq0 zx87.1); have q12 := (gc_nle zc89); omega⟩
                      have hk95 := hk88.trans (if_neg zc89)
                      refine g_aload_n cx 0 rfl e_X0_tick_134 ?_
                      refine g_aload_n cx 0 rfl e_X0_tick_135 ?_
                      refine g_get cx cl_X0 fl_X0_46 37 (.ref (ad 40)) e_X0_tick_136 rfl rfl ?_
                      refine g_iload_n cx 1 rfl e_X0_tick_139 ?_
                      refine g_iald cx 40 e_X0_tick_140 rfl (jv_ix 10 p94 (by decide)) ?_
                      refine g_topi (fun x96 ex96 => ?_)
                      have hk97 := k_ls hk95 ex96
                      refine g_aload_n cx 0 rfl e_X0_tick_141 ?_
                      refine g_get cx cl_X0 fl_X0_46 37 (.ref (ad 40)) e_X0_tick_142 rfl rfl ?_
                      refine g_iload_n cx 1 rfl e_X0_tick_145 ?_
                      refine g_iconst cx 1 (by decide) e_X0_tick_146 ?_
                      refine g_iadd cx e_X0_tick_147 ?_
                      refine g_topi (fun x98 ex98 => ?_)
                      have hk99 := k_ls hk97 ex98
                      have zx98 := jv_add 1 9 ex98 p94 (jv_k (x := 1) 1 (by decide)) (by decide)
                      refine g_iald cx 40 e_X0_tick_148 rfl (jv_ix 10 zx98.2 (by decide)) ?_
                      refine g_topi (fun x100 ex100 => ?_)
                      have hk101 := k_ls hk99 ex100
                      refine g_cVvW cx [.int x96, .int x100] [] (w_X0_touch l X ad F42 R43 oF42 oR43 x96 x100) ml_X0_126 yV_X0_touch e_X0_tick_149 (by unfold g_rr; decide) (by decide) 37 rfl rfl rfl (Nat.le_of_ble_eq_true rfl) (fun w103 h104 => ?_)
                      obtain ⟨F106, R107, rfl, oF106, oR107, cF106, cR107, hx105⟩ := h104
                      have hk108 := k_ls2 hk101 hx105
                      have fF106 : g_fr md_X0_tick F F106 := g_fr_c fF42 cF106 rfl
                      have fR107 : g_fr mr_X0_tick R R107 := g_fr_c fR43 cR107 rfl
                      obtain ⟨x109, ex109⟩ : ∃ z : Int32, z = y41 + Int32.ofInt 1 := ⟨_, rfl⟩
                      have hk110 := k_ls hk108 (show x109 = y41 + 1 from ex109)
                      refine g_iinc cx x109 [(3, .int x109), (0, .ref (ad 37))] 1 e_X0_tick_152 rfl ex109.symm (by decide) rfl ?_
                      have zx109 := jv_add 1 9 (show x109 = y41 + 1 from ex109) p94 (jv_k (x := 1) 1 (by decide)) (by decide)
                      refine g_goto cx 116 e_X0_tick_155 (by decide) ?_
                      refine g_lsub [1, 0] [(0, .ref (ad 37)), (3, .int x109)] rfl ?_
                      exact ih116 F106 R107 x109 oF106 fF106 oR107 fR107 (jv_w zx109.2 (by decide)) (hk110.trans (by rw [hb116])) (Nat.lt_of_lt_of_le (show (2147483647 - x109.toInt).toNat < (2147483647 - y41.toInt).toNat from by have q0 := (jv_k (x := 1) 1 (by decide)).1; have q1 := (jv_k (x := 1) 1 (by decide)).2; have q2 := (jv_k (x := 10) 10 (by decide)).1; have q3 := (jv_k (x := 10) 10 (by decide)).2; have q4 := p85.1; have q5 := p85.2; have q6 := zx109.2.1; have q7 := zx109.2.2; have q8 := zx44.2.1; have q9 := zx44.2.2; have q10 := p93.1; have q11 := p93.2; have q12 := zx98.2.1; have q13 := zx98.2.2; have q14 := p21.1; have q15 := p21.2; have q16 := p32.1; have q17 := p32.2; have q18 := p94.1; have q19 := p94.2; have q20 := (gc_le zc20); have q21 := (gc_le zc31); have q22 := (g_eq0 zx44.1); have q23 := (gc_nle zc82); have q24 := (g_eq0 zx87.1); have q25 := (gc_nle zc89); have q26 := (g_eq0 zx98.1); have q27 := (g_eq0 zx109.1); omega) (Nat.le_of_lt_succ hm116))
              refine g_lsub [1, 0] [(0, .ref (ad 37)), (3, .int 0)] rfl ?_
              exact J116 8589934592 F38 R39 0 oF38 fF38 oR39 fR39 (jv_w (jv_k (x := 0) 0 (by decide)) (by decide)) hk40 (show (2147483647 - (0 : Int32).toInt).toNat < 8589934592 from by have q0 := (jv_k (x := 0) 0 (by decide)).1; have q1 := (jv_k (x := 0) 0 (by decide)).2; omega)
            · have p111 := gn_lt 0 9 (gc_nle zc31) py28 (jv_k (x := 10) 10 (by decide)) (by decide)
              have hk112 := hkK85.trans (if_neg zc31)
              refine g_iload_n cx 1 rfl e_X0_tick_91 ?_
              refine g_iconst cx 1 (by decide) e_X0_tick_92 ?_
              refine g_iload_n cx 2 rfl e_X0_tick_93 ?_
              refine g_ishl cx e_X0_tick_94 ?_
              refine g_topi (fun x113 ex113 => ?_)
              have hk114 := k_ls hk112 ex113
              refine g_iand cx e_X0_tick_95 ?_
              refine g_topi (fun x115 ex115 => ?_)
              have hk116 := k_ls hk114 ex115
              have J104 : ∀ (F117 : Nat → Int32) (R118 : Nat → Nat → Int32), (g_ok LK_wX F117) → (g_fr md_X0_tick F F117) → (g_okR LA_wX R118) → (g_fr mr_X0_tick R R118) → (SP = K_X0_tick_104 b85 y28 F117 R118) → G X E 5 0 0 (wX X ad F117 R118) [(0, .ref (ad 37)), (2, .int r23), (3, .int y28)] 104 [] := by
                intro F117 R118 oF117 fF117 oR118 fR118 hkJ104
                unfold K_X0_tick_104 at hkJ104
                obtain ⟨x119, ex119⟩ : ∃ z : Int32, z = y28 + Int32.ofInt 1 := ⟨_, rfl⟩
                have hk120 := k_ls hkJ104 (show x119 = y28 + 1 from ex119)
                refine g_iinc cx x119 [(3, .int x119), (0, .ref (ad 37)), (2, .int r23)] 2 e_X0_tick_104 rfl ex119.symm (by decide) rfl ?_
                have zx119 := jv_add 1 10 (show x119 = y28 + 1 from ex119) p111 (jv_k (x := 1) 1 (by decide)) (by decide)
                refine g_goto cx 85 e_X0_tick_107 (by decide) ?_
                refine g_lsub [1, 2, 0] [(0, .ref (ad 37)), (2, .int r23), (3, .int x119)] rfl ?_
                exact ih85 F117 R118 x119 oF117 fF117 oR118 fR118 (jv_w zx119.2 (by decide)) (hk120.trans (by rw [hb85])) (Nat.lt_of_lt_of_le (show (2147483647 - x119.toInt).toNat < (2147483647 - y28.toInt).toNat from by have q0 := (jv_k (x := 1) 1 (by decide)).1; have q1 := (jv_k (x := 1) 1 (by decide)).2; have q2 := (jv_k (x := 10) 10 (by decide)).1; have q3 := (jv_k (x := 10) 10 (by decide)).2; have q4 := zx119.2.1; have q5 := zx119.2.2; have q6 := p21.1; have q7 := p21.2; have q8 := p111.1; have q9 := p111.2; have q10 := (gc_le zc20); have q11 := (gc_nle zc31); have q12 := (g_eq0 zx119.1); omega) (Nat.le_of_lt_succ hm85))
              refine g_if_eq cx 104 e_X0_tick_96 (by decide) (fun zc121 => ?_) (fun zc121 => ?_)
              · have p122 := gn_eq 0 0 (gc_eq zc121) (jv_t x115) (jv_k (x := 0) 0 (by decide)) (by decide)
                have hk123 := hk116.trans (if_pos zc121)
                exact J104 F29 R30 oF29 fF29 oR30 fR30 hk123
              · have hk124 := hk116.trans (if_neg zc121)
                refine g_aload_n cx 0 rfl e_X0_tick_99 ?_
                refine g_iload_n cx 2 rfl e_X0_tick_100 ?_
                refine g_cVvW cx [.int y28] [] (w_X0_slide l X ad F29 R30 oF29 oR30 y28 p111) ml_X0_120 yV_X0_slide e_X0_tick_101 (by unfold g_rr; decide) (by decide) 37 rfl rfl rfl (Nat.le_of_ble_eq_true rfl) (fun w126 h127 => ?_)
                obtain ⟨F129, R130, rfl, oF129, oR130, cF129, cR130, hx128⟩ := h127
                have hk131 := k_ls2 hk124 hx128
                have fF129 : g_fr md_X0_tick F F129 := g_fr_c fF29 cF129 rfl
                have fR130 : g_fr mr_X0_tick R R130 := g_fr_c fR30 cR130 rfl
                exact J104 F129 R130 oF129 fF129 oR130 fR130 hk131
        refine g_lsub [2, 1, 0] [(0, .ref (ad 37)), (2, .int r23), (3, .int 0)] rfl ?_
        exact J85 8589934592 F18 R19 0 oF18 fF18 oR19 fR19 (jv_w (jv_k (x := 0) 0 (by decide)) (by decide)) hk27 (show (2147483647 - (0 : Int32).toInt).toNat < 8589934592 from by have q0 := (jv_k (x := 0) 0 (by decide)).1; have q1 := (jv_k (x := 0) 0 (by decide)).2; omega)
      · have p132 := gn_lt 0 9 (gc_nle zc20) py17 (jv_k (x := 10) 10 (by decide)) (by decide)
        have hk133 := hkK25.trans (if_neg zc20)
        refine g_iload_n cx 1 rfl e_X0_tick_31 ?_
        refine g_iconst cx 1 (by decide) e_X0_tick_32 ?_
        refine g_iload_n cx 2 rfl e_X0_tick_33 ?_
        refine g_ishl cx e_X0_tick_34 ?_
        refine g_topi (fun x134 ex134 => ?_)
        have hk135 := k_ls hk133 ex134
        refine g_iand cx e_X0_tick_35 ?_
        refine g_topi (fun x136 ex136 => ?_)
        have hk137 := k_ls hk135 ex136
        have J69 : ∀ (F138 : Nat → Int32) (R139 : Nat → Nat → Int32), (g_ok LK_wX F138) → (g_fr md_X0_tick F F138) → (g_okR LA_wX R139) → (g_fr mr_X0_tick R R139) → (SP = K_X0_tick_69 b25 y17 F138 R139) → G X E 5 0 0 (wX X ad F138 R139) [(0, .ref (ad 37)), (2, .int r12), (3, .int y17)] 69 [] := by
          intro F138 R139 oF138 fF138 oR139 fR139 hkJ69
          unfold K_X0_tick_69 at hkJ69
          obtain ⟨x140, ex140⟩ : ∃ z : Int32, z = y17 + Int32.ofInt 1 := ⟨_, rfl⟩
          have hk141 := k_ls hkJ69 (show x140 = y17 + 1 from ex140)
          refine g_iinc cx x140 [(3, .int x140), (0, .ref (ad 37)), (2, .int r12)] 2 e_X0_tick_69 rfl ex140.symm (by decide) rfl ?_
          have zx140 := jv_add 1 10 (show x140 = y17 + 1 from ex140) p132 (jv_k (x := 1) 1 (by decide)) (by decide)
          refine g_goto cx 25 e_X0_tick_72 (by decide) ?_
          refine g_lsub [1, 2, 0] [(0, .ref (ad 37)), (2, .int r12), (3, .int x140)] rfl ?_
          exact ih25 F138 R139 x140 oF138 fF138 oR139 fR139 (jv_w zx140.2 (by decide)) (hk141.trans (by rw [hb25])) (Nat.lt_of_lt_of_le (show (2147483647 - x140.toInt).toNat < (2147483647 - y17.toInt).toNat from by have q0 := (jv_k (x := 1) 1 (by decide)).1; have q1 := (jv_k (x := 1) 1 (by decide)).2; have q2 := (jv_k (x := 10) 10 (by decide)).1; have q3 := (jv_k (x := 10) 10 (by decide)).2; have q4 := zx140.2.1; have q5 := zx140.2.2; have q6 := p132.1; have q7 := p132.2; have q8 := (gc_nle zc20); have q9 := (g_eq0 zx140.1); omega) (Nat.le_of_lt_succ hm25))
        refine g_if_eq cx 69 e_X0_tick_36 (by decide) (fun zc142 => ?_) (fun zc142 => ?_)
        · have p143 := gn_eq 0 0 (gc_eq zc142) (jv_t x136) (jv_k (x := 0) 0 (by decide)) (by decide)
          have hk144 := hk137.trans (if_pos zc142)
          exact J69 F18 R19 oF18 fF18 oR19 fR19 hk144
        · have hk145 := hk137.trans (if_neg zc142)
          refine g_aload_n cx 0 rfl e_X0_tick_39 ?_
          refine g_get cx cl_X0 fl_X0_39 37 (.ref (ad 38)) e_X0_tick_40 rfl rfl ?_
          refine g_iload_n cx 2 rfl e_X0_tick_43 ?_
          refine g_iald cx 38 e_X0_tick_44 rfl (jv_ix 10 p132 (by decide)) ?_
          refine g_topi (fun x146 ex146 => ?_)
          have hk147 := k_ls hk145 ex146
          refine g_istore cx [(4, .int x146), (0, .ref (ad 37)), (2, .int r12), (3, .int y17)] e_X0_tick_45 (by decide) rfl ?_
          refine g_aload_n cx 1 rfl e_X0_tick_47 ?_
          refine g_iload_n cx 3 rfl e_X0_tick_48 ?_
          refine g_cVvW cx [.int y17] [] (w_X0_feelCloth l X ad F18 R19 oF18 oR19 y17 p132) ml_X0_108 yV_X0_feelCloth e_X0_tick_49 (by unfold g_rr; decide) (by decide) 37 rfl rfl rfl (Nat.le_of_ble_eq_true rfl) (fun w149 h150 => ?_)
          obtain ⟨F152, R153, rfl, oF152, oR153, cF152, cR153, hx151⟩ := h150
          have hk154 := k_ls2 hk147 hx151
          have fF152 : g_fr md_X0_tick F F152 := g_fr_c fF18 cF152 rfl
          have fR153 : g_fr mr_X0_tick R R153 := g_fr_c fR19 cR153 rfl
          refine g_aload_n cx 1 rfl e_X0_tick_52 ?_
          refine g_iload_n cx 3 rfl e_X0_tick_53 ?_
          refine g_aload_n cx 1 rfl e_X0_tick_54 ?_
          refine g_get cx cl_X0 fl_X0_39 37 (.ref (ad 38)) e_X0_tick_55 rfl rfl ?_
          refine g_iload_n cx 3 rfl e_X0_tick_58 ?_
          refine g_iald cx 38 e_X0_tick_59 rfl (jv_ix 10 p132 (by decide)) ?_
          refine g_topi (fun x155 ex155 => ?_)
          have hk156 := k_ls hk154 ex155
          refine g_iload cx 0 rfl e_X0_tick_60 ?_
          refine g_isub cx e_X0_tick_62 ?_
          refine g_topi (fun x157 ex157 => ?_)
          have hk158 := k_ls hk156 ex157
          refine g_mabs cx ml_X0_111 e_X0_tick_63 ⟨Nat.le_of_ble_eq_true rfl, Nat.le_of_ble_eq_true rfl⟩ (by decide) ?_
          refine g_topi (fun x159 ex159 => ?_)
          have hk160 := k_ls hk158 ex159
          refine g_cVvW cx [.int y17, .int x159] [] (w_X0_shake l X ad F152 R153 oF152 oR153 y17 x159 p132) ml_X0_116 yV_X0_shake e_X0_tick_66 (by unfold g_rr; decide) (by decide) 37 rfl rfl rfl (Nat.le_of_ble_eq_true rfl) (fun w162 h163 => ?_)
          obtain ⟨F165, R166, rfl, oF165, oR166, cF165, cR166, hx164⟩ := h163
          have hk167 := k_ls2 hk160 hx164
          have fF165 : g_fr md_X0_tick F F165 := g_fr_c fF152 cF165 rfl
          have fR166 : g_fr mr_X0_tick R R166 := g_fr_c fR153 cR166 rfl
          refine g_lsub [1, 2, 3] [(0, .ref (ad 37)), (2, .int r12), (3, .int y17)] rfl ?_
          exact J69 F165 R166 oF165 fF165 oR166 fR166 hk167
  refine g_lsub [2, 1, 0] [(0, .ref (ad 37)), (2, .int r12), (3, .int 0)] rfl ?_
  exact J25 8589934592 F10 R6 0 oF10 fF10 oR6 fR6 (jv_w (jv_k (x := 0) 0 (by decide)) (by decide)) hk16 (show (2147483647 - (0 : Int32).toInt).toNat < 8589934592 from by have q0 := (jv_k (x := 0) 0 (by decide)).1; have q1 := (jv_k (x := 0) 0 (by decide)).2; omega)
def K_X0_moves_35 (b10 : (Int32) → Int32) (y6 : Int32)  : Int32 :=
  k_lt (y6 + 1) (fun x14 => b10 x14)
def KB_X0_moves_10 (b10 : (Int32) → Int32) (R : Nat → Nat → Int32) (r1 : Int32) (y6 : Int32) : Int32 :=
  if 10 ≤ y6 then 0 else k_lt (R 38 (Int32.toNatClampNeg y6)) (fun x12 => if x12 ≤ 0 then K_X0_moves_35 b10 y6 else k_lt (1 <<< (y6 &&& 31)) (fun x21 => k_lt (r1 &&& x21) (fun x23 => if x23 = 0 then K_X0_moves_35 b10 y6 else 1)))
def K_X0_moves_10 (R : Nat → Nat → Int32) (r1 : Int32) : Nat → (Int32) → Int32
  | 0 => fun _ => 0
  | n + 1 => KB_X0_moves_10 (K_X0_moves_10 R r1 n) R r1
def sp_X0_moves (F : Nat → Int32) (R : Nat → Nat → Int32) : Int32 :=
  k_lt (sp_X4_standingSet F R) (fun r1 => K_X0_moves_10 R r1 8589934592 0)
theorem e_X0_moves_0 : g_dc cX0_moves 0 (.aload_n 0) 1 1 := ⟨by decide +kernel, rfl⟩
theorem e_X0_moves_1 : g_dc cX0_moves 1 (.getfield 35) 3 4 := ⟨by decide +kernel, rfl⟩
theorem e_X0_moves_4 : g_dc cX0_moves 4 (.invokevirtual 101) 3 7 := ⟨by decide +kernel, rfl⟩
theorem e_X0_moves_7 : g_dc cX0_moves 7 (.istore_n 1) 1 8 := ⟨by decide +kernel, rfl⟩
theorem e_X0_moves_8 : g_dc cX0_moves 8 (.iconst 0) 1 9 := ⟨by decide +kernel, rfl⟩
theorem e_X0_moves_9 : g_dc cX0_moves 9 (.istore_n 2) 1 10 := ⟨by decide +kernel, rfl⟩
theorem e_X0_moves_10 : g_dc cX0_moves 10 (.iload_n 2) 1 11 := ⟨by decide +kernel, rfl⟩
theorem e_X0_moves_11 : g_dc cX0_moves 11 (.bipush 10) 2 13 := ⟨by decide +kernel, rfl⟩
theorem e_X0_moves_13 : g_dc cX0_moves 13 (.if_icmp .ge 28) 3 16 := ⟨by decide +kernel, rfl⟩
theorem e_X0_moves_16 : g_dc cX0_moves 16 (.aload_n 0) 1 17 := ⟨by decide +kernel, rfl⟩
theorem e_X0_moves_17 : g_dc cX0_moves 17 (.getfield 39) 3 20 := ⟨by decide +kernel, rfl⟩
theorem e_X0_moves_20 : g_dc cX0_moves 20 (.iload_n 2) 1 21 := ⟨by decide +kernel, rfl⟩
theorem e_X0_moves_21 : g_dc cX0_moves 21 (.iaload) 1 22 := ⟨by decide +kernel, rfl⟩
theorem e_X0_moves_22 : g_dc cX0_moves 22 (.ifCond .le 13) 3 25 := ⟨by decide +kernel, rfl⟩
theorem e_X0_moves_25 : g_dc cX0_moves 25 (.iload_n 1) 1 26 := ⟨by decide +kernel, rfl⟩
theorem e_X0_moves_26 : g_dc cX0_moves 26 (.iconst 1) 1 27 := ⟨by decide +kernel, rfl⟩
theorem e_X0_moves_27 : g_dc cX0_moves 27 (.iload_n 2) 1 28 := ⟨by decide +kernel, rfl⟩
theorem e_X0_moves_28 : g_dc cX0_moves 28 (.ishl) 1 29 := ⟨by decide +kernel, rfl⟩
theorem e_X0_moves_29 : g_dc cX0_moves 29 (.iand) 1 30 := ⟨by decide +kernel, rfl⟩
theorem e_X0_moves_30 : g_dc cX0_moves 30 (.ifCond .eq 5) 3 33 := ⟨by decide +kernel, rfl⟩
theorem e_X0_moves_33 : g_dc cX0_moves 33 (.iconst 1) 1 34 := ⟨by decide +kernel, rfl⟩
theorem e_X0_moves_34 : g_dc cX0_moves 34 (.ireturn) 1 35 := ⟨by decide +kernel, rfl⟩
theorem e_X0_moves_35 : g_dc cX0_moves 35 (.iinc 2 1) 3 38 := ⟨by decide +kernel, rfl⟩
theorem e_X0_moves_38 : g_dc cX0_moves 38 (.goto (-28)) 3 41 := ⟨by decide +kernel, rfl⟩
theorem e_X0_moves_41 : g_dc cX0_moves 41 (.iconst 0) 1 42 := ⟨by decide +kernel, rfl⟩
theorem e_X0_moves_42 : g_dc cX0_moves 42 (.ireturn) 1 43 := ⟨by decide +kernel, rfl⟩
set_option maxHeartbeats 4000000 in
set_option maxRecDepth 100000 in
theorem w_X0_moves (l : Launch) (X : gX) (ad : Nat → Nat) (F : Nat → Int32) (R : Nat → Nat → Int32) (hI : g_ok LK_wX F) (hA : g_okR LA_wX R) : g_Ci l X yX0_moves cX0_moves 3 (some .boolean) 2 0 0 [.ref (ad 37)] (wX X ad F R) (fun r w => w = wX X ad F R ∧ jv 0 1 r ∧ r = sp_X0_moves F R) := by
  refine g_mi (by decide +kernel) (Nat.le_of_ble_eq_true rfl) (fun E cx hret => ?_)
  obtain ⟨SP, hSP⟩ : ∃ z, z = sp_X0_moves F R := ⟨_, rfl⟩
  have hk0 := hSP
  unfold sp_X0_moves at hk0
  refine g_aload_n cx 0 rfl e_X0_moves_0 ?_
  refine g_get cx cl_X0 fl_X0_35 37 (.ref (ad 43)) e_X0_moves_1 rfl rfl ?_
  refine g_cViW cx [] [] (w_X4_standingSet l X ad F R hI hA) ml_X0_101 yV_X4_standingSet e_X0_moves_4 (by unfold g_rr; decide) (by decide) 43 rfl rfl rfl (Nat.le_of_ble_eq_true rfl) (fun r1 w2 h3 => ?_)
  obtain ⟨rfl, pr1, hx4⟩ := h3
  have hk5 := k_ls hk0 hx4
  refine g_istore_n cx [(1, .int r1), (0, .ref (ad 37))] e_X0_moves_7 (by decide) rfl ?_
  refine g_iconst cx 0 (by decide) e_X0_moves_8 ?_
  refine g_istore_n cx [(2, .int 0), (1, .int r1), (0, .ref (ad 37))] e_X0_moves_9 (by decide) rfl ?_
  have J10 : ∀ (N : Nat) (y6 : Int32), (jv 0 10 y6) → (SP = K_X0_moves_10 R r1 N y6) → (2147483647 - y6.toInt).toNat < N → G X E 3 0 0 (wX X ad F R) [(0, .ref (ad 37)), (1, .int r1), (2, .int y6)] 10 [] := by
    intro N
    induction N with
    | zero => intro y6 py6 hkJ10 hm; exact absurd hm (Nat.not_lt_zero _)
    | succ N ih10 =>
      intro y6 py6 hkJ10 hm10
      have hkK10 : SP = KB_X0_moves_10 (K_X0_moves_10 R r1 N) R r1 y6 := hkJ10
      obtain ⟨b10, hb10⟩ : ∃ z, z = K_X0_moves_10 R r1 N := ⟨_, rfl⟩
      rw [← hb10] at hkK10
      unfold KB_X0_moves_10 at hkK10
      refine g_iload_n cx 2 rfl e_X0_moves_10 ?_
      refine g_bipush cx 10 (by decide) e_X0_moves_11 ?_
      refine g_icmp_ge cx 41 e_X0_moves_13 (by decide) (fun zc7 => ?_) (fun zc7 => ?_)
      · have p8 := gn_ge 10 10 (gc_le zc7) py6 (jv_k (x := 10) 10 (by decide)) (by decide)
        have hk9 := hkK10.trans (if_pos zc7)
        refine g_iconst cx 0 (by decide) e_X0_moves_41 ?_
        exact hret e_X0_moves_42 (Nat.le_of_ble_eq_true rfl) (Nat.le_of_ble_eq_true rfl) rfl ⟨rfl, (jv_w (jv_k (x := 0) 0 (by decide)) (by decide)), (hk9.symm.trans hSP)⟩
      · have p10 := gn_lt 0 9 (gc_nle zc7) py6 (jv_k (x := 10) 10 (by decide)) (by decide)
        have hk11 := hkK10.trans (if_neg zc7)
        refine g_aload_n cx 0 rfl e_X0_moves_16 ?_
        refine g_get cx cl_X0 fl_X0_39 37 (.ref (ad 38)) e_X0_moves_17 rfl rfl ?_
        refine g_iload_n cx 2 rfl e_X0_moves_20 ?_
        refine g_iald cx 38 e_X0_moves_21 rfl (jv_ix 10 p10 (by decide)) ?_
        refine g_topi (fun x12 ex12 => ?_)
        have hk13 := k_ls hk11 ex12
        have J35 : (SP = K_X0_moves_35 b10 y6) → G X E 3 0 0 (wX X ad F R) [(0, .ref (ad 37)), (1, .int r1), (2, .int y6)] 35 [] := by
          intro   hkJ35
          unfold K_X0_moves_35 at hkJ35
          obtain ⟨x14, ex14⟩ : ∃ z : Int32, z = y6 + Int32.ofInt 1 := ⟨_, rfl⟩
          have hk15 := k_ls hkJ35 (show x14 = y6 + 1 from ex14)
          refine g_iinc cx x14 [(2, .int x14), (0, .ref (ad 37)), (1, .int r1)] 2 e_X0_moves_35 rfl ex14.symm (by decide) rfl ?_
          have zx14 := jv_add 1 10 (show x14 = y6 + 1 from ex14) p10 (jv_k (x := 1) 1 (by decide)) (by decide)
          refine g_goto cx 10 e_X0_moves_38 (by decide) ?_
          refine g_lsub [1, 2, 0] [(0, .ref (ad 37)), (1, .int r1), (2, .int x14)] rfl ?_
          exact ih10 x14 (jv_w zx14.2 (by decide)) (hk15.trans (by rw [hb10])) (Nat.lt_of_lt_of_le (show (2147483647 - x14.toInt).toNat < (2147483647 - y6.toInt).toNat from by have q0 := (jv_k (x := 1) 1 (by decide)).1; have q1 := (jv_k (x := 1) 1 (by decide)).2; have q2 := (jv_k (x := 10) 10 (by decide)).1; have q3 := (jv_k (x := 10) 10 (by decide)).2; have q4 := zx14.2.1; have q5 := zx14.2.2; have q6 := p10.1; have q7 := p10.2; have q8 := (gc_nle zc7); have q9 := (g_eq0 zx14.1); omega) (Nat.le_of_lt_succ hm10))
        refine g_if_le cx 35 e_X0_moves_22 (by decide) (fun zc16 => ?_) (fun zc16 => ?_)
        · have p17 := gn_le (-2147483648) 0 (gc_le zc16) (jv_t x12) (jv_k (x := 0) 0 (by decide)) (by decide)
          have hk18 := hk13.trans (if_pos zc16)
          exact J35  hk18
        · have p19 := gn_gt 1 2147483647 (gc_nle zc16) (jv_t x12) (jv_k (x := 0) 0 (by decide)) (by decide)
          have hk20 := hk13.trans (if_neg zc16)
          refine g_iload_n cx 1 rfl e_X0_moves_25 ?_
          refine g_iconst cx 1 (by decide) e_X0_moves_26 ?_
          refine g_iload_n cx 2 rfl e_X0_moves_27 ?_
          refine g_ishl cx e_X0_moves_28 ?_
          refine g_topi (fun x21 ex21 => ?_)
          have hk22 := k_ls hk20 ex21
          refine g_iand cx e_X0_moves_29 ?_
          refine g_topi (fun x23 ex23 => ?_)
          have hk24 := k_ls hk22 ex23
          refine g_if_eq cx 35 e_X0_moves_30 (by decide) (fun zc25 => ?_) (fun zc25 => ?_)
          · have p26 := gn_eq 0 0 (gc_eq zc25) (jv_t x23) (jv_k (x := 0) 0 (by decide)) (by decide)
            have hk27 := hk24.trans (if_pos zc25)
            exact J35  hk27
          · have hk28 := hk24.trans (if_neg zc25)
            refine g_iconst cx 1 (by decide) e_X0_moves_33 ?_
            exact hret e_X0_moves_34 (Nat.le_of_ble_eq_true rfl) (Nat.le_of_ble_eq_true rfl) rfl ⟨rfl, (jv_w (jv_k (x := 1) 1 (by decide)) (by decide)), (hk28.symm.trans hSP)⟩
  refine g_lsub [2, 1, 0] [(0, .ref (ad 37)), (1, .int r1), (2, .int 0)] rfl ?_
  exact J10 8589934592 0 (jv_w (jv_k (x := 0) 0 (by decide)) (by decide)) hk5 (show (2147483647 - (0 : Int32).toInt).toNat < 8589934592 from by have q0 := (jv_k (x := 0) 0 (by decide)).1; have q1 := (jv_k (x := 0) 0 (by decide)).2; omega)
def K_X0_run_52 (F9 : Nat → Int32) (R10 : Nat → Nat → Int32)  : (Nat → Int32) × (Nat → Nat → Int32) :=
  (F9, R10)
def K_X0_run_31 (b6 : (Nat → Int32) → (Nat → Nat → Int32) → (Int32) → (Nat → Int32) × (Nat → Nat → Int32)) (F9 : Nat → Int32) (R10 : Nat → Nat → Int32) (y8 : Int32)  : (Nat → Int32) × (Nat → Nat → Int32) :=
  k_lt2 (sp_X0_tick F9 R10 y8) (fun F20 R21 => k_lt (y8 + 1) (fun x23 => k_lt (upd F20 697 x23) (fun F25 => k_lt (y8 + 1) (fun x27 => b6 F25 R21 x27))))
def KB_X0_run_6 (b6 : (Nat → Int32) → (Nat → Nat → Int32) → (Int32) → (Nat → Int32) × (Nat → Nat → Int32)) (F : Nat → Int32) (F9 : Nat → Int32) (R10 : Nat → Nat → Int32) (y8 : Int32) : (Nat → Int32) × (Nat → Nat → Int32) :=
  if 300 ≤ y8 then K_X0_run_52 F9 R10 else if y8 < (F 241) then K_X0_run_31 b6 F9 R10 y8 else k_lt (sp_X0_moves F9 R10) (fun r34 => if r34 = 0 then K_X0_run_52 F9 R10 else K_X0_run_31 b6 F9 R10 y8)
def K_X0_run_6 (F : Nat → Int32) : Nat → (Nat → Int32) → (Nat → Nat → Int32) → (Int32) → (Nat → Int32) × (Nat → Nat → Int32)
  | 0 => fun F9 R10 _ => (F9, R10)
  | n + 1 => KB_X0_run_6 (K_X0_run_6 F n) F
def sp_X0_run (F : Nat → Int32) (R : Nat → Nat → Int32) : (Nat → Int32) × (Nat → Nat → Int32) :=
  k_lt2 (sp_X0_begin F R) (fun F5 R6 => K_X0_run_6 F 8589934592 F5 R6 0)
theorem e_X0_run_0 : g_dc cX0_run 0 (.aload_n 0) 1 1 := ⟨by decide +kernel, rfl⟩
theorem e_X0_run_1 : g_dc cX0_run 1 (.invokevirtual 75) 3 4 := ⟨by decide +kernel, rfl⟩
theorem e_X0_run_4 : g_dc cX0_run 4 (.iconst 0) 1 5 := ⟨by decide +kernel, rfl⟩
theorem e_X0_run_5 : g_dc cX0_run 5 (.istore_n 1) 1 6 := ⟨by decide +kernel, rfl⟩
theorem e_X0_run_6 : g_dc cX0_run 6 (.iload_n 1) 1 7 := ⟨by decide +kernel, rfl⟩
theorem e_X0_run_7 : g_dc cX0_run 7 (.sipush 300) 3 10 := ⟨by decide +kernel, rfl⟩
theorem e_X0_run_10 : g_dc cX0_run 10 (.if_icmp .ge 42) 3 13 := ⟨by decide +kernel, rfl⟩
theorem e_X0_run_13 : g_dc cX0_run 13 (.iload_n 1) 1 14 := ⟨by decide +kernel, rfl⟩
theorem e_X0_run_14 : g_dc cX0_run 14 (.aload_n 0) 1 15 := ⟨by decide +kernel, rfl⟩
theorem e_X0_run_15 : g_dc cX0_run 15 (.getfield 21) 3 18 := ⟨by decide +kernel, rfl⟩
theorem e_X0_run_18 : g_dc cX0_run 18 (.getfield 78) 3 21 := ⟨by decide +kernel, rfl⟩
theorem e_X0_run_21 : g_dc cX0_run 21 (.if_icmp .lt 10) 3 24 := ⟨by decide +kernel, rfl⟩
theorem e_X0_run_24 : g_dc cX0_run 24 (.aload_n 0) 1 25 := ⟨by decide +kernel, rfl⟩
theorem e_X0_run_25 : g_dc cX0_run 25 (.invokevirtual 81) 3 28 := ⟨by decide +kernel, rfl⟩
theorem e_X0_run_28 : g_dc cX0_run 28 (.ifCond .eq 24) 3 31 := ⟨by decide +kernel, rfl⟩
theorem e_X0_run_31 : g_dc cX0_run 31 (.aload_n 0) 1 32 := ⟨by decide +kernel, rfl⟩
theorem e_X0_run_32 : g_dc cX0_run 32 (.iload_n 1) 1 33 := ⟨by decide +kernel, rfl⟩
theorem e_X0_run_33 : g_dc cX0_run 33 (.invokevirtual 85) 3 36 := ⟨by decide +kernel, rfl⟩
theorem e_X0_run_36 : g_dc cX0_run 36 (.aload_n 0) 1 37 := ⟨by decide +kernel, rfl⟩
theorem e_X0_run_37 : g_dc cX0_run 37 (.getfield 35) 3 40 := ⟨by decide +kernel, rfl⟩
theorem e_X0_run_40 : g_dc cX0_run 40 (.iload_n 1) 1 41 := ⟨by decide +kernel, rfl⟩
theorem e_X0_run_41 : g_dc cX0_run 41 (.iconst 1) 1 42 := ⟨by decide +kernel, rfl⟩
theorem e_X0_run_42 : g_dc cX0_run 42 (.iadd) 1 43 := ⟨by decide +kernel, rfl⟩
theorem e_X0_run_43 : g_dc cX0_run 43 (.putfield 89) 3 46 := ⟨by decide +kernel, rfl⟩
theorem e_X0_run_46 : g_dc cX0_run 46 (.iinc 1 1) 3 49 := ⟨by decide +kernel, rfl⟩
theorem e_X0_run_49 : g_dc cX0_run 49 (.goto (-43)) 3 52 := ⟨by decide +kernel, rfl⟩
theorem e_X0_run_52 : g_dc cX0_run 52 (.return_) 1 53 := ⟨by decide +kernel, rfl⟩
def md_X0_run : List Nat := [601, 602, 603, 604, 605, 606, 673, 675, 691, 692, 693, 694, 695, 696, 697, 698]
def mr_X0_run : List Nat := [23, 24, 38, 39, 40, 41, 44, 45, 46]
set_option maxHeartbeats 4000000 in
set_option maxRecDepth 100000 in
theorem w_X0_run (l : Launch) (X : gX) (ad : Nat → Nat) (F : Nat → Int32) (R : Nat → Nat → Int32) (hI : g_ok LK_wX F) (hA : g_okR LA_wX R) : g_Cv l X yX0_run cX0_run 2 6 0 0 [.ref (ad 37)] (wX X ad F R) (fun w => ∃ (F' : Nat → Int32) (R' : Nat → Nat → Int32), w = wX X ad F' R' ∧ g_ok LK_wX F' ∧ g_okR LA_wX R' ∧ g_fr md_X0_run F F' ∧ g_fr mr_X0_run R R' ∧ (F', R') = sp_X0_run F R) := by
  refine g_mv (by decide +kernel) (Nat.le_of_ble_eq_true rfl) (fun E cx hret => ?_)
  obtain ⟨SP, hSP⟩ : ∃ z, z = sp_X0_run F R := ⟨_, rfl⟩
  have hk0 := hSP
  unfold sp_X0_run at hk0
  refine g_aload_n cx 0 rfl e_X0_run_0 ?_
  refine g_cVvW cx [] [] (w_X0_begin l X ad F R hI hA) ml_X0_75 yV_X0_begin e_X0_run_1 (by unfold g_rr; decide) (by decide) 37 rfl rfl rfl (Nat.le_of_ble_eq_true rfl) (fun w2 h3 => ?_)
  obtain ⟨F5, R6, rfl, oF5, oR6, cF5, cR6, hx4⟩ := h3
  have hk7 := k_ls2 hk0 hx4
  have fF5 : g_fr md_X0_run F F5 := g_fr_c (g_fr_rf F) cF5 rfl
  have fR6 : g_fr mr_X0_run R R6 := g_fr_c (g_fr_rf R) cR6 rfl
  refine g_iconst cx 0 (by decide) e_X0_run_4 ?_
  refine g_istore_n cx [(1, .int 0), (0, .ref (ad 37))] e_X0_run_5 (by decide) rfl ?_
  have J6 : ∀ (N : Nat) (F9 : Nat → Int32) (R10 : Nat → Nat → Int32) (y8 : Int32), (g_ok LK_wX F9) → (g_fr md_X0_run F F9) → (g_okR LA_wX R10) → (g_fr mr_X0_run R R10) → (jv 0 300 y8) → (SP = K_X0_run_6 F N F9 R10 y8) → (2147483647 - y8.toInt).toNat < N → G X E 2 0 0 (wX X ad F9 R10) [(0, .ref (ad 37)), (1, .int y8)] 6 [] := by
    intro N
    induction N with
    | zero => intro F9 R10 y8 oF9 fF9 oR10 fR10 py8 hkJ6 hm; exact absurd hm (Nat.not_lt_zero _)
    | succ N ih6 =>
      intro F9 R10 y8 oF9 fF9 oR10 fR10 py8 hkJ6 hm6
      have hkK6 : SP = KB_X0_run_6 (K_X0_run_6 F N) F F9 R10 y8 := hkJ6
      obtain ⟨b6, hb6⟩ : ∃ z, z = K_X0_run_6 F N := ⟨_, rfl⟩
      rw [← hb6] at hkK6
      unfold KB_X0_run_6 at hkK6
      refine g_iload_n cx 1 rfl e_X0_run_6 ?_
      refine g_sipush cx 300 (by decide) e_X0_run_7 ?_
      have J52 : (SP = K_X0_run_52 F9 R10) → G X E 2 0 0 (wX X ad F9 R10) [] 52 [] := by
        intro   hkJ52
        unfold K_X0_run_52 at hkJ52
        exact hret e_X0_run_52 (Nat.le_of_ble_eq_true rfl) (Nat.le_of_ble_eq_true rfl) ⟨F9, R10, rfl, oF9, oR10, fF9, fR10, (hkJ52.symm.trans hSP)⟩
      refine g_icmp_ge cx 52 e_X0_run_10 (by decide) (fun zc11 => ?_) (fun zc11 => ?_)
      · have p12 := gn_ge 300 300 (gc_le zc11) py8 (jv_k (x := 300) 300 (by decide)) (by decide)
        have hk13 := hkK6.trans (if_pos zc11)
        refine g_lsub [] [] rfl ?_
        exact J52  hk13
      · have p14 := gn_lt 0 299 (gc_nle zc11) py8 (jv_k (x := 300) 300 (by decide)) (by decide)
        have hk15 := hkK6.trans (if_neg zc11)
        refine g_iload_n cx 1 rfl e_X0_run_13 ?_
        refine g_aload_n cx 0 rfl e_X0_run_14 ?_
        refine g_get cx cl_X0 fl_X0_21 37 (.ref (ad 15)) e_X0_run_15 rfl rfl ?_
        refine g_getN cx cl_X5 fn_X0_78 15 (.int (F9 241)) e_X0_run_18 rfl rfl ?_
        refine g_toi (F 241) (fF9 241 rfl) ?_
        have J31 : (SP = K_X0_run_31 b6 F9 R10 y8) → G X E 2 0 0 (wX X ad F9 R10) [(0, .ref (ad 37)), (1, .int y8)] 31 [] := by
          intro   hkJ31
          unfold K_X0_run_31 at hkJ31
          refine g_aload_n cx 0 rfl e_X0_run_31 ?_
          refine g_iload_n cx 1 rfl e_X0_run_32 ?_
          refine g_cVvW cx [.int y8] [] (w_X0_tick l X ad F9 R10 oF9 oR10 y8) ml_X0_85 yV_X0_tick e_X0_run_33 (by unfold g_rr; decide) (by decide) 37 rfl rfl rfl (Nat.le_of_ble_eq_true rfl) (fun w17 h18 => ?_)
          obtain ⟨F20, R21, rfl, oF20, oR21, cF20, cR21, hx19⟩ := h18
          have hk22 := k_ls2 hkJ31 hx19
          have fF20 : g_fr md_X0_run F F20 := g_fr_c fF9 cF20 rfl
          have fR21 : g_fr mr_X0_run R R21 := g_fr_c fR10 cR21 rfl
          refine g_aload_n cx 0 rfl e_X0_run_36 ?_
          refine g_get cx cl_X0 fl_X0_35 37 (.ref (ad 43)) e_X0_run_37 rfl rfl ?_
          refine g_iload_n cx 1 rfl e_X0_run_40 ?_
          refine g_iconst cx 1 (by decide) e_X0_run_41 ?_
          refine g_iadd cx e_X0_run_42 ?_
          refine g_topi (fun x23 ex23 => ?_)
          have hk24 := k_ls hk22 ex23
          have zx23 := jv_add 1 300 ex23 p14 (jv_k (x := 1) 1 (by decide)) (by decide)
          refine g_putN cx cl_X4 fn_X0_89 43 (wX X ad (upd F20 697 x23) R21) e_X0_run_43 rfl rfl rfl rfl (Nat.le_of_ble_eq_true rfl) rfl ?_
          obtain ⟨F25, hF25⟩ : ∃ z, z = upd F20 697 x23 := ⟨_, rfl⟩
          rw [← hF25]
          have hk26 := k_ls hk24 hF25
          have oF25 : g_ok LK_wX F25 := by rw [hF25]; exact g_ok_u oF20 rfl
          have fF25 : g_fr md_X0_run F F25 := by rw [hF25]; exact g_fr_u fF20 rfl
          obtain ⟨x27, ex27⟩ : ∃ z : Int32, z = y8 + Int32.ofInt 1 := ⟨_, rfl⟩
          have hk28 := k_ls hk26 (show x27 = y8 + 1 from ex27)
          refine g_iinc cx x27 [(1, .int x27), (0, .ref (ad 37))] 1 e_X0_run_46 rfl ex27.symm (by decide) rfl ?_
          have zx27 := jv_add 1 300 (show x27 = y8 + 1 from ex27) p14 (jv_k (x := 1) 1 (by decide)) (by decide)
          refine g_goto cx 6 e_X0_run_49 (by decide) ?_
          refine g_lsub [1, 0] [(0, .ref (ad 37)), (1, .int x27)] rfl ?_
          exact ih6 F25 R21 x27 oF25 fF25 oR21 fR21 (jv_w zx27.2 (by decide)) (hk28.trans (by rw [hb6])) (Nat.lt_of_lt_of_le (show (2147483647 - x27.toInt).toNat < (2147483647 - y8.toInt).toNat from by have q0 := (jv_k (x := 1) 1 (by decide)).1; have q1 := (jv_k (x := 1) 1 (by decide)).2; have q2 := (jv_k (x := 300) 300 (by decide)).1; have q3 := (jv_k (x := 300) 300 (by decide)).2; have q4 := zx23.2.1; have q5 := zx23.2.2; have q6 := zx27.2.1; have q7 := zx27.2.2; have q8 := p14.1; have q9 := p14.2; have q10 := (gc_nle zc11); have q11 := (g_eq0 zx23.1); have q12 := (g_eq0 zx27.1); omega) (Nat.le_of_lt_succ hm6))
        refine g_icmp_lt cx 31 e_X0_run_21 (by decide) (fun zc29 => ?_) (fun zc29 => ?_)
        · have p30 := gn_lt 0 59 (gc_lt zc29) p14 (g_ok_g hI 4 rfl) (by decide)
          have p31 := gn_gt 1 60 (gc_lt zc29) (g_ok_g hI 4 rfl) p14 (by decide)
          have hk32 := hk15.trans (if_pos zc29)
          exact J31  hk32
        · have hk33 := hk15.trans (if_neg zc29)
          refine g_aload_n cx 0 rfl e_X0_run_24 ?_
          refine g_cViW cx [] [] (w_X0_moves l X ad F9 R10 oF9 oR10) ml_X0_81 yV_X0_moves e_X0_run_25 (by unfold g_rr; decide) (by decide) 37 rfl rfl rfl (Nat.le_of_ble_eq_true rfl) (fun r34 w35 h36 => ?_)
          obtain ⟨rfl, pr34, hx37⟩ := h36
          have hk38 := k_ls hk33 hx37
          refine g_if_eq cx 52 e_X0_run_28 (by decide) (fun zc39 => ?_) (fun zc39 => ?_)
          · have p40 := gn_eq 0 0 (gc_eq zc39) pr34 (jv_k (x := 0) 0 (by decide)) (by decide)
            have hk41 := hk38.trans (if_pos zc39)
            refine g_lsub [] [] rfl ?_
            exact J52  hk41
          · have p42 := gn_neL 1 1 (gc_ne zc39) pr34 (jv_k (x := 0) 0 (by decide)) (by decide)
            have hk43 := hk38.trans (if_neg zc39)
            exact J31  hk43
  refine g_lsub [1, 0] [(0, .ref (ad 37)), (1, .int 0)] rfl ?_
  exact J6 8589934592 F5 R6 0 oF5 fF5 oR6 fR6 (jv_w (jv_k (x := 0) 0 (by decide)) (by decide)) hk7 (show (2147483647 - (0 : Int32).toInt).toNat < 8589934592 from by have q0 := (jv_k (x := 0) 0 (by decide)).1; have q1 := (jv_k (x := 0) 0 (by decide)).2; omega)
