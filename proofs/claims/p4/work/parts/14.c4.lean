theorem e_X2_ask_0 : g_dc cX2_ask 0 (.iload_n 1) 1 1 := ⟨by decide +kernel, rfl⟩
theorem e_X2_ask_1 : g_dc cX2_ask 1 (.iconst 0) 1 2 := ⟨by decide +kernel, rfl⟩
theorem e_X2_ask_2 : g_dc cX2_ask 2 (.iconst 5) 1 3 := ⟨by decide +kernel, rfl⟩
theorem e_X2_ask_3 : g_dc cX2_ask 3 (.invokestatic 46) 3 6 := ⟨by decide +kernel, rfl⟩
theorem e_X2_ask_6 : g_dc cX2_ask 6 (.ifCond .ne 5) 3 9 := ⟨by decide +kernel, rfl⟩
theorem e_X2_ask_9 : g_dc cX2_ask 9 (.iconst 0) 1 10 := ⟨by decide +kernel, rfl⟩
theorem e_X2_ask_10 : g_dc cX2_ask 10 (.ireturn) 1 11 := ⟨by decide +kernel, rfl⟩
theorem e_X2_ask_11 : g_dc cX2_ask 11 (.iconst 0) 1 12 := ⟨by decide +kernel, rfl⟩
theorem e_X2_ask_12 : g_dc cX2_ask 12 (.istore_n 2) 1 13 := ⟨by decide +kernel, rfl⟩
theorem e_X2_ask_13 : g_dc cX2_ask 13 (.iconst 0) 1 14 := ⟨by decide +kernel, rfl⟩
theorem e_X2_ask_14 : g_dc cX2_ask 14 (.istore_n 3) 1 15 := ⟨by decide +kernel, rfl⟩
theorem e_X2_ask_15 : g_dc cX2_ask 15 (.iload_n 3) 1 16 := ⟨by decide +kernel, rfl⟩
theorem e_X2_ask_16 : g_dc cX2_ask 16 (.aload_n 0) 1 17 := ⟨by decide +kernel, rfl⟩
theorem e_X2_ask_17 : g_dc cX2_ask 17 (.getfield 31) 3 20 := ⟨by decide +kernel, rfl⟩
theorem e_X2_ask_20 : g_dc cX2_ask 20 (.if_icmp .ge 52) 3 23 := ⟨by decide +kernel, rfl⟩
theorem e_X2_ask_23 : g_dc cX2_ask 23 (.iload_n 3) 1 24 := ⟨by decide +kernel, rfl⟩
theorem e_X2_ask_24 : g_dc cX2_ask 24 (.bipush 14) 2 26 := ⟨by decide +kernel, rfl⟩
theorem e_X2_ask_26 : g_dc cX2_ask 26 (.if_icmp .ge 46) 3 29 := ⟨by decide +kernel, rfl⟩
theorem e_X2_ask_29 : g_dc cX2_ask 29 (.aload_n 0) 1 30 := ⟨by decide +kernel, rfl⟩
theorem e_X2_ask_30 : g_dc cX2_ask 30 (.getfield 22) 3 33 := ⟨by decide +kernel, rfl⟩
theorem e_X2_ask_33 : g_dc cX2_ask 33 (.iload_n 3) 1 34 := ⟨by decide +kernel, rfl⟩
theorem e_X2_ask_34 : g_dc cX2_ask 34 (.iaload) 1 35 := ⟨by decide +kernel, rfl⟩
theorem e_X2_ask_35 : g_dc cX2_ask 35 (.iload_n 1) 1 36 := ⟨by decide +kernel, rfl⟩
theorem e_X2_ask_36 : g_dc cX2_ask 36 (.if_icmp .ne 30) 3 39 := ⟨by decide +kernel, rfl⟩
theorem e_X2_ask_39 : g_dc cX2_ask 39 (.aload_n 0) 1 40 := ⟨by decide +kernel, rfl⟩
theorem e_X2_ask_40 : g_dc cX2_ask 40 (.aload_n 0) 1 41 := ⟨by decide +kernel, rfl⟩
theorem e_X2_ask_41 : g_dc cX2_ask 41 (.getfield 28) 3 44 := ⟨by decide +kernel, rfl⟩
theorem e_X2_ask_44 : g_dc cX2_ask 44 (.iload_n 3) 1 45 := ⟨by decide +kernel, rfl⟩
theorem e_X2_ask_45 : g_dc cX2_ask 45 (.iaload) 1 46 := ⟨by decide +kernel, rfl⟩
theorem e_X2_ask_46 : g_dc cX2_ask 46 (.invokevirtual 50) 3 49 := ⟨by decide +kernel, rfl⟩
theorem e_X2_ask_49 : g_dc cX2_ask 49 (.ifCond .eq 17) 3 52 := ⟨by decide +kernel, rfl⟩
theorem e_X2_ask_52 : g_dc cX2_ask 52 (.aload_n 0) 1 53 := ⟨by decide +kernel, rfl⟩
theorem e_X2_ask_53 : g_dc cX2_ask 53 (.aload_n 0) 1 54 := ⟨by decide +kernel, rfl⟩
theorem e_X2_ask_54 : g_dc cX2_ask 54 (.getfield 25) 3 57 := ⟨by decide +kernel, rfl⟩
theorem e_X2_ask_57 : g_dc cX2_ask 57 (.iload_n 3) 1 58 := ⟨by decide +kernel, rfl⟩
theorem e_X2_ask_58 : g_dc cX2_ask 58 (.iaload) 1 59 := ⟨by decide +kernel, rfl⟩
theorem e_X2_ask_59 : g_dc cX2_ask 59 (.invokevirtual 50) 3 62 := ⟨by decide +kernel, rfl⟩
theorem e_X2_ask_62 : g_dc cX2_ask 62 (.istore_n 2) 1 63 := ⟨by decide +kernel, rfl⟩
theorem e_X2_ask_63 : g_dc cX2_ask 63 (.goto 9) 3 66 := ⟨by decide +kernel, rfl⟩
theorem e_X2_ask_66 : g_dc cX2_ask 66 (.iinc 3 1) 3 69 := ⟨by decide +kernel, rfl⟩
theorem e_X2_ask_69 : g_dc cX2_ask 69 (.goto (-54)) 3 72 := ⟨by decide +kernel, rfl⟩
theorem e_X2_ask_72 : g_dc cX2_ask 72 (.getstatic 54) 3 75 := ⟨by decide +kernel, rfl⟩
theorem e_X2_ask_75 : g_dc cX2_ask 75 (.iload_n 1) 1 76 := ⟨by decide +kernel, rfl⟩
theorem e_X2_ask_76 : g_dc cX2_ask 76 (.iaload) 1 77 := ⟨by decide +kernel, rfl⟩
theorem e_X2_ask_77 : g_dc cX2_ask 77 (.iload_n 2) 1 78 := ⟨by decide +kernel, rfl⟩
theorem e_X2_ask_78 : g_dc cX2_ask 78 (.getstatic 57) 3 81 := ⟨by decide +kernel, rfl⟩
theorem e_X2_ask_81 : g_dc cX2_ask 81 (.iload_n 1) 1 82 := ⟨by decide +kernel, rfl⟩
theorem e_X2_ask_82 : g_dc cX2_ask 82 (.iaload) 1 83 := ⟨by decide +kernel, rfl⟩
theorem e_X2_ask_83 : g_dc cX2_ask 83 (.invokestatic 60) 3 86 := ⟨by decide +kernel, rfl⟩
theorem e_X2_ask_86 : g_dc cX2_ask 86 (.invokestatic 66) 3 89 := ⟨by decide +kernel, rfl⟩
theorem e_X2_ask_89 : g_dc cX2_ask 89 (.ireturn) 1 90 := ⟨by decide +kernel, rfl⟩
def md_X2_ask_17 : List Nat := []
def mr_X2_ask_17 : List Nat := [24]
set_option maxHeartbeats 4000000 in
set_option maxRecDepth 100000 in
theorem w_X2_ask_17 (l : Launch) (X : gX) (ad : Nat → Nat) (F : Nat → Int32) (R : Nat → Nat → Int32) (hI : g_ok LK_wX F) (hA : g_okR LA_wX R) (a0 : Int32) : g_Ci l X yX2_ask cX2_ask 4 (some .int) 3 0 0 [.ref (ad 17), .int a0] (wX X ad F R) (fun r w => ∃ (F' : Nat → Int32) (R' : Nat → Nat → Int32), w = wX X ad F' R' ∧ g_ok LK_wX F' ∧ g_okR LA_wX R' ∧ g_fr md_X2_ask_17 F F' ∧ g_fr mr_X2_ask_17 R R' ∧ jv 0 999 r) := by
  refine g_mi (by decide +kernel) (Nat.le_of_ble_eq_true rfl) (fun E cx hret => ?_)
  refine g_iload_n cx 1 rfl e_X2_ask_0 ?_
  refine g_iconst cx 0 (by decide) e_X2_ask_1 ?_
  refine g_iconst cx 5 (by decide) e_X2_ask_2 ?_
  refine g_cNiW cx [.int a0, .int 0, .int 5] [] (c_X10_within l X (wX X ad F R) a0 0 5) mn_X2_46 yS_X10_within e_X2_ask_3 (by unfold g_rr; decide) (by decide) rfl (Nat.le_of_ble_eq_true rfl) (fun r1 w2 h3 => ?_)
  obtain ⟨rfl, hr1⟩ := h3
  have pr1 : jv 0 1 r1 := by rw [hr1]; exact gi_01 _ _ _
  refine g_if_ne cx 11 e_X2_ask_6 (by decide) (fun zc4 => ?_) (fun zc4 => ?_)
  · have p5 := gn_neL 1 1 (gc_ne zc4) pr1 (jv_k (x := 0) 0 (by decide)) (by decide)
    have p6 := jv_i 0 5 (jv_t a0) (gi_in (A := 0) (B := 5) hr1 zc4 (by decide) (by decide)) (by decide)
    refine g_iconst cx 0 (by decide) e_X2_ask_11 ?_
    refine g_istore_n cx [(2, .int 0), (0, .ref (ad 17)), (1, .int a0)] e_X2_ask_12 (by decide) rfl ?_
    refine g_iconst cx 0 (by decide) e_X2_ask_13 ?_
    refine g_istore_n cx [(3, .int 0), (2, .int 0), (0, .ref (ad 17)), (1, .int a0)] e_X2_ask_14 (by decide) rfl ?_
    have J15 : ∀ (N : Nat) (F8 : Nat → Int32) (R9 : Nat → Nat → Int32) (y7 : Int32), (g_ok LK_wX F8) → (g_fr md_X2_ask_17 F F8) → (g_okR LA_wX R9) → (g_fr mr_X2_ask_17 R R9) → (jv 0 14 y7) → (2147483647 - y7.toInt).toNat < N → G X E 4 0 0 (wX X ad F8 R9) [(0, .ref (ad 17)), (1, .int a0), (2, .int 0), (3, .int y7)] 15 [] := by
      intro N
      induction N with
      | zero => intro F8 R9 y7 oF8 fF8 oR9 fR9 py7 hm; exact absurd hm (Nat.not_lt_zero _)
      | succ N ih15 =>
        intro F8 R9 y7 oF8 fF8 oR9 fR9 py7 hm15
        refine g_iload_n cx 3 rfl e_X2_ask_15 ?_
        refine g_aload_n cx 0 rfl e_X2_ask_16 ?_
        refine g_get cx cl_X2 fl_X2_31 17 (.int (F8 278)) e_X2_ask_17 rfl rfl ?_
        refine g_toi (F 278) (fF8 278 rfl) ?_
        have J72 : ∀ (F11 : Nat → Int32) (R12 : Nat → Nat → Int32) (y10 : Int32), (g_ok LK_wX F11) → (g_fr md_X2_ask_17 F F11) → (g_okR LA_wX R12) → (g_fr mr_X2_ask_17 R R12) → (jv (-2147483648) 2147483647 y10) → G X E 4 0 0 (wX X ad F11 R12) [(1, .int a0), (2, .int y10)] 72 [] := by
          intro F11 R12 y10 oF11 fF11 oR12 fR12 py10
          refine g_gsL cx (host := "ClothPull") (g_in4 (List.mem_of_getElem? (i := 20) rfl)) e_X2_ask_72 ?_
          refine g_iload_n cx 0 rfl e_X2_ask_75 ?_
          refine g_tlL cx (i := a0) (jv_ix 6 p6 (by decide)) e_X2_ask_76 ?_
          refine g_topi (fun x13 ex13 => ?_)
          have px13 : jv 0 1 x13 := by rw [ex13]; exact g_tvL _
          refine g_iload_n cx 1 rfl e_X2_ask_77 ?_
          refine g_gsM cx (host := "ClothPull") (g_in4 (List.mem_of_getElem? (i := 22) rfl)) e_X2_ask_78 ?_
          refine g_iload_n cx 0 rfl e_X2_ask_81 ?_
          refine g_tlM cx (i := a0) (jv_ix 6 p6 (by decide)) e_X2_ask_82 ?_
          refine g_topi (fun x14 ex14 => ?_)
          have px14 : jv 0 999 x14 := by rw [ex14]; exact g_tvM _
          refine g_mmin cx ml_X2_60 e_X2_ask_83 ⟨Nat.le_of_ble_eq_true rfl, Nat.le_of_ble_eq_true rfl⟩ (by decide) ?_
          refine g_topi (fun x15 ex15 => ?_)
          have px15 := jv_min (-2147483648) 999 ex15 py10 px14 (by decide)
          refine g_mmax cx ml_X2_66 e_X2_ask_86 ⟨Nat.le_of_ble_eq_true rfl, Nat.le_of_ble_eq_true rfl⟩ (by decide) ?_
          refine g_topi (fun x16 ex16 => ?_)
          have px16 := jv_max 0 999 ex16 px13 px15 (by decide)
          exact hret e_X2_ask_89 (Nat.le_of_ble_eq_true rfl) (Nat.le_of_ble_eq_true rfl) rfl ⟨F11, R12, rfl, oF11, oR12, fF11, fR12, px16⟩
        refine g_icmp_ge cx 72 e_X2_ask_20 (by decide) (fun zc17 => ?_) (fun zc17 => ?_)
        · refine g_lsub [1, 2] [(1, .int a0), (2, .int 0)] rfl ?_
          exact J72 F8 R9 0 oF8 fF8 oR9 fR9 (jv_w (jv_k (x := 0) 0 (by decide)) (by decide))
        · have p18 := gn_lt 0 13 (gc_nle zc17) py7 (g_ok_g hI 7 rfl) (by decide)
          have p19 := gn_gt 1 14 (gc_nle zc17) (g_ok_g hI 7 rfl) py7 (by decide)
          refine g_iload_n cx 3 rfl e_X2_ask_23 ?_
          refine g_bipush cx 14 (by decide) e_X2_ask_24 ?_
          refine g_icmp_ge cx 72 e_X2_ask_26 (by decide) (fun zc20 => ?_) (fun zc20 => ?_)
          · exact (gf_le (gc_le zc20) (jv_k (x := 14) 14 (by decide)) p18 (by decide)).elim
          · refine g_aload_n cx 0 rfl e_X2_ask_29 ?_
            refine g_get cx cl_X2 fl_X2_22 17 (.ref (ad 20)) e_X2_ask_30 rfl rfl ?_
            refine g_iload_n cx 3 rfl e_X2_ask_33 ?_
            refine g_iald cx 20 e_X2_ask_34 rfl (jv_ix 14 p18 (by decide)) ?_
            refine g_topi (fun x21 ex21 => ?_)
            refine g_iload_n cx 1 rfl e_X2_ask_35 ?_
            have J66 : ∀ (F22 : Nat → Int32) (R23 : Nat → Nat → Int32), (g_ok LK_wX F22) → (g_fr md_X2_ask_17 F F22) → (g_okR LA_wX R23) → (g_fr mr_X2_ask_17 R R23) → G X E 4 0 0 (wX X ad F22 R23) [(0, .ref (ad 17)), (1, .int a0), (2, .int 0), (3, .int y7)] 66 [] := by
              intro F22 R23 oF22 fF22 oR23 fR23
              obtain ⟨x24, ex24⟩ : ∃ z : Int32, z = y7 + Int32.ofInt 1 := ⟨_, rfl⟩
              refine g_iinc cx x24 [(3, .int x24), (0, .ref (ad 17)), (1, .int a0), (2, .int 0)] 3 e_X2_ask_66 rfl ex24.symm (by decide) rfl ?_
              have zx24 := jv_add 1 14 (show x24 = y7 + 1 from ex24) p18 (jv_k (x := 1) 1 (by decide)) (by decide)
              refine g_goto cx 15 e_X2_ask_69 (by decide) ?_
              refine g_lsub [1, 2, 3, 0] [(0, .ref (ad 17)), (1, .int a0), (2, .int 0), (3, .int x24)] rfl ?_
              exact ih15 F22 R23 x24 oF22 fF22 oR23 fR23 (jv_w zx24.2 (by decide)) (Nat.lt_of_lt_of_le (show (2147483647 - x24.toInt).toNat < (2147483647 - y7.toInt).toNat from by have q0 := (jv_k (x := 1) 1 (by decide)).1; have q1 := (jv_k (x := 1) 1 (by decide)).2; have q2 := (jv_k (x := 14) 14 (by decide)).1; have q3 := (jv_k (x := 14) 14 (by decide)).2; have q4 := p19.1; have q5 := p19.2; have q6 := zx24.2.1; have q7 := zx24.2.2; have q8 := p18.1; have q9 := p18.2; have q10 := (gc_nle zc17); have q11 := (gc_nle zc20); have q12 := (g_eq0 zx24.1); omega) (Nat.le_of_lt_succ hm15))
            refine g_icmp_ne cx 66 e_X2_ask_36 (by decide) (fun zc25 => ?_) (fun zc25 => ?_)
            · exact J66 F8 R9 oF8 fF8 oR9 fR9
            · have p26 := gn_eq 0 5 (gc_eq zc25) (jv_t x21) p6 (by decide)
              refine g_aload_n cx 0 rfl e_X2_ask_39 ?_
              refine g_aload_n cx 0 rfl e_X2_ask_40 ?_
              refine g_get cx cl_X2 fl_X2_28 17 (.ref (ad 22)) e_X2_ask_41 rfl rfl ?_
              refine g_iload_n cx 3 rfl e_X2_ask_44 ?_
              refine g_iald cx 22 e_X2_ask_45 rfl (jv_ix 14 p18 (by decide)) ?_
              refine g_topi (fun x27 ex27 => ?_)
              refine g_cViW cx [.int x27] [] (w_X2_reckon_17 l X ad F8 R9 oF8 oR9 x27) ml_X2_50 yV_X2_reckon e_X2_ask_46 (by unfold g_rr; decide) (by decide) 17 rfl rfl rfl (Nat.le_of_ble_eq_true rfl) (fun r28 w29 h30 => ?_)
              obtain ⟨F31, R32, rfl, oF31, oR32, cF31, cR32, pr28⟩ := h30
              have fF31 : g_fr md_X2_ask_17 F F31 := g_fr_c fF8 cF31 rfl
              have fR32 : g_fr mr_X2_ask_17 R R32 := g_fr_c fR9 cR32 rfl
              refine g_if_eq cx 66 e_X2_ask_49 (by decide) (fun zc33 => ?_) (fun zc33 => ?_)
              · have p34 := gn_eq 0 0 (gc_eq zc33) pr28 (jv_k (x := 0) 0 (by decide)) (by decide)
                exact J66 F31 R32 oF31 fF31 oR32 fR32
              · refine g_aload_n cx 0 rfl e_X2_ask_52 ?_
                refine g_aload_n cx 0 rfl e_X2_ask_53 ?_
                refine g_get cx cl_X2 fl_X2_25 17 (.ref (ad 21)) e_X2_ask_54 rfl rfl ?_
                refine g_iload_n cx 3 rfl e_X2_ask_57 ?_
                refine g_iald cx 21 e_X2_ask_58 rfl (jv_ix 14 p18 (by decide)) ?_
                refine g_topi (fun x35 ex35 => ?_)
                refine g_cViW cx [.int x35] [] (w_X2_reckon_17 l X ad F31 R32 oF31 oR32 x35) ml_X2_50 yV_X2_reckon e_X2_ask_59 (by unfold g_rr; decide) (by decide) 17 rfl rfl rfl (Nat.le_of_ble_eq_true rfl) (fun r36 w37 h38 => ?_)
                obtain ⟨F39, R40, rfl, oF39, oR40, cF39, cR40, pr36⟩ := h38
                have fF39 : g_fr md_X2_ask_17 F F39 := g_fr_c fF31 cF39 rfl
                have fR40 : g_fr mr_X2_ask_17 R R40 := g_fr_c fR32 cR40 rfl
                refine g_istore_n cx [(2, .int r36), (0, .ref (ad 17)), (1, .int a0), (3, .int y7)] e_X2_ask_62 (by decide) rfl ?_
                refine g_goto cx 72 e_X2_ask_63 (by decide) ?_
                refine g_lsub [2, 0] [(1, .int a0), (2, .int r36)] rfl ?_
                exact J72 F39 R40 r36 oF39 fF39 oR40 fR40 pr36
    refine g_lsub [2, 3, 1, 0] [(0, .ref (ad 17)), (1, .int a0), (2, .int 0), (3, .int 0)] rfl ?_
    exact J15 _ F R 0 hI (g_fr_rf F) hA (g_fr_rf R) (jv_w (jv_k (x := 0) 0 (by decide)) (by decide)) (Nat.lt_succ_self _)
  · have p41 := gn_eq 0 0 (gc_eq zc4) pr1 (jv_k (x := 0) 0 (by decide)) (by decide)
    refine g_iconst cx 0 (by decide) e_X2_ask_9 ?_
    exact hret e_X2_ask_10 (Nat.le_of_ble_eq_true rfl) (Nat.le_of_ble_eq_true rfl) rfl ⟨F, R, rfl, hI, hA, (g_fr_rf F), (g_fr_rf R), (jv_w (jv_k (x := 0) 0 (by decide)) (by decide))⟩
theorem e_X2_clear_0 : g_dc cX2_clear 0 (.aload_n 0) 1 1 := ⟨by decide +kernel, rfl⟩
theorem e_X2_clear_1 : g_dc cX2_clear 1 (.iconst 0) 1 2 := ⟨by decide +kernel, rfl⟩
theorem e_X2_clear_2 : g_dc cX2_clear 2 (.putfield 18) 3 5 := ⟨by decide +kernel, rfl⟩
theorem e_X2_clear_5 : g_dc cX2_clear 5 (.aload_n 0) 1 6 := ⟨by decide +kernel, rfl⟩
theorem e_X2_clear_6 : g_dc cX2_clear 6 (.iconst 0) 1 7 := ⟨by decide +kernel, rfl⟩
theorem e_X2_clear_7 : g_dc cX2_clear 7 (.putfield 31) 3 10 := ⟨by decide +kernel, rfl⟩
theorem e_X2_clear_10 : g_dc cX2_clear 10 (.return_) 1 11 := ⟨by decide +kernel, rfl⟩
def md_X2_clear_25 : List Nat := [402, 406]
def mr_X2_clear_25 : List Nat := []
set_option maxHeartbeats 4000000 in
set_option maxRecDepth 100000 in
theorem w_X2_clear_25 (l : Launch) (X : gX) (ad : Nat → Nat) (F : Nat → Int32) (R : Nat → Nat → Int32) (hI : g_ok LK_wX F) (hA : g_okR LA_wX R) : g_Cv l X yX2_clear cX2_clear 1 1 0 0 [.ref (ad 25)] (wX X ad F R) (fun w => ∃ (F' : Nat → Int32) (R' : Nat → Nat → Int32), w = wX X ad F' R' ∧ g_ok LK_wX F' ∧ g_okR LA_wX R' ∧ g_fr md_X2_clear_25 F F' ∧ g_fr mr_X2_clear_25 R R') := by
  refine g_mv (by decide +kernel) (Nat.le_of_ble_eq_true rfl) (fun E cx hret => ?_)
  refine g_aload_n cx 0 rfl e_X2_clear_0 ?_
  refine g_iconst cx 0 (by decide) e_X2_clear_1 ?_
  refine g_put cx cl_X2 fl_X2_18 25 (wX X ad (upd F 402 0) R) e_X2_clear_2 rfl rfl rfl rfl (Nat.le_of_ble_eq_true rfl) rfl ?_
  obtain ⟨F1, hF1⟩ : ∃ z, z = upd F 402 0 := ⟨_, rfl⟩
  rw [← hF1]
  have oF1 : g_ok LK_wX F1 := by rw [hF1]; exact g_ok_p hI (jv_k (x := 0) 0 (by decide)) rfl
  have fF1 : g_fr md_X2_clear_25 F F1 := by rw [hF1]; exact g_fr_u (g_fr_rf F) rfl
  refine g_aload_n cx 0 rfl e_X2_clear_5 ?_
  refine g_iconst cx 0 (by decide) e_X2_clear_6 ?_
  refine g_put cx cl_X2 fl_X2_31 25 (wX X ad (upd F1 406 0) R) e_X2_clear_7 rfl rfl rfl rfl (Nat.le_of_ble_eq_true rfl) rfl ?_
  obtain ⟨F2, hF2⟩ : ∃ z, z = upd F1 406 0 := ⟨_, rfl⟩
  rw [← hF2]
  have oF2 : g_ok LK_wX F2 := by rw [hF2]; exact g_ok_p oF1 (jv_k (x := 0) 0 (by decide)) rfl
  have fF2 : g_fr md_X2_clear_25 F F2 := by rw [hF2]; exact g_fr_u fF1 rfl
  exact hret e_X2_clear_10 (Nat.le_of_ble_eq_true rfl) (Nat.le_of_ble_eq_true rfl) ⟨F2, R, rfl, oF2, hA, fF2, (g_fr_rf R)⟩
theorem e_X3_sign_0 : g_dc cX3_sign 0 (.aload_n 0) 1 1 := ⟨by decide +kernel, rfl⟩
theorem e_X3_sign_1 : g_dc cX3_sign 1 (.getfield 22) 3 4 := ⟨by decide +kernel, rfl⟩
theorem e_X3_sign_4 : g_dc cX3_sign 4 (.ifCond .ne 43) 3 7 := ⟨by decide +kernel, rfl⟩
theorem e_X3_sign_7 : g_dc cX3_sign 7 (.aload_n 0) 1 8 := ⟨by decide +kernel, rfl⟩
theorem e_X3_sign_8 : g_dc cX3_sign 8 (.getfield 19) 3 11 := ⟨by decide +kernel, rfl⟩
theorem e_X3_sign_11 : g_dc cX3_sign 11 (.ifCond .lt 36) 3 14 := ⟨by decide +kernel, rfl⟩
theorem e_X3_sign_14 : g_dc cX3_sign 14 (.aload_n 0) 1 15 := ⟨by decide +kernel, rfl⟩
theorem e_X3_sign_15 : g_dc cX3_sign 15 (.getfield 19) 3 18 := ⟨by decide +kernel, rfl⟩
theorem e_X3_sign_18 : g_dc cX3_sign 18 (.aload_n 0) 1 19 := ⟨by decide +kernel, rfl⟩
theorem e_X3_sign_19 : g_dc cX3_sign 19 (.getfield 15) 3 22 := ⟨by decide +kernel, rfl⟩
theorem e_X3_sign_22 : g_dc cX3_sign 22 (.if_icmp .ge 25) 3 25 := ⟨by decide +kernel, rfl⟩
theorem e_X3_sign_25 : g_dc cX3_sign 25 (.aload_n 0) 1 26 := ⟨by decide +kernel, rfl⟩
theorem e_X3_sign_26 : g_dc cX3_sign 26 (.getfield 19) 3 29 := ⟨by decide +kernel, rfl⟩
theorem e_X3_sign_29 : g_dc cX3_sign 29 (.sipush 200) 3 32 := ⟨by decide +kernel, rfl⟩
theorem e_X3_sign_32 : g_dc cX3_sign 32 (.if_icmp .ge 15) 3 35 := ⟨by decide +kernel, rfl⟩
theorem e_X3_sign_35 : g_dc cX3_sign 35 (.aload_n 0) 1 36 := ⟨by decide +kernel, rfl⟩
theorem e_X3_sign_36 : g_dc cX3_sign 36 (.getfield 9) 3 39 := ⟨by decide +kernel, rfl⟩
theorem e_X3_sign_39 : g_dc cX3_sign 39 (.aload_n 0) 1 40 := ⟨by decide +kernel, rfl⟩
theorem e_X3_sign_40 : g_dc cX3_sign 40 (.getfield 19) 3 43 := ⟨by decide +kernel, rfl⟩
theorem e_X3_sign_43 : g_dc cX3_sign 43 (.iaload) 1 44 := ⟨by decide +kernel, rfl⟩
theorem e_X3_sign_44 : g_dc cX3_sign 44 (.goto 4) 3 47 := ⟨by decide +kernel, rfl⟩
theorem e_X3_sign_47 : g_dc cX3_sign 47 (.iconst (-1)) 1 48 := ⟨by decide +kernel, rfl⟩
theorem e_X3_sign_48 : g_dc cX3_sign 48 (.ireturn) 1 49 := ⟨by decide +kernel, rfl⟩
set_option maxHeartbeats 4000000 in
set_option maxRecDepth 100000 in
theorem w_X3_sign (l : Launch) (X : gX) (ad : Nat → Nat) (F : Nat → Int32) (R : Nat → Nat → Int32) (hI : g_ok LK_wX F) (hA : g_okR LA_wX R) : g_Ci l X yX3_sign cX3_sign 1 (some .int) 1 0 0 [.ref (ad 33)] (wX X ad F R) (fun r w => w = wX X ad F R ∧ jv (-2147483648) 2147483647 r) := by
  refine g_mi (by decide +kernel) (Nat.le_of_ble_eq_true rfl) (fun E cx hret => ?_)
  refine g_aload_n cx 0 rfl e_X3_sign_0 ?_
  refine g_get cx cl_X3 fl_X3_22 33 (.int (F 532)) e_X3_sign_1 rfl rfl ?_
  have J48 : ∀ (y1 : Int32), (jv (-2147483648) 2147483647 y1) → G X E 1 0 0 (wX X ad F R) [] 48 [.int y1] := by
    intro y1 py1
    exact hret e_X3_sign_48 (Nat.le_of_ble_eq_true rfl) (Nat.le_of_ble_eq_true rfl) rfl ⟨rfl, py1⟩
  have J47 : G X E 1 0 0 (wX X ad F R) [] 47 [] := by
    refine g_iconst cx (-1) (by decide) e_X3_sign_47 ?_
    exact J48 (-1) (jv_w (jv_k (x := (-1)) (-1) (by decide)) (by decide))
  refine g_if_ne cx 47 e_X3_sign_4 (by decide) (fun zc2 => ?_) (fun zc2 => ?_)
  · refine g_lsub [] [] rfl ?_
    exact J47  
  · have p3 := gn_eq 0 0 (gc_eq zc2) (jv_t (F 532)) (jv_k (x := 0) 0 (by decide)) (by decide)
    refine g_aload_n cx 0 rfl e_X3_sign_7 ?_
    refine g_get cx cl_X3 fl_X3_19 33 (.int (F 531)) e_X3_sign_8 rfl rfl ?_
    refine g_if_lt cx 47 e_X3_sign_11 (by decide) (fun zc4 => ?_) (fun zc4 => ?_)
    · have p5 := gn_lt (-2147483648) (-1) (gc_lt zc4) (jv_t (F 531)) (jv_k (x := 0) 0 (by decide)) (by decide)
      refine g_lsub [] [] rfl ?_
      exact J47  
    · have p6 := gn_ge 0 2147483647 (gc_nlt zc4) (jv_t (F 531)) (jv_k (x := 0) 0 (by decide)) (by decide)
      refine g_aload_n cx 0 rfl e_X3_sign_14 ?_
      refine g_get cx cl_X3 fl_X3_19 33 (.int (F 531)) e_X3_sign_15 rfl rfl ?_
      refine g_aload_n cx 0 rfl e_X3_sign_18 ?_
      refine g_get cx cl_X3 fl_X3_15 33 (.int (F 530)) e_X3_sign_19 rfl rfl ?_
      refine g_icmp_ge cx 47 e_X3_sign_22 (by decide) (fun zc7 => ?_) (fun zc7 => ?_)
      · refine g_lsub [] [] rfl ?_
        exact J47  
      · have p8 := gn_lt 0 2147483646 (gc_nle zc7) p6 (jv_t (F 530)) (by decide)
        have p9 := gn_gt 1 2147483647 (gc_nle zc7) (jv_t (F 530)) p6 (by decide)
        refine g_aload_n cx 0 rfl e_X3_sign_25 ?_
        refine g_get cx cl_X3 fl_X3_19 33 (.int (F 531)) e_X3_sign_26 rfl rfl ?_
        refine g_sipush cx 200 (by decide) e_X3_sign_29 ?_
        refine g_icmp_ge cx 47 e_X3_sign_32 (by decide) (fun zc10 => ?_) (fun zc10 => ?_)
        · have p11 := gn_ge 200 2147483646 (gc_le zc10) p8 (jv_k (x := 200) 200 (by decide)) (by decide)
          refine g_lsub [] [] rfl ?_
          exact J47  
        · have p12 := gn_lt 0 199 (gc_nle zc10) p8 (jv_k (x := 200) 200 (by decide)) (by decide)
          refine g_aload_n cx 0 rfl e_X3_sign_35 ?_
          refine g_get cx cl_X3 fl_X3_9 33 (.ref (ad 34)) e_X3_sign_36 rfl rfl ?_
          refine g_aload_n cx 0 rfl e_X3_sign_39 ?_
          refine g_get cx cl_X3 fl_X3_19 33 (.int (F 531)) e_X3_sign_40 rfl rfl ?_
          refine g_iald cx 34 e_X3_sign_43 rfl (jv_ix 200 p12 (by decide)) ?_
          refine g_topi (fun x13 ex13 => ?_)
          refine g_goto cx 48 e_X3_sign_44 (by decide) ?_
          refine g_lsub [] [] rfl ?_
          exact J48 x13 (jv_t x13)
theorem e_X2_emit_0 : g_dc cX2_emit 0 (.aload_n 0) 1 1 := ⟨by decide +kernel, rfl⟩
theorem e_X2_emit_1 : g_dc cX2_emit 1 (.getfield 18) 3 4 := ⟨by decide +kernel, rfl⟩
theorem e_X2_emit_4 : g_dc cX2_emit 4 (.sipush 256) 3 7 := ⟨by decide +kernel, rfl⟩
theorem e_X2_emit_7 : g_dc cX2_emit 7 (.if_icmp .lt 5) 3 10 := ⟨by decide +kernel, rfl⟩
theorem e_X2_emit_10 : g_dc cX2_emit 10 (.iconst (-1)) 1 11 := ⟨by decide +kernel, rfl⟩
theorem e_X2_emit_11 : g_dc cX2_emit 11 (.ireturn) 1 12 := ⟨by decide +kernel, rfl⟩
theorem e_X2_emit_12 : g_dc cX2_emit 12 (.aload_n 0) 1 13 := ⟨by decide +kernel, rfl⟩
theorem e_X2_emit_13 : g_dc cX2_emit 13 (.getfield 11) 3 16 := ⟨by decide +kernel, rfl⟩
theorem e_X2_emit_16 : g_dc cX2_emit 16 (.aload_n 0) 1 17 := ⟨by decide +kernel, rfl⟩
theorem e_X2_emit_17 : g_dc cX2_emit 17 (.getfield 18) 3 20 := ⟨by decide +kernel, rfl⟩
theorem e_X2_emit_20 : g_dc cX2_emit 20 (.iload_n 1) 1 21 := ⟨by decide +kernel, rfl⟩
theorem e_X2_emit_21 : g_dc cX2_emit 21 (.iastore) 1 22 := ⟨by decide +kernel, rfl⟩
theorem e_X2_emit_22 : g_dc cX2_emit 22 (.aload_n 0) 1 23 := ⟨by decide +kernel, rfl⟩
theorem e_X2_emit_23 : g_dc cX2_emit 23 (.getfield 15) 3 26 := ⟨by decide +kernel, rfl⟩
theorem e_X2_emit_26 : g_dc cX2_emit 26 (.aload_n 0) 1 27 := ⟨by decide +kernel, rfl⟩
theorem e_X2_emit_27 : g_dc cX2_emit 27 (.getfield 18) 3 30 := ⟨by decide +kernel, rfl⟩
theorem e_X2_emit_30 : g_dc cX2_emit 30 (.iload_n 2) 1 31 := ⟨by decide +kernel, rfl⟩
theorem e_X2_emit_31 : g_dc cX2_emit 31 (.iastore) 1 32 := ⟨by decide +kernel, rfl⟩
theorem e_X2_emit_32 : g_dc cX2_emit 32 (.aload_n 0) 1 33 := ⟨by decide +kernel, rfl⟩
theorem e_X2_emit_33 : g_dc cX2_emit 33 (.dup) 1 34 := ⟨by decide +kernel, rfl⟩
theorem e_X2_emit_34 : g_dc cX2_emit 34 (.getfield 18) 3 37 := ⟨by decide +kernel, rfl⟩
theorem e_X2_emit_37 : g_dc cX2_emit 37 (.iconst 1) 1 38 := ⟨by decide +kernel, rfl⟩
theorem e_X2_emit_38 : g_dc cX2_emit 38 (.iadd) 1 39 := ⟨by decide +kernel, rfl⟩
theorem e_X2_emit_39 : g_dc cX2_emit 39 (.putfield 18) 3 42 := ⟨by decide +kernel, rfl⟩
theorem e_X2_emit_42 : g_dc cX2_emit 42 (.aload_n 0) 1 43 := ⟨by decide +kernel, rfl⟩
theorem e_X2_emit_43 : g_dc cX2_emit 43 (.getfield 18) 3 46 := ⟨by decide +kernel, rfl⟩
theorem e_X2_emit_46 : g_dc cX2_emit 46 (.iconst 1) 1 47 := ⟨by decide +kernel, rfl⟩
theorem e_X2_emit_47 : g_dc cX2_emit 47 (.isub) 1 48 := ⟨by decide +kernel, rfl⟩
theorem e_X2_emit_48 : g_dc cX2_emit 48 (.ireturn) 1 49 := ⟨by decide +kernel, rfl⟩
def md_X2_emit_25 : List Nat := [402]
def mr_X2_emit_25 : List Nat := [26, 27]
set_option maxHeartbeats 4000000 in
set_option maxRecDepth 100000 in
theorem w_X2_emit_25 (l : Launch) (X : gX) (ad : Nat → Nat) (F : Nat → Int32) (R : Nat → Nat → Int32) (hI : g_ok LK_wX F) (hA : g_okR LA_wX R) (a0 : Int32) (a1 : Int32) : g_Ci l X yX2_emit cX2_emit 3 (some .int) 1 0 0 [.ref (ad 25), .int a0, .int a1] (wX X ad F R) (fun r w => ∃ (F' : Nat → Int32) (R' : Nat → Nat → Int32), w = wX X ad F' R' ∧ g_ok LK_wX F' ∧ g_okR LA_wX R' ∧ g_fr md_X2_emit_25 F F' ∧ g_fr mr_X2_emit_25 R R' ∧ jv (-1) 255 r) := by
  refine g_mi (by decide +kernel) (Nat.le_of_ble_eq_true rfl) (fun E cx hret => ?_)
  refine g_aload_n cx 0 rfl e_X2_emit_0 ?_
  refine g_get cx cl_X2 fl_X2_18 25 (.int (F 402)) e_X2_emit_1 rfl rfl ?_
  refine g_sipush cx 256 (by decide) e_X2_emit_4 ?_
  refine g_icmp_lt cx 12 e_X2_emit_7 (by decide) (fun zc1 => ?_) (fun zc1 => ?_)
  · have p2 := gn_lt 0 255 (gc_lt zc1) (g_ok_g hI 6 rfl) (jv_k (x := 256) 256 (by decide)) (by decide)
    refine g_aload_n cx 0 rfl e_X2_emit_12 ?_
    refine g_get cx cl_X2 fl_X2_11 25 (.ref (ad 26)) e_X2_emit_13 rfl rfl ?_
    refine g_aload_n cx 0 rfl e_X2_emit_16 ?_
    refine g_get cx cl_X2 fl_X2_18 25 (.int (F 402)) e_X2_emit_17 rfl rfl ?_
    refine g_iload_n cx 1 rfl e_X2_emit_20 ?_
    refine g_iast cx 26 (wX X ad F (g_u R 26 (upd (R 26) (Int32.toNatClampNeg (F 402)) a0))) e_X2_emit_21 rfl (jv_ix 256 p2 (by decide)) rfl ?_
    obtain ⟨R3, hR3⟩ : ∃ z, z = g_u R 26 (upd (R 26) (Int32.toNatClampNeg (F 402)) a0) := ⟨_, rfl⟩
    rw [← hR3]
    have oR3 : g_okR LA_wX R3 := by rw [hR3]; exact g_okR_u hA rfl
    have fR3 : g_fr mr_X2_emit_25 R R3 := by rw [hR3]; exact g_fr_r (g_fr_rf R) rfl
    refine g_aload_n cx 0 rfl e_X2_emit_22 ?_
    refine g_get cx cl_X2 fl_X2_15 25 (.ref (ad 27)) e_X2_emit_23 rfl rfl ?_
    refine g_aload_n cx 0 rfl e_X2_emit_26 ?_
    refine g_get cx cl_X2 fl_X2_18 25 (.int (F 402)) e_X2_emit_27 rfl rfl ?_
    refine g_iload_n cx 2 rfl e_X2_emit_30 ?_
    refine g_iast cx 27 (wX X ad F (g_u R3 27 (upd (R3 27) (Int32.toNatClampNeg (F 402)) a1))) e_X2_emit_31 rfl (jv_ix 256 p2 (by decide)) rfl ?_
    obtain ⟨R4, hR4⟩ : ∃ z, z = g_u R3 27 (upd (R3 27) (Int32.toNatClampNeg (F 402)) a1) := ⟨_, rfl⟩
    rw [← hR4]
    have oR4 : g_okR LA_wX R4 := by rw [hR4]; exact g_okR_u oR3 rfl
    have fR4 : g_fr mr_X2_emit_25 R R4 := by rw [hR4]; exact g_fr_r fR3 rfl
    refine g_aload_n cx 0 rfl e_X2_emit_32 ?_
    refine g_dup cx rfl e_X2_emit_33 ?_
    refine g_get cx cl_X2 fl_X2_18 25 (.int (F 402)) e_X2_emit_34 rfl rfl ?_
    refine g_iconst cx 1 (by decide) e_X2_emit_37 ?_
    refine g_iadd cx e_X2_emit_38 ?_
    refine g_topi (fun x5 ex5 => ?_)
    have zx5 := jv_add 1 256 ex5 p2 (jv_k (x := 1) 1 (by decide)) (by decide)
    refine g_put cx cl_X2 fl_X2_18 25 (wX X ad (upd F 402 x5) R4) e_X2_emit_39 rfl rfl rfl rfl (Nat.le_of_ble_eq_true rfl) rfl ?_
    obtain ⟨F6, hF6⟩ : ∃ z, z = upd F 402 x5 := ⟨_, rfl⟩
    rw [← hF6]
    have oF6 : g_ok LK_wX F6 := by rw [hF6]; exact g_ok_p hI zx5.2 rfl
    have fF6 : g_fr md_X2_emit_25 F F6 := by rw [hF6]; exact g_fr_u (g_fr_rf F) rfl
    refine g_aload_n cx 0 rfl e_X2_emit_42 ?_
    refine g_get cx cl_X2 fl_X2_18 25 (.int (F6 402)) e_X2_emit_43 rfl rfl ?_
    refine g_toi x5 (g_pu1 hF6) ?_
    refine g_iconst cx 1 (by decide) e_X2_emit_46 ?_
    refine g_isub cx e_X2_emit_47 ?_
    refine g_topi (fun x7 ex7 => ?_)
    have zx7 := jv_sub 0 255 ex7 zx5.2 (jv_k (x := 1) 1 (by decide)) (by decide)
    exact hret e_X2_emit_48 (Nat.le_of_ble_eq_true rfl) (Nat.le_of_ble_eq_true rfl) rfl ⟨F6, R4, rfl, oF6, oR4, fF6, fR4, (jv_w zx7.2 (by decide))⟩
  · have p8 := gn_ge 256 256 (gc_nlt zc1) (g_ok_g hI 6 rfl) (jv_k (x := 256) 256 (by decide)) (by decide)
    refine g_iconst cx (-1) (by decide) e_X2_emit_10 ?_
    exact hret e_X2_emit_11 (Nat.le_of_ble_eq_true rfl) (Nat.le_of_ble_eq_true rfl) rfl ⟨F, R, rfl, hI, hA, (g_fr_rf F), (g_fr_rf R), (jv_w (jv_k (x := (-1)) (-1) (by decide)) (by decide))⟩
theorem e_X3_fail_0 : g_dc cX3_fail 0 (.aload_n 0) 1 1 := ⟨by decide +kernel, rfl⟩
theorem e_X3_fail_1 : g_dc cX3_fail 1 (.getfield 22) 3 4 := ⟨by decide +kernel, rfl⟩
theorem e_X3_fail_4 : g_dc cX3_fail 4 (.ifCond .ne 17) 3 7 := ⟨by decide +kernel, rfl⟩
theorem e_X3_fail_7 : g_dc cX3_fail 7 (.aload_n 0) 1 8 := ⟨by decide +kernel, rfl⟩
theorem e_X3_fail_8 : g_dc cX3_fail 8 (.sipush (-1000)) 3 11 := ⟨by decide +kernel, rfl⟩
theorem e_X3_fail_11 : g_dc cX3_fail 11 (.iload_n 1) 1 12 := ⟨by decide +kernel, rfl⟩
theorem e_X3_fail_12 : g_dc cX3_fail 12 (.imul) 1 13 := ⟨by decide +kernel, rfl⟩
theorem e_X3_fail_13 : g_dc cX3_fail 13 (.aload_n 0) 1 14 := ⟨by decide +kernel, rfl⟩
theorem e_X3_fail_14 : g_dc cX3_fail 14 (.getfield 19) 3 17 := ⟨by decide +kernel, rfl⟩
theorem e_X3_fail_17 : g_dc cX3_fail 17 (.isub) 1 18 := ⟨by decide +kernel, rfl⟩
theorem e_X3_fail_18 : g_dc cX3_fail 18 (.putfield 22) 3 21 := ⟨by decide +kernel, rfl⟩
theorem e_X3_fail_21 : g_dc cX3_fail 21 (.return_) 1 22 := ⟨by decide +kernel, rfl⟩
def md_X3_fail : List Nat := [532]
def mr_X3_fail : List Nat := []
set_option maxHeartbeats 4000000 in
set_option maxRecDepth 100000 in
theorem w_X3_fail (l : Launch) (X : gX) (ad : Nat → Nat) (F : Nat → Int32) (R : Nat → Nat → Int32) (hI : g_ok LK_wX F) (hA : g_okR LA_wX R) (a0 : Int32) : g_Cv l X yX3_fail cX3_fail 2 1 0 0 [.ref (ad 33), .int a0] (wX X ad F R) (fun w => ∃ (F' : Nat → Int32) (R' : Nat → Nat → Int32), w = wX X ad F' R' ∧ g_ok LK_wX F' ∧ g_okR LA_wX R' ∧ g_fr md_X3_fail F F' ∧ g_fr mr_X3_fail R R') := by
  refine g_mv (by decide +kernel) (Nat.le_of_ble_eq_true rfl) (fun E cx hret => ?_)
  refine g_aload_n cx 0 rfl e_X3_fail_0 ?_
  refine g_get cx cl_X3 fl_X3_22 33 (.int (F 532)) e_X3_fail_1 rfl rfl ?_
  have J21 : ∀ (F1 : Nat → Int32), (g_ok LK_wX F1) → (g_fr md_X3_fail F F1) → G X E 2 0 0 (wX X ad F1 R) [] 21 [] := by
    intro F1 oF1 fF1
    exact hret e_X3_fail_21 (Nat.le_of_ble_eq_true rfl) (Nat.le_of_ble_eq_true rfl) ⟨F1, R, rfl, oF1, hA, fF1, (g_fr_rf R)⟩
  refine g_if_ne cx 21 e_X3_fail_4 (by decide) (fun zc2 => ?_) (fun zc2 => ?_)
  · refine g_lsub [] [] rfl ?_
    exact J21 F hI (g_fr_rf F)
  · have p3 := gn_eq 0 0 (gc_eq zc2) (jv_t (F 532)) (jv_k (x := 0) 0 (by decide)) (by decide)
    refine g_aload_n cx 0 rfl e_X3_fail_7 ?_
    refine g_sipush cx (-1000) (by decide) e_X3_fail_8 ?_
    refine g_iload_n cx 1 rfl e_X3_fail_11 ?_
    refine g_imul cx e_X3_fail_12 ?_
    refine g_topi (fun x4 ex4 => ?_)
    refine g_aload_n cx 0 rfl e_X3_fail_13 ?_
    refine g_get cx cl_X3 fl_X3_19 33 (.int (F 531)) e_X3_fail_14 rfl rfl ?_
    refine g_isub cx e_X3_fail_17 ?_
    refine g_topi (fun x5 ex5 => ?_)
    refine g_put cx cl_X3 fl_X3_22 33 (wX X ad (upd F 532 x5) R) e_X3_fail_18 rfl rfl rfl rfl (Nat.le_of_ble_eq_true rfl) rfl ?_
    obtain ⟨F6, hF6⟩ : ∃ z, z = upd F 532 x5 := ⟨_, rfl⟩
    rw [← hF6]
    have oF6 : g_ok LK_wX F6 := by rw [hF6]; exact g_ok_u hI rfl
    have fF6 : g_fr md_X3_fail F F6 := by rw [hF6]; exact g_fr_u (g_fr_rf F) rfl
    refine g_lsub [] [] rfl ?_
    exact J21 F6 oF6 fF6
theorem e_X3_number_0 : g_dc cX3_number 0 (.iconst 0) 1 1 := ⟨by decide +kernel, rfl⟩
theorem e_X3_number_1 : g_dc cX3_number 1 (.istore_n 1) 1 2 := ⟨by decide +kernel, rfl⟩
theorem e_X3_number_2 : g_dc cX3_number 2 (.iconst 0) 1 3 := ⟨by decide +kernel, rfl⟩
theorem e_X3_number_3 : g_dc cX3_number 3 (.istore_n 2) 1 4 := ⟨by decide +kernel, rfl⟩
theorem e_X3_number_4 : g_dc cX3_number 4 (.iload_n 2) 1 5 := ⟨by decide +kernel, rfl⟩
theorem e_X3_number_5 : g_dc cX3_number 5 (.iconst 5) 1 6 := ⟨by decide +kernel, rfl⟩
theorem e_X3_number_6 : g_dc cX3_number 6 (.if_icmp .ge 46) 3 9 := ⟨by decide +kernel, rfl⟩
theorem e_X3_number_9 : g_dc cX3_number 9 (.aload_n 0) 1 10 := ⟨by decide +kernel, rfl⟩
theorem e_X3_number_10 : g_dc cX3_number 10 (.invokevirtual 42) 3 13 := ⟨by decide +kernel, rfl⟩
theorem e_X3_number_13 : g_dc cX3_number 13 (.bipush 48) 2 15 := ⟨by decide +kernel, rfl⟩
theorem e_X3_number_15 : g_dc cX3_number 15 (.bipush 57) 2 17 := ⟨by decide +kernel, rfl⟩
theorem e_X3_number_17 : g_dc cX3_number 17 (.invokestatic 102) 3 20 := ⟨by decide +kernel, rfl⟩
theorem e_X3_number_20 : g_dc cX3_number 20 (.ifCond .eq 32) 3 23 := ⟨by decide +kernel, rfl⟩
theorem e_X3_number_23 : g_dc cX3_number 23 (.iload_n 1) 1 24 := ⟨by decide +kernel, rfl⟩
theorem e_X3_number_24 : g_dc cX3_number 24 (.bipush 10) 2 26 := ⟨by decide +kernel, rfl⟩
theorem e_X3_number_26 : g_dc cX3_number 26 (.imul) 1 27 := ⟨by decide +kernel, rfl⟩
theorem e_X3_number_27 : g_dc cX3_number 27 (.aload_n 0) 1 28 := ⟨by decide +kernel, rfl⟩
theorem e_X3_number_28 : g_dc cX3_number 28 (.invokevirtual 42) 3 31 := ⟨by decide +kernel, rfl⟩
theorem e_X3_number_31 : g_dc cX3_number 31 (.iadd) 1 32 := ⟨by decide +kernel, rfl⟩
theorem e_X3_number_32 : g_dc cX3_number 32 (.bipush 48) 2 34 := ⟨by decide +kernel, rfl⟩
theorem e_X3_number_34 : g_dc cX3_number 34 (.isub) 1 35 := ⟨by decide +kernel, rfl⟩
theorem e_X3_number_35 : g_dc cX3_number 35 (.istore_n 1) 1 36 := ⟨by decide +kernel, rfl⟩
theorem e_X3_number_36 : g_dc cX3_number 36 (.aload_n 0) 1 37 := ⟨by decide +kernel, rfl⟩
theorem e_X3_number_37 : g_dc cX3_number 37 (.dup) 1 38 := ⟨by decide +kernel, rfl⟩
theorem e_X3_number_38 : g_dc cX3_number 38 (.getfield 19) 3 41 := ⟨by decide +kernel, rfl⟩
theorem e_X3_number_41 : g_dc cX3_number 41 (.iconst 1) 1 42 := ⟨by decide +kernel, rfl⟩
theorem e_X3_number_42 : g_dc cX3_number 42 (.iadd) 1 43 := ⟨by decide +kernel, rfl⟩
theorem e_X3_number_43 : g_dc cX3_number 43 (.putfield 19) 3 46 := ⟨by decide +kernel, rfl⟩
theorem e_X3_number_46 : g_dc cX3_number 46 (.iinc 2 1) 3 49 := ⟨by decide +kernel, rfl⟩
theorem e_X3_number_49 : g_dc cX3_number 49 (.goto (-45)) 3 52 := ⟨by decide +kernel, rfl⟩
theorem e_X3_number_52 : g_dc cX3_number 52 (.aload_n 0) 1 53 := ⟨by decide +kernel, rfl⟩
theorem e_X3_number_53 : g_dc cX3_number 53 (.invokevirtual 42) 3 56 := ⟨by decide +kernel, rfl⟩
theorem e_X3_number_56 : g_dc cX3_number 56 (.bipush 48) 2 58 := ⟨by decide +kernel, rfl⟩
theorem e_X3_number_58 : g_dc cX3_number 58 (.bipush 57) 2 60 := ⟨by decide +kernel, rfl⟩
theorem e_X3_number_60 : g_dc cX3_number 60 (.invokestatic 102) 3 63 := ⟨by decide +kernel, rfl⟩
theorem e_X3_number_63 : g_dc cX3_number 63 (.ifCond .eq 8) 3 66 := ⟨by decide +kernel, rfl⟩
theorem e_X3_number_66 : g_dc cX3_number 66 (.aload_n 0) 1 67 := ⟨by decide +kernel, rfl⟩
theorem e_X3_number_67 : g_dc cX3_number 67 (.iconst 2) 1 68 := ⟨by decide +kernel, rfl⟩
theorem e_X3_number_68 : g_dc cX3_number 68 (.invokevirtual 46) 3 71 := ⟨by decide +kernel, rfl⟩
theorem e_X3_number_71 : g_dc cX3_number 71 (.aload_n 0) 1 72 := ⟨by decide +kernel, rfl⟩
theorem e_X3_number_72 : g_dc cX3_number 72 (.getfield 25) 3 75 := ⟨by decide +kernel, rfl⟩
theorem e_X3_number_75 : g_dc cX3_number 75 (.iconst 1) 1 76 := ⟨by decide +kernel, rfl⟩
theorem e_X3_number_76 : g_dc cX3_number 76 (.iload_n 1) 1 77 := ⟨by decide +kernel, rfl⟩
theorem e_X3_number_77 : g_dc cX3_number 77 (.invokevirtual 66) 3 80 := ⟨by decide +kernel, rfl⟩
theorem e_X3_number_80 : g_dc cX3_number 80 (.pop) 1 81 := ⟨by decide +kernel, rfl⟩
theorem e_X3_number_81 : g_dc cX3_number 81 (.return_) 1 82 := ⟨by decide +kernel, rfl⟩
def md_X3_number : List Nat := [402, 531, 532]
def mr_X3_number : List Nat := [26, 27]
set_option maxHeartbeats 4000000 in
set_option maxRecDepth 100000 in
theorem w_X3_number (l : Launch) (X : gX) (ad : Nat → Nat) (F : Nat → Int32) (R : Nat → Nat → Int32) (hI : g_ok LK_wX F) (hA : g_okR LA_wX R) : g_Cv l X yX3_number cX3_number 3 2 0 0 [.ref (ad 33)] (wX X ad F R) (fun w => ∃ (F' : Nat → Int32) (R' : Nat → Nat → Int32), w = wX X ad F' R' ∧ g_ok LK_wX F' ∧ g_okR LA_wX R' ∧ g_fr md_X3_number F F' ∧ g_fr mr_X3_number R R') := by
  refine g_mv (by decide +kernel) (Nat.le_of_ble_eq_true rfl) (fun E cx hret => ?_)
  refine g_iconst cx 0 (by decide) e_X3_number_0 ?_
  refine g_istore_n cx [(1, .int 0), (0, .ref (ad 33))] e_X3_number_1 (by decide) rfl ?_
  refine g_iconst cx 0 (by decide) e_X3_number_2 ?_
  refine g_istore_n cx [(2, .int 0), (1, .int 0), (0, .ref (ad 33))] e_X3_number_3 (by decide) rfl ?_
  have J4 : ∀ (N : Nat) (F3 : Nat → Int32) (y1 : Int32) (y2 : Int32), (g_ok LK_wX F3) → (g_fr md_X3_number F F3) → (jv (-2147483648) 2147483647 y1) → (jv 0 5 y2) → (2147483647 - y2.toInt).toNat < N → G X E 3 0 0 (wX X ad F3 R) [(0, .ref (ad 33)), (1, .int y1), (2, .int y2)] 4 [] := by
    intro N
    induction N with
    | zero => intro F3 y1 y2 oF3 fF3 py1 py2 hm; exact absurd hm (Nat.not_lt_zero _)
    | succ N ih4 =>
      intro F3 y1 y2 oF3 fF3 py1 py2 hm4
      refine g_iload_n cx 2 rfl e_X3_number_4 ?_
      refine g_iconst cx 5 (by decide) e_X3_number_5 ?_
      have J52 : G X E 3 0 0 (wX X ad F3 R) [(0, .ref (ad 33)), (1, .int y1)] 52 [] := by
        refine g_aload_n cx 0 rfl e_X3_number_52 ?_
        refine g_cViW cx [] [] (w_X3_sign l X ad F3 R oF3 hA) ml_X3_42 yV_X3_sign e_X3_number_53 (by unfold g_rr; decide) (by decide) 33 rfl rfl rfl (Nat.le_of_ble_eq_true rfl) (fun r4 w5 h6 => ?_)
        obtain ⟨rfl, pr4⟩ := h6
        refine g_bipush cx 48 (by decide) e_X3_number_56 ?_
        refine g_bipush cx 57 (by decide) e_X3_number_58 ?_
        refine g_cNiW cx [.int r4, .int 48, .int 57] [] (c_X10_within l X (wX X ad F3 R) r4 48 57) mn_X3_102 yS_X10_within e_X3_number_60 (by unfold g_rr; decide) (by decide) rfl (Nat.le_of_ble_eq_true rfl) (fun r7 w8 h9 => ?_)
        obtain ⟨rfl, hr7⟩ := h9
        have pr7 : jv 0 1 r7 := by rw [hr7]; exact gi_01 _ _ _
        have J71 : ∀ (F10 : Nat → Int32) (R11 : Nat → Nat → Int32), (g_ok LK_wX F10) → (g_fr md_X3_number F F10) → (g_okR LA_wX R11) → (g_fr mr_X3_number R R11) → G X E 3 0 0 (wX X ad F10 R11) [(0, .ref (ad 33)), (1, .int y1)] 71 [] := by
          intro F10 R11 oF10 fF10 oR11 fR11
          refine g_aload_n cx 0 rfl e_X3_number_71 ?_
          refine g_get cx cl_X3 fl_X3_25 33 (.ref (ad 25)) e_X3_number_72 rfl rfl ?_
          refine g_iconst cx 1 (by decide) e_X3_number_75 ?_
          refine g_iload_n cx 1 rfl e_X3_number_76 ?_
          refine g_cViW cx [.int 1, .int y1] [] (w_X2_emit_25 l X ad F10 R11 oF10 oR11 1 y1) ml_X3_66 yV_X2_emit e_X3_number_77 (by unfold g_rr; decide) (by decide) 25 rfl rfl rfl (Nat.le_of_ble_eq_true rfl) (fun r12 w13 h14 => ?_)
          obtain ⟨F15, R16, rfl, oF15, oR16, cF15, cR16, pr12⟩ := h14
          have fF15 : g_fr md_X3_number F F15 := g_fr_c fF10 cF15 rfl
          have fR16 : g_fr mr_X3_number R R16 := g_fr_c fR11 cR16 rfl
          refine g_pop cx rfl e_X3_number_80 ?_
          exact hret e_X3_number_81 (Nat.le_of_ble_eq_true rfl) (Nat.le_of_ble_eq_true rfl) ⟨F15, R16, rfl, oF15, oR16, fF15, fR16⟩
        refine g_if_eq cx 71 e_X3_number_63 (by decide) (fun zc17 => ?_) (fun zc17 => ?_)
        · have p18 := gn_eq 0 0 (gc_eq zc17) pr7 (jv_k (x := 0) 0 (by decide)) (by decide)
          exact J71 F3 R oF3 fF3 hA (g_fr_rf R)
        · have p19 := gn_neL 1 1 (gc_ne zc17) pr7 (jv_k (x := 0) 0 (by decide)) (by decide)
          have p20 := jv_i 48 57 pr4 (gi_in (A := 48) (B := 57) hr7 zc17 (by decide) (by decide)) (by decide)
          refine g_aload_n cx 0 rfl e_X3_number_66 ?_
          refine g_iconst cx 2 (by decide) e_X3_number_67 ?_
          refine g_cVvW cx [.int 2] [] (w_X3_fail l X ad F3 R oF3 hA 2) ml_X3_46 yV_X3_fail e_X3_number_68 (by unfold g_rr; decide) (by decide) 33 rfl rfl rfl (Nat.le_of_ble_eq_true rfl) (fun w22 h23 => ?_)
          obtain ⟨F24, R25, rfl, oF24, oR25, cF24, cR25⟩ := h23
          have fF24 : g_fr md_X3_number F F24 := g_fr_c fF3 cF24 rfl
          have fR25 : g_fr mr_X3_number R R25 := g_fr_c (g_fr_rf R) cR25 rfl
          exact J71 F24 R25 oF24 fF24 oR25 fR25
      refine g_icmp_ge cx 52 e_X3_number_6 (by decide) (fun zc26 => ?_) (fun zc26 => ?_)
      · have p27 := gn_ge 5 5 (gc_le zc26) py2 (jv_k (x := 5) 5 (by decide)) (by decide)
        refine g_lsub [0, 1] [(0, .ref (ad 33)), (1, .int y1)] rfl ?_
        exact J52  
      · have p28 := gn_lt 0 4 (gc_nle zc26) py2 (jv_k (x := 5) 5 (by decide)) (by decide)
        refine g_aload_n cx 0 rfl e_X3_number_9 ?_
        refine g_cViW cx [] [] (w_X3_sign l X ad F3 R oF3 hA) ml_X3_42 yV_X3_sign e_X3_number_10 (by unfold g_rr; decide) (by decide) 33 rfl rfl rfl (Nat.le_of_ble_eq_true rfl) (fun r29 w30 h31 => ?_)
        obtain ⟨rfl, pr29⟩ := h31
        refine g_bipush cx 48 (by decide) e_X3_number_13 ?_
        refine g_bipush cx 57 (by decide) e_X3_number_15 ?_
        refine g_cNiW cx [.int r29, .int 48, .int 57] [] (c_X10_within l X (wX X ad F3 R) r29 48 57) mn_X3_102 yS_X10_within e_X3_number_17 (by unfold g_rr; decide) (by decide) rfl (Nat.le_of_ble_eq_true rfl) (fun r32 w33 h34 => ?_)
        obtain ⟨rfl, hr32⟩ := h34
        have pr32 : jv 0 1 r32 := by rw [hr32]; exact gi_01 _ _ _
        refine g_if_eq cx 52 e_X3_number_20 (by decide) (fun zc35 => ?_) (fun zc35 => ?_)
        · have p36 := gn_eq 0 0 (gc_eq zc35) pr32 (jv_k (x := 0) 0 (by decide)) (by decide)
          refine g_lsub [0, 1] [(0, .ref (ad 33)), (1, .int y1)] rfl ?_
          exact J52  
        · have p37 := gn_neL 1 1 (gc_ne zc35) pr32 (jv_k (x := 0) 0 (by decide)) (by decide)
          have p38 := jv_i 48 57 pr29 (gi_in (A := 48) (B := 57) hr32 zc35 (by decide) (by decide)) (by decide)
          refine g_iload_n cx 1 rfl e_X3_number_23 ?_
          refine g_bipush cx 10 (by decide) e_X3_number_24 ?_
          refine g_imul cx e_X3_number_26 ?_
          refine g_topi (fun x39 ex39 => ?_)
          refine g_aload_n cx 0 rfl e_X3_number_27 ?_
          refine g_cViW cx [] [.int x39] (w_X3_sign l X ad F3 R oF3 hA) ml_X3_42 yV_X3_sign e_X3_number_28 (by unfold g_rr; decide) (by decide) 33 rfl rfl rfl (Nat.le_of_ble_eq_true rfl) (fun r40 w41 h42 => ?_)
          obtain ⟨rfl, pr40⟩ := h42
          refine g_iadd cx e_X3_number_31 ?_
          refine g_topi (fun x43 ex43 => ?_)
          refine g_bipush cx 48 (by decide) e_X3_number_32 ?_
          refine g_isub cx e_X3_number_34 ?_
          refine g_topi (fun x44 ex44 => ?_)
          refine g_istore_n cx [(1, .int x44), (0, .ref (ad 33)), (2, .int y2)] e_X3_number_35 (by decide) rfl ?_
          refine g_aload_n cx 1 rfl e_X3_number_36 ?_
          refine g_dup cx rfl e_X3_number_37 ?_
          refine g_get cx cl_X3 fl_X3_19 33 (.int (F3 531)) e_X3_number_38 rfl rfl ?_
          refine g_iconst cx 1 (by decide) e_X3_number_41 ?_
          refine g_iadd cx e_X3_number_42 ?_
          refine g_topi (fun x45 ex45 => ?_)
          refine g_put cx cl_X3 fl_X3_19 33 (wX X ad (upd F3 531 x45) R) e_X3_number_43 rfl rfl rfl rfl (Nat.le_of_ble_eq_true rfl) rfl ?_
          obtain ⟨F46, hF46⟩ : ∃ z, z = upd F3 531 x45 := ⟨_, rfl⟩
          rw [← hF46]
          have oF46 : g_ok LK_wX F46 := by rw [hF46]; exact g_ok_u oF3 rfl
          have fF46 : g_fr md_X3_number F F46 := by rw [hF46]; exact g_fr_u fF3 rfl
          obtain ⟨x47, ex47⟩ : ∃ z : Int32, z = y2 + Int32.ofInt 1 := ⟨_, rfl⟩
          refine g_iinc cx x47 [(2, .int x47), (1, .int x44), (0, .ref (ad 33))] 2 e_X3_number_46 rfl ex47.symm (by decide) rfl ?_
          have zx47 := jv_add 1 5 (show x47 = y2 + 1 from ex47) p28 (jv_k (x := 1) 1 (by decide)) (by decide)
          refine g_goto cx 4 e_X3_number_49 (by decide) ?_
          refine g_lsub [2, 1, 0] [(0, .ref (ad 33)), (1, .int x44), (2, .int x47)] rfl ?_
          exact ih4 F46 x44 x47 oF46 fF46 (jv_t x44) (jv_w zx47.2 (by decide)) (Nat.lt_of_lt_of_le (show (2147483647 - x47.toInt).toNat < (2147483647 - y2.toInt).toNat from by have q0 := (jv_k (x := 1) 1 (by decide)).1; have q1 := (jv_k (x := 1) 1 (by decide)).2; have q2 := (jv_k (x := 5) 5 (by decide)).1; have q3 := (jv_k (x := 5) 5 (by decide)).2; have q4 := zx47.2.1; have q5 := zx47.2.2; have q6 := p28.1; have q7 := p28.2; have q8 := (gc_nle zc26); have q9 := (g_eq0 zx47.1); omega) (Nat.le_of_lt_succ hm4))
  refine g_lsub [2, 1, 0] [(0, .ref (ad 33)), (1, .int 0), (2, .int 0)] rfl ?_
  exact J4 _ F 0 0 hI (g_fr_rf F) (jv_w (jv_k (x := 0) 0 (by decide)) (by decide)) (jv_w (jv_k (x := 0) 0 (by decide)) (by decide)) (Nat.lt_succ_self _)
theorem e_X3_opens_0 : g_dc cX3_opens 0 (.iload_n 1) 1 1 := ⟨by decide +kernel, rfl⟩
theorem e_X3_opens_1 : g_dc cX3_opens 1 (.bipush 6) 2 3 := ⟨by decide +kernel, rfl⟩
theorem e_X3_opens_3 : g_dc cX3_opens 3 (.if_icmp .lt 10) 3 6 := ⟨by decide +kernel, rfl⟩
theorem e_X3_opens_13 : g_dc cX3_opens 13 (.aload_n 0) 1 14 := ⟨by decide +kernel, rfl⟩
theorem e_X3_opens_14 : g_dc cX3_opens 14 (.dup) 1 15 := ⟨by decide +kernel, rfl⟩
theorem e_X3_opens_15 : g_dc cX3_opens 15 (.getfield 19) 3 18 := ⟨by decide +kernel, rfl⟩
theorem e_X3_opens_18 : g_dc cX3_opens 18 (.iconst 1) 1 19 := ⟨by decide +kernel, rfl⟩
theorem e_X3_opens_19 : g_dc cX3_opens 19 (.iadd) 1 20 := ⟨by decide +kernel, rfl⟩
theorem e_X3_opens_20 : g_dc cX3_opens 20 (.putfield 19) 3 23 := ⟨by decide +kernel, rfl⟩
theorem e_X3_opens_23 : g_dc cX3_opens 23 (.iconst 1) 1 24 := ⟨by decide +kernel, rfl⟩
theorem e_X3_opens_24 : g_dc cX3_opens 24 (.ireturn) 1 25 := ⟨by decide +kernel, rfl⟩
def md_X3_opens_c0 : List Nat := [531]
def mr_X3_opens_c0 : List Nat := []
set_option maxHeartbeats 4000000 in
set_option maxRecDepth 100000 in
theorem w_X3_opens_c0 (l : Launch) (X : gX) (ad : Nat → Nat) (F : Nat → Int32) (R : Nat → Nat → Int32) (hI : g_ok LK_wX F) (hA : g_okR LA_wX R) : g_Ci l X yX3_opens cX3_opens 2 (some .boolean) 1 0 0 [.ref (ad 33), .int 0] (wX X ad F R) (fun r w => ∃ (F' : Nat → Int32) (R' : Nat → Nat → Int32), w = wX X ad F' R' ∧ g_ok LK_wX F' ∧ g_okR LA_wX R' ∧ g_fr md_X3_opens_c0 F F' ∧ g_fr mr_X3_opens_c0 R R' ∧ jv 1 1 r) := by
  refine g_mi (by decide +kernel) (Nat.le_of_ble_eq_true rfl) (fun E cx hret => ?_)
  refine g_iload_n cx 1 rfl e_X3_opens_0 ?_
  refine g_bipush cx 6 (by decide) e_X3_opens_1 ?_
  refine g_icmp_lt_t cx 13 e_X3_opens_3 (by decide) (by decide) ?_
  refine g_aload_n cx 0 rfl e_X3_opens_13 ?_
  refine g_dup cx rfl e_X3_opens_14 ?_
  refine g_get cx cl_X3 fl_X3_19 33 (.int (F 531)) e_X3_opens_15 rfl rfl ?_
  refine g_iconst cx 1 (by decide) e_X3_opens_18 ?_
  refine g_iadd cx e_X3_opens_19 ?_
  refine g_topi (fun x1 ex1 => ?_)
  refine g_put cx cl_X3 fl_X3_19 33 (wX X ad (upd F 531 x1) R) e_X3_opens_20 rfl rfl rfl rfl (Nat.le_of_ble_eq_true rfl) rfl ?_
  obtain ⟨F2, hF2⟩ : ∃ z, z = upd F 531 x1 := ⟨_, rfl⟩
  rw [← hF2]
  have oF2 : g_ok LK_wX F2 := by rw [hF2]; exact g_ok_u hI rfl
  have fF2 : g_fr md_X3_opens_c0 F F2 := by rw [hF2]; exact g_fr_u (g_fr_rf F) rfl
  refine g_iconst cx 1 (by decide) e_X3_opens_23 ?_
  exact hret e_X3_opens_24 (Nat.le_of_ble_eq_true rfl) (Nat.le_of_ble_eq_true rfl) rfl ⟨F2, R, rfl, oF2, hA, fF2, (g_fr_rf R), (jv_k (x := 1) 1 (by decide))⟩
def md_X3_opens_c1 : List Nat := [531]
def mr_X3_opens_c1 : List Nat := []
set_option maxHeartbeats 4000000 in
set_option maxRecDepth 100000 in
theorem w_X3_opens_c1 (l : Launch) (X : gX) (ad : Nat → Nat) (F : Nat → Int32) (R : Nat → Nat → Int32) (hI : g_ok LK_wX F) (hA : g_okR LA_wX R) : g_Ci l X yX3_opens cX3_opens 2 (some .boolean) 1 0 0 [.ref (ad 33), .int 1] (wX X ad F R) (fun r w => ∃ (F' : Nat → Int32) (R' : Nat → Nat → Int32), w = wX X ad F' R' ∧ g_ok LK_wX F' ∧ g_okR LA_wX R' ∧ g_fr md_X3_opens_c1 F F' ∧ g_fr mr_X3_opens_c1 R R' ∧ jv 1 1 r) := by
  refine g_mi (by decide +kernel) (Nat.le_of_ble_eq_true rfl) (fun E cx hret => ?_)
  refine g_iload_n cx 1 rfl e_X3_opens_0 ?_
  refine g_bipush cx 6 (by decide) e_X3_opens_1 ?_
  refine g_icmp_lt_t cx 13 e_X3_opens_3 (by decide) (by decide) ?_
  refine g_aload_n cx 0 rfl e_X3_opens_13 ?_
  refine g_dup cx rfl e_X3_opens_14 ?_
  refine g_get cx cl_X3 fl_X3_19 33 (.int (F 531)) e_X3_opens_15 rfl rfl ?_
  refine g_iconst cx 1 (by decide) e_X3_opens_18 ?_
  refine g_iadd cx e_X3_opens_19 ?_
  refine g_topi (fun x1 ex1 => ?_)
  refine g_put cx cl_X3 fl_X3_19 33 (wX X ad (upd F 531 x1) R) e_X3_opens_20 rfl rfl rfl rfl (Nat.le_of_ble_eq_true rfl) rfl ?_
  obtain ⟨F2, hF2⟩ : ∃ z, z = upd F 531 x1 := ⟨_, rfl⟩
  rw [← hF2]
  have oF2 : g_ok LK_wX F2 := by rw [hF2]; exact g_ok_u hI rfl
  have fF2 : g_fr md_X3_opens_c1 F F2 := by rw [hF2]; exact g_fr_u (g_fr_rf F) rfl
  refine g_iconst cx 1 (by decide) e_X3_opens_23 ?_
  exact hret e_X3_opens_24 (Nat.le_of_ble_eq_true rfl) (Nat.le_of_ble_eq_true rfl) rfl ⟨F2, R, rfl, oF2, hA, fF2, (g_fr_rf R), (jv_k (x := 1) 1 (by decide))⟩
def md_X3_opens_c2 : List Nat := [531]
def mr_X3_opens_c2 : List Nat := []
set_option maxHeartbeats 4000000 in
set_option maxRecDepth 100000 in
theorem w_X3_opens_c2 (l : Launch) (X : gX) (ad : Nat → Nat) (F : Nat → Int32) (R : Nat → Nat → Int32) (hI : g_ok LK_wX F) (hA : g_okR LA_wX R) : g_Ci l X yX3_opens cX3_opens 2 (some .boolean) 1 0 0 [.ref (ad 33), .int 2] (wX X ad F R) (fun r w => ∃ (F' : Nat → Int32) (R' : Nat → Nat → Int32), w = wX X ad F' R' ∧ g_ok LK_wX F' ∧ g_okR LA_wX R' ∧ g_fr md_X3_opens_c2 F F' ∧ g_fr mr_X3_opens_c2 R R' ∧ jv 1 1 r) := by
  refine g_mi (by decide +kernel) (Nat.le_of_ble_eq_true rfl) (fun E cx hret => ?_)
  refine g_iload_n cx 1 rfl e_X3_opens_0 ?_
  refine g_bipush cx 6 (by decide) e_X3_opens_1 ?_
  refine g_icmp_lt_t cx 13 e_X3_opens_3 (by decide) (by decide) ?_
  refine g_aload_n cx 0 rfl e_X3_opens_13 ?_
  refine g_dup cx rfl e_X3_opens_14 ?_
  refine g_get cx cl_X3 fl_X3_19 33 (.int (F 531)) e_X3_opens_15 rfl rfl ?_
  refine g_iconst cx 1 (by decide) e_X3_opens_18 ?_
  refine g_iadd cx e_X3_opens_19 ?_
  refine g_topi (fun x1 ex1 => ?_)
  refine g_put cx cl_X3 fl_X3_19 33 (wX X ad (upd F 531 x1) R) e_X3_opens_20 rfl rfl rfl rfl (Nat.le_of_ble_eq_true rfl) rfl ?_
  obtain ⟨F2, hF2⟩ : ∃ z, z = upd F 531 x1 := ⟨_, rfl⟩
  rw [← hF2]
  have oF2 : g_ok LK_wX F2 := by rw [hF2]; exact g_ok_u hI rfl
  have fF2 : g_fr md_X3_opens_c2 F F2 := by rw [hF2]; exact g_fr_u (g_fr_rf F) rfl
  refine g_iconst cx 1 (by decide) e_X3_opens_23 ?_
  exact hret e_X3_opens_24 (Nat.le_of_ble_eq_true rfl) (Nat.le_of_ble_eq_true rfl) rfl ⟨F2, R, rfl, oF2, hA, fF2, (g_fr_rf R), (jv_k (x := 1) 1 (by decide))⟩
def md_X3_opens_c3 : List Nat := [531]
def mr_X3_opens_c3 : List Nat := []
set_option maxHeartbeats 4000000 in
set_option maxRecDepth 100000 in
theorem w_X3_opens_c3 (l : Launch) (X : gX) (ad : Nat → Nat) (F : Nat → Int32) (R : Nat → Nat → Int32) (hI : g_ok LK_wX F) (hA : g_okR LA_wX R) : g_Ci l X yX3_opens cX3_opens 2 (some .boolean) 1 0 0 [.ref (ad 33), .int 3] (wX X ad F R) (fun r w => ∃ (F' : Nat → Int32) (R' : Nat → Nat → Int32), w = wX X ad F' R' ∧ g_ok LK_wX F' ∧ g_okR LA_wX R' ∧ g_fr md_X3_opens_c3 F F' ∧ g_fr mr_X3_opens_c3 R R' ∧ jv 1 1 r) := by
  refine g_mi (by decide +kernel) (Nat.le_of_ble_eq_true rfl) (fun E cx hret => ?_)
  refine g_iload_n cx 1 rfl e_X3_opens_0 ?_
  refine g_bipush cx 6 (by decide) e_X3_opens_1 ?_
  refine g_icmp_lt_t cx 13 e_X3_opens_3 (by decide) (by decide) ?_
  refine g_aload_n cx 0 rfl e_X3_opens_13 ?_
  refine g_dup cx rfl e_X3_opens_14 ?_
  refine g_get cx cl_X3 fl_X3_19 33 (.int (F 531)) e_X3_opens_15 rfl rfl ?_
  refine g_iconst cx 1 (by decide) e_X3_opens_18 ?_
  refine g_iadd cx e_X3_opens_19 ?_
  refine g_topi (fun x1 ex1 => ?_)
  refine g_put cx cl_X3 fl_X3_19 33 (wX X ad (upd F 531 x1) R) e_X3_opens_20 rfl rfl rfl rfl (Nat.le_of_ble_eq_true rfl) rfl ?_
  obtain ⟨F2, hF2⟩ : ∃ z, z = upd F 531 x1 := ⟨_, rfl⟩
  rw [← hF2]
  have oF2 : g_ok LK_wX F2 := by rw [hF2]; exact g_ok_u hI rfl
  have fF2 : g_fr md_X3_opens_c3 F F2 := by rw [hF2]; exact g_fr_u (g_fr_rf F) rfl
  refine g_iconst cx 1 (by decide) e_X3_opens_23 ?_
  exact hret e_X3_opens_24 (Nat.le_of_ble_eq_true rfl) (Nat.le_of_ble_eq_true rfl) rfl ⟨F2, R, rfl, oF2, hA, fF2, (g_fr_rf R), (jv_k (x := 1) 1 (by decide))⟩
def md_X3_opens_c4 : List Nat := [531]
def mr_X3_opens_c4 : List Nat := []
set_option maxHeartbeats 4000000 in
set_option maxRecDepth 100000 in
theorem w_X3_opens_c4 (l : Launch) (X : gX) (ad : Nat → Nat) (F : Nat → Int32) (R : Nat → Nat → Int32) (hI : g_ok LK_wX F) (hA : g_okR LA_wX R) : g_Ci l X yX3_opens cX3_opens 2 (some .boolean) 1 0 0 [.ref (ad 33), .int 4] (wX X ad F R) (fun r w => ∃ (F' : Nat → Int32) (R' : Nat → Nat → Int32), w = wX X ad F' R' ∧ g_ok LK_wX F' ∧ g_okR LA_wX R' ∧ g_fr md_X3_opens_c4 F F' ∧ g_fr mr_X3_opens_c4 R R' ∧ jv 1 1 r) := by
  refine g_mi (by decide +kernel) (Nat.le_of_ble_eq_true rfl) (fun E cx hret => ?_)
  refine g_iload_n cx 1 rfl e_X3_opens_0 ?_
  refine g_bipush cx 6 (by decide) e_X3_opens_1 ?_
  refine g_icmp_lt_t cx 13 e_X3_opens_3 (by decide) (by decide) ?_
  refine g_aload_n cx 0 rfl e_X3_opens_13 ?_
  refine g_dup cx rfl e_X3_opens_14 ?_
  refine g_get cx cl_X3 fl_X3_19 33 (.int (F 531)) e_X3_opens_15 rfl rfl ?_
  refine g_iconst cx 1 (by decide) e_X3_opens_18 ?_
  refine g_iadd cx e_X3_opens_19 ?_
  refine g_topi (fun x1 ex1 => ?_)
  refine g_put cx cl_X3 fl_X3_19 33 (wX X ad (upd F 531 x1) R) e_X3_opens_20 rfl rfl rfl rfl (Nat.le_of_ble_eq_true rfl) rfl ?_
  obtain ⟨F2, hF2⟩ : ∃ z, z = upd F 531 x1 := ⟨_, rfl⟩
  rw [← hF2]
  have oF2 : g_ok LK_wX F2 := by rw [hF2]; exact g_ok_u hI rfl
  have fF2 : g_fr md_X3_opens_c4 F F2 := by rw [hF2]; exact g_fr_u (g_fr_rf F) rfl
  refine g_iconst cx 1 (by decide) e_X3_opens_23 ?_
  exact hret e_X3_opens_24 (Nat.le_of_ble_eq_true rfl) (Nat.le_of_ble_eq_true rfl) rfl ⟨F2, R, rfl, oF2, hA, fF2, (g_fr_rf R), (jv_k (x := 1) 1 (by decide))⟩
def md_X3_opens_c5 : List Nat := [531]
def mr_X3_opens_c5 : List Nat := []
set_option maxHeartbeats 4000000 in
set_option maxRecDepth 100000 in
theorem w_X3_opens_c5 (l : Launch) (X : gX) (ad : Nat → Nat) (F : Nat → Int32) (R : Nat → Nat → Int32) (hI : g_ok LK_wX F) (hA : g_okR LA_wX R) : g_Ci l X yX3_opens cX3_opens 2 (some .boolean) 1 0 0 [.ref (ad 33), .int 5] (wX X ad F R) (fun r w => ∃ (F' : Nat → Int32) (R' : Nat → Nat → Int32), w = wX X ad F' R' ∧ g_ok LK_wX F' ∧ g_okR LA_wX R' ∧ g_fr md_X3_opens_c5 F F' ∧ g_fr mr_X3_opens_c5 R R' ∧ jv 1 1 r) := by
  refine g_mi (by decide +kernel) (Nat.le_of_ble_eq_true rfl) (fun E cx hret => ?_)
  refine g_iload_n cx 1 rfl e_X3_opens_0 ?_
  refine g_bipush cx 6 (by decide) e_X3_opens_1 ?_
  refine g_icmp_lt_t cx 13 e_X3_opens_3 (by decide) (by decide) ?_
  refine g_aload_n cx 0 rfl e_X3_opens_13 ?_
  refine g_dup cx rfl e_X3_opens_14 ?_
  refine g_get cx cl_X3 fl_X3_19 33 (.int (F 531)) e_X3_opens_15 rfl rfl ?_
  refine g_iconst cx 1 (by decide) e_X3_opens_18 ?_
  refine g_iadd cx e_X3_opens_19 ?_
  refine g_topi (fun x1 ex1 => ?_)
  refine g_put cx cl_X3 fl_X3_19 33 (wX X ad (upd F 531 x1) R) e_X3_opens_20 rfl rfl rfl rfl (Nat.le_of_ble_eq_true rfl) rfl ?_
  obtain ⟨F2, hF2⟩ : ∃ z, z = upd F 531 x1 := ⟨_, rfl⟩
  rw [← hF2]
  have oF2 : g_ok LK_wX F2 := by rw [hF2]; exact g_ok_u hI rfl
  have fF2 : g_fr md_X3_opens_c5 F F2 := by rw [hF2]; exact g_fr_u (g_fr_rf F) rfl
  refine g_iconst cx 1 (by decide) e_X3_opens_23 ?_
  exact hret e_X3_opens_24 (Nat.le_of_ble_eq_true rfl) (Nat.le_of_ble_eq_true rfl) rfl ⟨F2, R, rfl, oF2, hA, fF2, (g_fr_rf R), (jv_k (x := 1) 1 (by decide))⟩
theorem e_X3_opens_6 : g_dc cX3_opens 6 (.aload_n 0) 1 7 := ⟨by decide +kernel, rfl⟩
theorem e_X3_opens_7 : g_dc cX3_opens 7 (.iconst 5) 1 8 := ⟨by decide +kernel, rfl⟩
theorem e_X3_opens_8 : g_dc cX3_opens 8 (.invokevirtual 46) 3 11 := ⟨by decide +kernel, rfl⟩
theorem e_X3_opens_11 : g_dc cX3_opens 11 (.iconst 0) 1 12 := ⟨by decide +kernel, rfl⟩
theorem e_X3_opens_12 : g_dc cX3_opens 12 (.ireturn) 1 13 := ⟨by decide +kernel, rfl⟩
def md_X3_opens_c6 : List Nat := [532]
def mr_X3_opens_c6 : List Nat := []
set_option maxHeartbeats 4000000 in
set_option maxRecDepth 100000 in
theorem w_X3_opens_c6 (l : Launch) (X : gX) (ad : Nat → Nat) (F : Nat → Int32) (R : Nat → Nat → Int32) (hI : g_ok LK_wX F) (hA : g_okR LA_wX R) : g_Ci l X yX3_opens cX3_opens 2 (some .boolean) 2 0 0 [.ref (ad 33), .int 6] (wX X ad F R) (fun r w => ∃ (F' : Nat → Int32) (R' : Nat → Nat → Int32), w = wX X ad F' R' ∧ g_ok LK_wX F' ∧ g_okR LA_wX R' ∧ g_fr md_X3_opens_c6 F F' ∧ g_fr mr_X3_opens_c6 R R' ∧ jv 0 0 r) := by
  refine g_mi (by decide +kernel) (Nat.le_of_ble_eq_true rfl) (fun E cx hret => ?_)
  refine g_iload_n cx 1 rfl e_X3_opens_0 ?_
  refine g_bipush cx 6 (by decide) e_X3_opens_1 ?_
  refine g_icmp_lt_f cx 13 e_X3_opens_3 (by decide) (by decide) ?_
  refine g_aload_n cx 0 rfl e_X3_opens_6 ?_
  refine g_iconst cx 5 (by decide) e_X3_opens_7 ?_
  refine g_cVvW cx [.int 5] [] (w_X3_fail l X ad F R hI hA 5) ml_X3_46 yV_X3_fail e_X3_opens_8 (by unfold g_rr; decide) (by decide) 33 rfl rfl rfl (Nat.le_of_ble_eq_true rfl) (fun w2 h3 => ?_)
  obtain ⟨F4, R5, rfl, oF4, oR5, cF4, cR5⟩ := h3
  have fF4 : g_fr md_X3_opens_c6 F F4 := g_fr_c (g_fr_rf F) cF4 rfl
  have fR5 : g_fr mr_X3_opens_c6 R R5 := g_fr_c (g_fr_rf R) cR5 rfl
  refine g_iconst cx 0 (by decide) e_X3_opens_11 ?_
  exact hret e_X3_opens_12 (Nat.le_of_ble_eq_true rfl) (Nat.le_of_ble_eq_true rfl) rfl ⟨F4, R5, rfl, oF4, oR5, fF4, fR5, (jv_k (x := 0) 0 (by decide))⟩
theorem e_X3_factor_0 : g_dc cX3_factor 0 (.aload_n 0) 1 1 := ⟨by decide +kernel, rfl⟩
theorem e_X3_factor_1 : g_dc cX3_factor 1 (.invokevirtual 42) 3 4 := ⟨by decide +kernel, rfl⟩
theorem e_X3_factor_4 : g_dc cX3_factor 4 (.bipush 91) 2 6 := ⟨by decide +kernel, rfl⟩
theorem e_X3_factor_6 : g_dc cX3_factor 6 (.if_icmp .ne 25) 3 9 := ⟨by decide +kernel, rfl⟩
theorem e_X3_factor_9 : g_dc cX3_factor 9 (.aload_n 0) 1 10 := ⟨by decide +kernel, rfl⟩
theorem e_X3_factor_10 : g_dc cX3_factor 10 (.iload_n 1) 1 11 := ⟨by decide +kernel, rfl⟩
theorem e_X3_factor_11 : g_dc cX3_factor 11 (.invokevirtual 89) 3 14 := ⟨by decide +kernel, rfl⟩
theorem e_X3_factor_14 : g_dc cX3_factor 14 (.ifCond .eq 16) 3 17 := ⟨by decide +kernel, rfl⟩
theorem e_X3_factor_30 : g_dc cX3_factor 30 (.return_) 1 31 := ⟨by decide +kernel, rfl⟩
theorem e_X3_factor_31 : g_dc cX3_factor 31 (.aload_n 0) 1 32 := ⟨by decide +kernel, rfl⟩
theorem e_X3_factor_32 : g_dc cX3_factor 32 (.invokevirtual 42) 3 35 := ⟨by decide +kernel, rfl⟩
theorem e_X3_factor_35 : g_dc cX3_factor 35 (.bipush 48) 2 37 := ⟨by decide +kernel, rfl⟩
theorem e_X3_factor_37 : g_dc cX3_factor 37 (.bipush 57) 2 39 := ⟨by decide +kernel, rfl⟩
theorem e_X3_factor_39 : g_dc cX3_factor 39 (.invokestatic 102) 3 42 := ⟨by decide +kernel, rfl⟩
theorem e_X3_factor_42 : g_dc cX3_factor 42 (.ifCond .eq 8) 3 45 := ⟨by decide +kernel, rfl⟩
theorem e_X3_factor_45 : g_dc cX3_factor 45 (.aload_n 0) 1 46 := ⟨by decide +kernel, rfl⟩
theorem e_X3_factor_46 : g_dc cX3_factor 46 (.invokevirtual 106) 3 49 := ⟨by decide +kernel, rfl⟩
theorem e_X3_factor_49 : g_dc cX3_factor 49 (.return_) 1 50 := ⟨by decide +kernel, rfl⟩
theorem e_X3_factor_50 : g_dc cX3_factor 50 (.aload_n 0) 1 51 := ⟨by decide +kernel, rfl⟩
theorem e_X3_factor_51 : g_dc cX3_factor 51 (.invokevirtual 42) 3 54 := ⟨by decide +kernel, rfl⟩
theorem e_X3_factor_54 : g_dc cX3_factor 54 (.iconst (-1)) 1 55 := ⟨by decide +kernel, rfl⟩
theorem e_X3_factor_55 : g_dc cX3_factor 55 (.if_icmp .ne 7) 3 58 := ⟨by decide +kernel, rfl⟩
theorem e_X3_factor_58 : g_dc cX3_factor 58 (.iconst (-1)) 1 59 := ⟨by decide +kernel, rfl⟩
theorem e_X3_factor_59 : g_dc cX3_factor 59 (.goto 13) 3 62 := ⟨by decide +kernel, rfl⟩
theorem e_X3_factor_62 : g_dc cX3_factor 62 (.ldc 109) 2 64 := ⟨by decide +kernel, rfl⟩
theorem e_X3_factor_64 : g_dc cX3_factor 64 (.aload_n 0) 1 65 := ⟨by decide +kernel, rfl⟩
theorem e_X3_factor_65 : g_dc cX3_factor 65 (.invokevirtual 42) 3 68 := ⟨by decide +kernel, rfl⟩
theorem e_X3_factor_68 : g_dc cX3_factor 68 (.i2c) 1 69 := ⟨by decide +kernel, rfl⟩
theorem e_X3_factor_69 : g_dc cX3_factor 69 (.invokevirtual 52) 3 72 := ⟨by decide +kernel, rfl⟩
theorem e_X3_factor_72 : g_dc cX3_factor 72 (.istore_n 2) 1 73 := ⟨by decide +kernel, rfl⟩
theorem e_X3_factor_73 : g_dc cX3_factor 73 (.iload_n 2) 1 74 := ⟨by decide +kernel, rfl⟩
theorem e_X3_factor_74 : g_dc cX3_factor 74 (.ifCond .ge 9) 3 77 := ⟨by decide +kernel, rfl⟩
theorem e_X3_factor_77 : g_dc cX3_factor 77 (.aload_n 0) 1 78 := ⟨by decide +kernel, rfl⟩
theorem e_X3_factor_78 : g_dc cX3_factor 78 (.iconst 1) 1 79 := ⟨by decide +kernel, rfl⟩
theorem e_X3_factor_79 : g_dc cX3_factor 79 (.invokevirtual 46) 3 82 := ⟨by decide +kernel, rfl⟩
theorem e_X3_factor_82 : g_dc cX3_factor 82 (.return_) 1 83 := ⟨by decide +kernel, rfl⟩
theorem e_X3_factor_83 : g_dc cX3_factor 83 (.aload_n 0) 1 84 := ⟨by decide +kernel, rfl⟩
theorem e_X3_factor_84 : g_dc cX3_factor 84 (.dup) 1 85 := ⟨by decide +kernel, rfl⟩
theorem e_X3_factor_85 : g_dc cX3_factor 85 (.getfield 19) 3 88 := ⟨by decide +kernel, rfl⟩
theorem e_X3_factor_88 : g_dc cX3_factor 88 (.iconst 1) 1 89 := ⟨by decide +kernel, rfl⟩
theorem e_X3_factor_89 : g_dc cX3_factor 89 (.iadd) 1 90 := ⟨by decide +kernel, rfl⟩
theorem e_X3_factor_90 : g_dc cX3_factor 90 (.putfield 19) 3 93 := ⟨by decide +kernel, rfl⟩
theorem e_X3_factor_93 : g_dc cX3_factor 93 (.aload_n 0) 1 94 := ⟨by decide +kernel, rfl⟩
theorem e_X3_factor_94 : g_dc cX3_factor 94 (.getfield 25) 3 97 := ⟨by decide +kernel, rfl⟩
theorem e_X3_factor_97 : g_dc cX3_factor 97 (.iconst 2) 1 98 := ⟨by decide +kernel, rfl⟩
theorem e_X3_factor_98 : g_dc cX3_factor 98 (.iload_n 2) 1 99 := ⟨by decide +kernel, rfl⟩
theorem e_X3_factor_99 : g_dc cX3_factor 99 (.invokevirtual 66) 3 102 := ⟨by decide +kernel, rfl⟩
theorem e_X3_factor_102 : g_dc cX3_factor 102 (.pop) 1 103 := ⟨by decide +kernel, rfl⟩
theorem e_X3_factor_103 : g_dc cX3_factor 103 (.return_) 1 104 := ⟨by decide +kernel, rfl⟩
def md_X3_factor_c6 : List Nat := [402, 531, 532]
def mr_X3_factor_c6 : List Nat := [26, 27]
set_option maxHeartbeats 4000000 in
set_option maxRecDepth 100000 in
theorem w_X3_factor_c6 (l : Launch) (X : gX) (ad : Nat → Nat) (F : Nat → Int32) (R : Nat → Nat → Int32) (hI : g_ok LK_wX F) (hA : g_okR LA_wX R) : g_Cv l X yX3_factor cX3_factor 3 5 0 0 [.ref (ad 33), .int 6] (wX X ad F R) (fun w => ∃ (F' : Nat → Int32) (R' : Nat → Nat → Int32), w = wX X ad F' R' ∧ g_ok LK_wX F' ∧ g_okR LA_wX R' ∧ g_fr md_X3_factor_c6 F F' ∧ g_fr mr_X3_factor_c6 R R') := by
  refine g_mv (by decide +kernel) (Nat.le_of_ble_eq_true rfl) (fun E cx hret => ?_)
  refine g_aload_n cx 0 rfl e_X3_factor_0 ?_
  refine g_cViW cx [] [] (w_X3_sign l X ad F R hI hA) ml_X3_42 yV_X3_sign e_X3_factor_1 (by unfold g_rr; decide) (by decide) 33 rfl rfl rfl (Nat.le_of_ble_eq_true rfl) (fun r1 w2 h3 => ?_)
  obtain ⟨rfl, pr1⟩ := h3
  refine g_bipush cx 91 (by decide) e_X3_factor_4 ?_
  refine g_icmp_ne cx 31 e_X3_factor_6 (by decide) (fun zc4 => ?_) (fun zc4 => ?_)
  · refine g_aload_n cx 0 rfl e_X3_factor_31 ?_
    refine g_cViW cx [] [] (w_X3_sign l X ad F R hI hA) ml_X3_42 yV_X3_sign e_X3_factor_32 (by unfold g_rr; decide) (by decide) 33 rfl rfl rfl (Nat.le_of_ble_eq_true rfl) (fun r5 w6 h7 => ?_)
    obtain ⟨rfl, pr5⟩ := h7
    refine g_bipush cx 48 (by decide) e_X3_factor_35 ?_
    refine g_bipush cx 57 (by decide) e_X3_factor_37 ?_
    refine g_cNiW cx [.int r5, .int 48, .int 57] [] (c_X10_within l X (wX X ad F R) r5 48 57) mn_X3_102 yS_X10_within e_X3_factor_39 (by unfold g_rr; decide) (by decide) rfl (Nat.le_of_ble_eq_true rfl) (fun r8 w9 h10 => ?_)
    obtain ⟨rfl, hr8⟩ := h10
    have pr8 : jv 0 1 r8 := by rw [hr8]; exact gi_01 _ _ _
    refine g_if_eq cx 50 e_X3_factor_42 (by decide) (fun zc11 => ?_) (fun zc11 => ?_)
    · have p12 := gn_eq 0 0 (gc_eq zc11) pr8 (jv_k (x := 0) 0 (by decide)) (by decide)
      refine g_aload_n cx 0 rfl e_X3_factor_50 ?_
      refine g_cViW cx [] [] (w_X3_sign l X ad F R hI hA) ml_X3_42 yV_X3_sign e_X3_factor_51 (by unfold g_rr; decide) (by decide) 33 rfl rfl rfl (Nat.le_of_ble_eq_true rfl) (fun r13 w14 h15 => ?_)
      obtain ⟨rfl, pr13⟩ := h15
      refine g_iconst cx (-1) (by decide) e_X3_factor_54 ?_
      have J72 : ∀ (y16 : Int32), (jv (-1) 11 y16) → G X E 3 0 0 (wX X ad F R) [(0, .ref (ad 33))] 72 [.int y16] := by
        intro y16 py16
        refine g_istore_n cx [(2, .int y16), (0, .ref (ad 33))] e_X3_factor_72 (by decide) rfl ?_
        refine g_iload_n cx 0 rfl e_X3_factor_73 ?_
        refine g_if_ge cx 83 e_X3_factor_74 (by decide) (fun zc17 => ?_) (fun zc17 => ?_)
        · have p18 := gn_ge 0 11 (gc_le zc17) py16 (jv_k (x := 0) 0 (by decide)) (by decide)
          refine g_aload_n cx 1 rfl e_X3_factor_83 ?_
          refine g_dup cx rfl e_X3_factor_84 ?_
          refine g_get cx cl_X3 fl_X3_19 33 (.int (F 531)) e_X3_factor_85 rfl rfl ?_
          refine g_iconst cx 1 (by decide) e_X3_factor_88 ?_
          refine g_iadd cx e_X3_factor_89 ?_
          refine g_topi (fun x19 ex19 => ?_)
          refine g_put cx cl_X3 fl_X3_19 33 (wX X ad (upd F 531 x19) R) e_X3_factor_90 rfl rfl rfl rfl (Nat.le_of_ble_eq_true rfl) rfl ?_
          obtain ⟨F20, hF20⟩ : ∃ z, z = upd F 531 x19 := ⟨_, rfl⟩
          rw [← hF20]
          have oF20 : g_ok LK_wX F20 := by rw [hF20]; exact g_ok_u hI rfl
          have fF20 : g_fr md_X3_factor_c6 F F20 := by rw [hF20]; exact g_fr_u (g_fr_rf F) rfl
          refine g_aload_n cx 1 rfl e_X3_factor_93 ?_
          refine g_get cx cl_X3 fl_X3_25 33 (.ref (ad 25)) e_X3_factor_94 rfl rfl ?_
          refine g_iconst cx 2 (by decide) e_X3_factor_97 ?_
          refine g_iload_n cx 0 rfl e_X3_factor_98 ?_
          refine g_cViW cx [.int 2, .int y16] [] (w_X2_emit_25 l X ad F20 R oF20 hA 2 y16) ml_X3_66 yV_X2_emit e_X3_factor_99 (by unfold g_rr; decide) (by decide) 25 rfl rfl rfl (Nat.le_of_ble_eq_true rfl) (fun r21 w22 h23 => ?_)
          obtain ⟨F24, R25, rfl, oF24, oR25, cF24, cR25, pr21⟩ := h23
          have fF24 : g_fr md_X3_factor_c6 F F24 := g_fr_c fF20 cF24 rfl
          have fR25 : g_fr mr_X3_factor_c6 R R25 := g_fr_c (g_fr_rf R) cR25 rfl
          refine g_pop cx rfl e_X3_factor_102 ?_
          exact hret e_X3_factor_103 (Nat.le_of_ble_eq_true rfl) (Nat.le_of_ble_eq_true rfl) ⟨F24, R25, rfl, oF24, oR25, fF24, fR25⟩
        · have p26 := gn_lt (-1) (-1) (gc_nle zc17) py16 (jv_k (x := 0) 0 (by decide)) (by decide)
          refine g_aload_n cx 1 rfl e_X3_factor_77 ?_
          refine g_iconst cx 1 (by decide) e_X3_factor_78 ?_
          refine g_cVvW cx [.int 1] [] (w_X3_fail l X ad F R hI hA 1) ml_X3_46 yV_X3_fail e_X3_factor_79 (by unfold g_rr; decide) (by decide) 33 rfl rfl rfl (Nat.le_of_ble_eq_true rfl) (fun w28 h29 => ?_)
          obtain ⟨F30, R31, rfl, oF30, oR31, cF30, cR31⟩ := h29
          have fF30 : g_fr md_X3_factor_c6 F F30 := g_fr_c (g_fr_rf F) cF30 rfl
          have fR31 : g_fr mr_X3_factor_c6 R R31 := g_fr_c (g_fr_rf R) cR31 rfl
          exact hret e_X3_factor_82 (Nat.le_of_ble_eq_true rfl) (Nat.le_of_ble_eq_true rfl) ⟨F30, R31, rfl, oF30, oR31, fF30, fR31⟩
      refine g_icmp_ne cx 62 e_X3_factor_55 (by decide) (fun zc32 => ?_) (fun zc32 => ?_)
      · refine g_ldcS1 cx rfl e_X3_factor_62 ?_
        refine g_aload_n cx 0 rfl e_X3_factor_64 ?_
        refine g_cViW cx [] [.ref (X.1.2.2.2.1 1)] (w_X3_sign l X ad F R hI hA) ml_X3_42 yV_X3_sign e_X3_factor_65 (by unfold g_rr; decide) (by decide) 33 rfl rfl rfl (Nat.le_of_ble_eq_true rfl) (fun r33 w34 h35 => ?_)
        obtain ⟨rfl, pr33⟩ := h35
        refine g_i2c cx e_X3_factor_68 ?_
        refine g_topi (fun x36 ex36 => ?_)
        refine g_cVsW cx [.int x36] [] 1 (by decide) rfl (w_J0_indexOf_0f7a4_s1 l X (wX X ad F R) x36) ml_X3_52 yV_J0_indexOf_0f7a4 e_X3_factor_69 (by unfold g_rr; decide) (by decide) rfl (Nat.le_of_ble_eq_true rfl) (fun r37 w38 h39 => ?_)
        obtain ⟨rfl, pr37⟩ := h39
        refine g_lsub [0] [(0, .ref (ad 33))] rfl ?_
        exact J72 r37 pr37
      · have p40 := gn_eq (-1) (-1) (gc_eq zc32) pr13 (jv_k (x := (-1)) (-1) (by decide)) (by decide)
        refine g_iconst cx (-1) (by decide) e_X3_factor_58 ?_
        refine g_goto cx 72 e_X3_factor_59 (by decide) ?_
        refine g_lsub [0] [(0, .ref (ad 33))] rfl ?_
        exact J72 (-1) (jv_w (jv_k (x := (-1)) (-1) (by decide)) (by decide))
    · have p41 := gn_neL 1 1 (gc_ne zc11) pr8 (jv_k (x := 0) 0 (by decide)) (by decide)
      have p42 := jv_i 48 57 pr5 (gi_in (A := 48) (B := 57) hr8 zc11 (by decide) (by decide)) (by decide)
      refine g_aload_n cx 0 rfl e_X3_factor_45 ?_
      refine g_cVvW cx [] [] (w_X3_number l X ad F R hI hA) ml_X3_106 yV_X3_number e_X3_factor_46 (by unfold g_rr; decide) (by decide) 33 rfl rfl rfl (Nat.le_of_ble_eq_true rfl) (fun w44 h45 => ?_)
      obtain ⟨F46, R47, rfl, oF46, oR47, cF46, cR47⟩ := h45
      have fF46 : g_fr md_X3_factor_c6 F F46 := g_fr_c (g_fr_rf F) cF46 rfl
      have fR47 : g_fr mr_X3_factor_c6 R R47 := g_fr_c (g_fr_rf R) cR47 rfl
      exact hret e_X3_factor_49 (Nat.le_of_ble_eq_true rfl) (Nat.le_of_ble_eq_true rfl) ⟨F46, R47, rfl, oF46, oR47, fF46, fR47⟩
  · have p48 := gn_eq 91 91 (gc_eq zc4) pr1 (jv_k (x := 91) 91 (by decide)) (by decide)
    refine g_aload_n cx 0 rfl e_X3_factor_9 ?_
    refine g_iload_n cx 1 rfl e_X3_factor_10 ?_
    refine g_cViW cx [.int 6] [] (w_X3_opens_c6 l X ad F R hI hA) ml_X3_89 yV_X3_opens e_X3_factor_11 (by unfold g_rr; decide) (by decide) 33 rfl rfl rfl (Nat.le_of_ble_eq_true rfl) (fun r49 w50 h51 => ?_)
    obtain ⟨F52, R53, rfl, oF52, oR53, cF52, cR53, pr49⟩ := h51
    have fF52 : g_fr md_X3_factor_c6 F F52 := g_fr_c (g_fr_rf F) cF52 rfl
    have fR53 : g_fr mr_X3_factor_c6 R R53 := g_fr_c (g_fr_rf R) cR53 rfl
    refine g_if_eq cx 30 e_X3_factor_14 (by decide) (fun zc54 => ?_) (fun zc54 => ?_)
    · exact hret e_X3_factor_30 (Nat.le_of_ble_eq_true rfl) (Nat.le_of_ble_eq_true rfl) ⟨F52, R53, rfl, oF52, oR53, fF52, fR53⟩
    · exact (gf_ne (gc_ne zc54) pr49 (jv_k (x := 0) 0 (by decide)) (by decide)).elim
theorem e_X3_product_0 : g_dc cX3_product 0 (.aload_n 0) 1 1 := ⟨by decide +kernel, rfl⟩
theorem e_X3_product_1 : g_dc cX3_product 1 (.iload_n 1) 1 2 := ⟨by decide +kernel, rfl⟩
theorem e_X3_product_2 : g_dc cX3_product 2 (.invokevirtual 99) 3 5 := ⟨by decide +kernel, rfl⟩
theorem e_X3_product_5 : g_dc cX3_product 5 (.iconst 0) 1 6 := ⟨by decide +kernel, rfl⟩
theorem e_X3_product_6 : g_dc cX3_product 6 (.istore_n 2) 1 7 := ⟨by decide +kernel, rfl⟩
theorem e_X3_product_7 : g_dc cX3_product 7 (.iload_n 2) 1 8 := ⟨by decide +kernel, rfl⟩
theorem e_X3_product_8 : g_dc cX3_product 8 (.sipush 200) 3 11 := ⟨by decide +kernel, rfl⟩
theorem e_X3_product_11 : g_dc cX3_product 11 (.if_icmp .ge 92) 3 14 := ⟨by decide +kernel, rfl⟩
theorem e_X3_product_14 : g_dc cX3_product 14 (.aload_n 0) 1 15 := ⟨by decide +kernel, rfl⟩
theorem e_X3_product_15 : g_dc cX3_product 15 (.invokevirtual 42) 3 18 := ⟨by decide +kernel, rfl⟩
theorem e_X3_product_18 : g_dc cX3_product 18 (.bipush 42) 2 20 := ⟨by decide +kernel, rfl⟩
theorem e_X3_product_20 : g_dc cX3_product 20 (.if_icmp .eq 21) 3 23 := ⟨by decide +kernel, rfl⟩
theorem e_X3_product_23 : g_dc cX3_product 23 (.aload_n 0) 1 24 := ⟨by decide +kernel, rfl⟩
theorem e_X3_product_24 : g_dc cX3_product 24 (.invokevirtual 42) 3 27 := ⟨by decide +kernel, rfl⟩
theorem e_X3_product_27 : g_dc cX3_product 27 (.bipush 47) 2 29 := ⟨by decide +kernel, rfl⟩
theorem e_X3_product_29 : g_dc cX3_product 29 (.if_icmp .eq 12) 3 32 := ⟨by decide +kernel, rfl⟩
theorem e_X3_product_32 : g_dc cX3_product 32 (.aload_n 0) 1 33 := ⟨by decide +kernel, rfl⟩
theorem e_X3_product_33 : g_dc cX3_product 33 (.invokevirtual 42) 3 36 := ⟨by decide +kernel, rfl⟩
theorem e_X3_product_36 : g_dc cX3_product 36 (.bipush 37) 2 38 := ⟨by decide +kernel, rfl⟩
theorem e_X3_product_38 : g_dc cX3_product 38 (.if_icmp .ne 65) 3 41 := ⟨by decide +kernel, rfl⟩
theorem e_X3_product_41 : g_dc cX3_product 41 (.aload_n 0) 1 42 := ⟨by decide +kernel, rfl⟩
theorem e_X3_product_42 : g_dc cX3_product 42 (.invokevirtual 42) 3 45 := ⟨by decide +kernel, rfl⟩
theorem e_X3_product_45 : g_dc cX3_product 45 (.bipush 42) 2 47 := ⟨by decide +kernel, rfl⟩
theorem e_X3_product_47 : g_dc cX3_product 47 (.if_icmp .ne 8) 3 50 := ⟨by decide +kernel, rfl⟩
theorem e_X3_product_50 : g_dc cX3_product 50 (.bipush 8) 2 52 := ⟨by decide +kernel, rfl⟩
theorem e_X3_product_52 : g_dc cX3_product 52 (.goto 19) 3 55 := ⟨by decide +kernel, rfl⟩
theorem e_X3_product_55 : g_dc cX3_product 55 (.aload_n 0) 1 56 := ⟨by decide +kernel, rfl⟩
theorem e_X3_product_56 : g_dc cX3_product 56 (.invokevirtual 42) 3 59 := ⟨by decide +kernel, rfl⟩
theorem e_X3_product_59 : g_dc cX3_product 59 (.bipush 47) 2 61 := ⟨by decide +kernel, rfl⟩
theorem e_X3_product_61 : g_dc cX3_product 61 (.if_icmp .ne 8) 3 64 := ⟨by decide +kernel, rfl⟩
theorem e_X3_product_64 : g_dc cX3_product 64 (.bipush 9) 2 66 := ⟨by decide +kernel, rfl⟩
theorem e_X3_product_66 : g_dc cX3_product 66 (.goto 5) 3 69 := ⟨by decide +kernel, rfl⟩
theorem e_X3_product_69 : g_dc cX3_product 69 (.bipush 10) 2 71 := ⟨by decide +kernel, rfl⟩
theorem e_X3_product_71 : g_dc cX3_product 71 (.istore_n 3) 1 72 := ⟨by decide +kernel, rfl⟩
theorem e_X3_product_72 : g_dc cX3_product 72 (.aload_n 0) 1 73 := ⟨by decide +kernel, rfl⟩
theorem e_X3_product_73 : g_dc cX3_product 73 (.dup) 1 74 := ⟨by decide +kernel, rfl⟩
theorem e_X3_product_74 : g_dc cX3_product 74 (.getfield 19) 3 77 := ⟨by decide +kernel, rfl⟩
theorem e_X3_product_77 : g_dc cX3_product 77 (.iconst 1) 1 78 := ⟨by decide +kernel, rfl⟩
theorem e_X3_product_78 : g_dc cX3_product 78 (.iadd) 1 79 := ⟨by decide +kernel, rfl⟩
theorem e_X3_product_79 : g_dc cX3_product 79 (.putfield 19) 3 82 := ⟨by decide +kernel, rfl⟩
theorem e_X3_product_82 : g_dc cX3_product 82 (.aload_n 0) 1 83 := ⟨by decide +kernel, rfl⟩
theorem e_X3_product_83 : g_dc cX3_product 83 (.iload_n 1) 1 84 := ⟨by decide +kernel, rfl⟩
theorem e_X3_product_84 : g_dc cX3_product 84 (.invokevirtual 99) 3 87 := ⟨by decide +kernel, rfl⟩
theorem e_X3_product_87 : g_dc cX3_product 87 (.aload_n 0) 1 88 := ⟨by decide +kernel, rfl⟩
theorem e_X3_product_88 : g_dc cX3_product 88 (.getfield 25) 3 91 := ⟨by decide +kernel, rfl⟩
theorem e_X3_product_91 : g_dc cX3_product 91 (.iload_n 3) 1 92 := ⟨by decide +kernel, rfl⟩
theorem e_X3_product_92 : g_dc cX3_product 92 (.iconst 0) 1 93 := ⟨by decide +kernel, rfl⟩
theorem e_X3_product_93 : g_dc cX3_product 93 (.invokevirtual 66) 3 96 := ⟨by decide +kernel, rfl⟩
theorem e_X3_product_96 : g_dc cX3_product 96 (.pop) 1 97 := ⟨by decide +kernel, rfl⟩
theorem e_X3_product_97 : g_dc cX3_product 97 (.iinc 2 1) 3 100 := ⟨by decide +kernel, rfl⟩
theorem e_X3_product_100 : g_dc cX3_product 100 (.goto (-93)) 3 103 := ⟨by decide +kernel, rfl⟩
theorem e_X3_product_103 : g_dc cX3_product 103 (.return_) 1 104 := ⟨by decide +kernel, rfl⟩
def md_X3_product_c6 : List Nat := [402, 531, 532]
def mr_X3_product_c6 : List Nat := [26, 27]
set_option maxHeartbeats 4000000 in
set_option maxRecDepth 100000 in
theorem w_X3_product_c6 (l : Launch) (X : gX) (ad : Nat → Nat) (F : Nat → Int32) (R : Nat → Nat → Int32) (hI : g_ok LK_wX F) (hA : g_okR LA_wX R) : g_Cv l X yX3_product cX3_product 4 6 0 0 [.ref (ad 33), .int 6] (wX X ad F R) (fun w => ∃ (F' : Nat → Int32) (R' : Nat → Nat → Int32), w = wX X ad F' R' ∧ g_ok LK_wX F' ∧ g_okR LA_wX R' ∧ g_fr md_X3_product_c6 F F' ∧ g_fr mr_X3_product_c6 R R') := by
  refine g_mv (by decide +kernel) (Nat.le_of_ble_eq_true rfl) (fun E cx hret => ?_)
  refine g_aload_n cx 0 rfl e_X3_product_0 ?_
  refine g_iload_n cx 1 rfl e_X3_product_1 ?_
  refine g_cVvW cx [.int 6] [] (w_X3_factor_c6 l X ad F R hI hA) ml_X3_99 yV_X3_factor e_X3_product_2 (by unfold g_rr; decide) (by decide) 33 rfl rfl rfl (Nat.le_of_ble_eq_true rfl) (fun w2 h3 => ?_)
  obtain ⟨F4, R5, rfl, oF4, oR5, cF4, cR5⟩ := h3
  have fF4 : g_fr md_X3_product_c6 F F4 := g_fr_c (g_fr_rf F) cF4 rfl
  have fR5 : g_fr mr_X3_product_c6 R R5 := g_fr_c (g_fr_rf R) cR5 rfl
  refine g_iconst cx 0 (by decide) e_X3_product_5 ?_
  refine g_istore_n cx [(2, .int 0), (0, .ref (ad 33)), (1, .int 6)] e_X3_product_6 (by decide) rfl ?_
  have J7 : ∀ (N : Nat) (F7 : Nat → Int32) (R8 : Nat → Nat → Int32) (y6 : Int32), (g_ok LK_wX F7) → (g_fr md_X3_product_c6 F F7) → (g_okR LA_wX R8) → (g_fr mr_X3_product_c6 R R8) → (jv 0 200 y6) → (2147483647 - y6.toInt).toNat < N → G X E 4 0 0 (wX X ad F7 R8) [(0, .ref (ad 33)), (1, .int 6), (2, .int y6)] 7 [] := by
    intro N
    induction N with
    | zero => intro F7 R8 y6 oF7 fF7 oR8 fR8 py6 hm; exact absurd hm (Nat.not_lt_zero _)
    | succ N ih7 =>
      intro F7 R8 y6 oF7 fF7 oR8 fR8 py6 hm7
      refine g_iload_n cx 2 rfl e_X3_product_7 ?_
      refine g_sipush cx 200 (by decide) e_X3_product_8 ?_
      have J103 : G X E 4 0 0 (wX X ad F7 R8) [] 103 [] := by
        exact hret e_X3_product_103 (Nat.le_of_ble_eq_true rfl) (Nat.le_of_ble_eq_true rfl) ⟨F7, R8, rfl, oF7, oR8, fF7, fR8⟩
      refine g_icmp_ge cx 103 e_X3_product_11 (by decide) (fun zc9 => ?_) (fun zc9 => ?_)
      · have p10 := gn_ge 200 200 (gc_le zc9) py6 (jv_k (x := 200) 200 (by decide)) (by decide)
        refine g_lsub [] [] rfl ?_
        exact J103  
      · have p11 := gn_lt 0 199 (gc_nle zc9) py6 (jv_k (x := 200) 200 (by decide)) (by decide)
        refine g_aload_n cx 0 rfl e_X3_product_14 ?_
        refine g_cViW cx [] [] (w_X3_sign l X ad F7 R8 oF7 oR8) ml_X3_42 yV_X3_sign e_X3_product_15 (by unfold g_rr; decide) (by decide) 33 rfl rfl rfl (Nat.le_of_ble_eq_true rfl) (fun r12 w13 h14 => ?_)
        obtain ⟨rfl, pr12⟩ := h14
        refine g_bipush cx 42 (by decide) e_X3_product_18 ?_
        have J41 : G X E 4 0 0 (wX X ad F7 R8) [(0, .ref (ad 33)), (1, .int 6), (2, .int y6)] 41 [] := by
          refine g_aload_n cx 0 rfl e_X3_product_41 ?_
          refine g_cViW cx [] [] (w_X3_sign l X ad F7 R8 oF7 oR8) ml_X3_42 yV_X3_sign e_X3_product_42 (by unfold g_rr; decide) (by decide) 33 rfl rfl rfl (Nat.le_of_ble_eq_true rfl) (fun r15 w16 h17 => ?_)
          obtain ⟨rfl, pr15⟩ := h17
          refine g_bipush cx 42 (by decide) e_X3_product_45 ?_
          have J71 : ∀ (y18 : Int32), (jv 8 10 y18) → G X E 4 0 0 (wX X ad F7 R8) [(0, .ref (ad 33)), (1, .int 6), (2, .int y6)] 71 [.int y18] := by
            intro y18 py18
            refine g_istore_n cx [(3, .int y18), (0, .ref (ad 33)), (1, .int 6), (2, .int y6)] e_X3_product_71 (by decide) rfl ?_
            refine g_aload_n cx 1 rfl e_X3_product_72 ?_
            refine g_dup cx rfl e_X3_product_73 ?_
            refine g_get cx cl_X3 fl_X3_19 33 (.int (F7 531)) e_X3_product_74 rfl rfl ?_
            refine g_iconst cx 1 (by decide) e_X3_product_77 ?_
            refine g_iadd cx e_X3_product_78 ?_
            refine g_topi (fun x19 ex19 => ?_)
            refine g_put cx cl_X3 fl_X3_19 33 (wX X ad (upd F7 531 x19) R8) e_X3_product_79 rfl rfl rfl rfl (Nat.le_of_ble_eq_true rfl) rfl ?_
            obtain ⟨F20, hF20⟩ : ∃ z, z = upd F7 531 x19 := ⟨_, rfl⟩
            rw [← hF20]
            have oF20 : g_ok LK_wX F20 := by rw [hF20]; exact g_ok_u oF7 rfl
            have fF20 : g_fr md_X3_product_c6 F F20 := by rw [hF20]; exact g_fr_u fF7 rfl
            refine g_aload_n cx 1 rfl e_X3_product_82 ?_
            refine g_iload_n cx 2 rfl e_X3_product_83 ?_
            refine g_cVvW cx [.int 6] [] (w_X3_factor_c6 l X ad F20 R8 oF20 oR8) ml_X3_99 yV_X3_factor e_X3_product_84 (by unfold g_rr; decide) (by decide) 33 rfl rfl rfl (Nat.le_of_ble_eq_true rfl) (fun w22 h23 => ?_)
            obtain ⟨F24, R25, rfl, oF24, oR25, cF24, cR25⟩ := h23
            have fF24 : g_fr md_X3_product_c6 F F24 := g_fr_c fF20 cF24 rfl
            have fR25 : g_fr mr_X3_product_c6 R R25 := g_fr_c fR8 cR25 rfl
            refine g_aload_n cx 1 rfl e_X3_product_87 ?_
            refine g_get cx cl_X3 fl_X3_25 33 (.ref (ad 25)) e_X3_product_88 rfl rfl ?_
            refine g_iload_n cx 0 rfl e_X3_product_91 ?_
            refine g_iconst cx 0 (by decide) e_X3_product_92 ?_
            refine g_cViW cx [.int y18, .int 0] [] (w_X2_emit_25 l X ad F24 R25 oF24 oR25 y18 0) ml_X3_66 yV_X2_emit e_X3_product_93 (by unfold g_rr; decide) (by decide) 25 rfl rfl rfl (Nat.le_of_ble_eq_true rfl) (fun r26 w27 h28 => ?_)
            obtain ⟨F29, R30, rfl, oF29, oR30, cF29, cR30, pr26⟩ := h28
            have fF29 : g_fr md_X3_product_c6 F F29 := g_fr_c fF24 cF29 rfl
            have fR30 : g_fr mr_X3_product_c6 R R30 := g_fr_c fR25 cR30 rfl
            refine g_pop cx rfl e_X3_product_96 ?_
            obtain ⟨x31, ex31⟩ : ∃ z : Int32, z = y6 + Int32.ofInt 1 := ⟨_, rfl⟩
            refine g_iinc cx x31 [(2, .int x31), (3, .int y18), (0, .ref (ad 33)), (1, .int 6)] 3 e_X3_product_97 rfl ex31.symm (by decide) rfl ?_
            have zx31 := jv_add 1 200 (show x31 = y6 + 1 from ex31) p11 (jv_k (x := 1) 1 (by decide)) (by decide)
            refine g_goto cx 7 e_X3_product_100 (by decide) ?_
            refine g_lsub [2, 3, 0] [(0, .ref (ad 33)), (1, .int 6), (2, .int x31)] rfl ?_
            exact ih7 F29 R30 x31 oF29 fF29 oR30 fR30 (jv_w zx31.2 (by decide)) (Nat.lt_of_lt_of_le (show (2147483647 - x31.toInt).toNat < (2147483647 - y6.toInt).toNat from by have q0 := (jv_k (x := 1) 1 (by decide)).1; have q1 := (jv_k (x := 1) 1 (by decide)).2; have q2 := (jv_k (x := 200) 200 (by decide)).1; have q3 := (jv_k (x := 200) 200 (by decide)).2; have q4 := zx31.2.1; have q5 := zx31.2.2; have q6 := p11.1; have q7 := p11.2; have q8 := (gc_nle zc9); have q9 := (g_eq0 zx31.1); omega) (Nat.le_of_lt_succ hm7))
          refine g_icmp_ne cx 55 e_X3_product_47 (by decide) (fun zc32 => ?_) (fun zc32 => ?_)
          · refine g_aload_n cx 0 rfl e_X3_product_55 ?_
            refine g_cViW cx [] [] (w_X3_sign l X ad F7 R8 oF7 oR8) ml_X3_42 yV_X3_sign e_X3_product_56 (by unfold g_rr; decide) (by decide) 33 rfl rfl rfl (Nat.le_of_ble_eq_true rfl) (fun r33 w34 h35 => ?_)
            obtain ⟨rfl, pr33⟩ := h35
            refine g_bipush cx 47 (by decide) e_X3_product_59 ?_
            refine g_icmp_ne cx 69 e_X3_product_61 (by decide) (fun zc36 => ?_) (fun zc36 => ?_)
            · refine g_bipush cx 10 (by decide) e_X3_product_69 ?_
              exact J71 10 (jv_w (jv_k (x := 10) 10 (by decide)) (by decide))
            · have p37 := gn_eq 47 47 (gc_eq zc36) pr33 (jv_k (x := 47) 47 (by decide)) (by decide)
              refine g_bipush cx 9 (by decide) e_X3_product_64 ?_
              refine g_goto cx 71 e_X3_product_66 (by decide) ?_
              exact J71 9 (jv_w (jv_k (x := 9) 9 (by decide)) (by decide))
          · have p38 := gn_eq 42 42 (gc_eq zc32) pr15 (jv_k (x := 42) 42 (by decide)) (by decide)
            refine g_bipush cx 8 (by decide) e_X3_product_50 ?_
            refine g_goto cx 71 e_X3_product_52 (by decide) ?_
            exact J71 8 (jv_w (jv_k (x := 8) 8 (by decide)) (by decide))
        refine g_icmp_eq cx 41 e_X3_product_20 (by decide) (fun zc39 => ?_) (fun zc39 => ?_)
        · have p40 := gn_eq 42 42 (gc_eq zc39) pr12 (jv_k (x := 42) 42 (by decide)) (by decide)
          exact J41  
        · refine g_aload_n cx 0 rfl e_X3_product_23 ?_
          refine g_cViW cx [] [] (w_X3_sign l X ad F7 R8 oF7 oR8) ml_X3_42 yV_X3_sign e_X3_product_24 (by unfold g_rr; decide) (by decide) 33 rfl rfl rfl (Nat.le_of_ble_eq_true rfl) (fun r41 w42 h43 => ?_)
          obtain ⟨rfl, pr41⟩ := h43
          refine g_bipush cx 47 (by decide) e_X3_product_27 ?_
          refine g_icmp_eq cx 41 e_X3_product_29 (by decide) (fun zc44 => ?_) (fun zc44 => ?_)
          · have p45 := gn_eq 47 47 (gc_eq zc44) pr41 (jv_k (x := 47) 47 (by decide)) (by decide)
            exact J41  
          · refine g_aload_n cx 0 rfl e_X3_product_32 ?_
            refine g_cViW cx [] [] (w_X3_sign l X ad F7 R8 oF7 oR8) ml_X3_42 yV_X3_sign e_X3_product_33 (by unfold g_rr; decide) (by decide) 33 rfl rfl rfl (Nat.le_of_ble_eq_true rfl) (fun r46 w47 h48 => ?_)
            obtain ⟨rfl, pr46⟩ := h48
            refine g_bipush cx 37 (by decide) e_X3_product_36 ?_
            refine g_icmp_ne cx 103 e_X3_product_38 (by decide) (fun zc49 => ?_) (fun zc49 => ?_)
            · refine g_lsub [] [] rfl ?_
              exact J103  
            · have p50 := gn_eq 37 37 (gc_eq zc49) pr46 (jv_k (x := 37) 37 (by decide)) (by decide)
              exact J41  
  refine g_lsub [1, 2, 0] [(0, .ref (ad 33)), (1, .int 6), (2, .int 0)] rfl ?_
  exact J7 _ F4 R5 0 oF4 fF4 oR5 fR5 (jv_w (jv_k (x := 0) 0 (by decide)) (by decide)) (Nat.lt_succ_self _)
theorem e_X3_sum_0 : g_dc cX3_sum 0 (.aload_n 0) 1 1 := ⟨by decide +kernel, rfl⟩
theorem e_X3_sum_1 : g_dc cX3_sum 1 (.iload_n 1) 1 2 := ⟨by decide +kernel, rfl⟩
theorem e_X3_sum_2 : g_dc cX3_sum 2 (.invokevirtual 96) 3 5 := ⟨by decide +kernel, rfl⟩
theorem e_X3_sum_5 : g_dc cX3_sum 5 (.iconst 0) 1 6 := ⟨by decide +kernel, rfl⟩
theorem e_X3_sum_6 : g_dc cX3_sum 6 (.istore_n 2) 1 7 := ⟨by decide +kernel, rfl⟩
theorem e_X3_sum_7 : g_dc cX3_sum 7 (.iload_n 2) 1 8 := ⟨by decide +kernel, rfl⟩
theorem e_X3_sum_8 : g_dc cX3_sum 8 (.sipush 200) 3 11 := ⟨by decide +kernel, rfl⟩
theorem e_X3_sum_11 : g_dc cX3_sum 11 (.if_icmp .ge 69) 3 14 := ⟨by decide +kernel, rfl⟩
theorem e_X3_sum_14 : g_dc cX3_sum 14 (.aload_n 0) 1 15 := ⟨by decide +kernel, rfl⟩
theorem e_X3_sum_15 : g_dc cX3_sum 15 (.invokevirtual 42) 3 18 := ⟨by decide +kernel, rfl⟩
theorem e_X3_sum_18 : g_dc cX3_sum 18 (.bipush 43) 2 20 := ⟨by decide +kernel, rfl⟩
theorem e_X3_sum_20 : g_dc cX3_sum 20 (.if_icmp .eq 12) 3 23 := ⟨by decide +kernel, rfl⟩
theorem e_X3_sum_23 : g_dc cX3_sum 23 (.aload_n 0) 1 24 := ⟨by decide +kernel, rfl⟩
theorem e_X3_sum_24 : g_dc cX3_sum 24 (.invokevirtual 42) 3 27 := ⟨by decide +kernel, rfl⟩
theorem e_X3_sum_27 : g_dc cX3_sum 27 (.bipush 45) 2 29 := ⟨by decide +kernel, rfl⟩
theorem e_X3_sum_29 : g_dc cX3_sum 29 (.if_icmp .ne 51) 3 32 := ⟨by decide +kernel, rfl⟩
theorem e_X3_sum_32 : g_dc cX3_sum 32 (.aload_n 0) 1 33 := ⟨by decide +kernel, rfl⟩
theorem e_X3_sum_33 : g_dc cX3_sum 33 (.invokevirtual 42) 3 36 := ⟨by decide +kernel, rfl⟩
theorem e_X3_sum_36 : g_dc cX3_sum 36 (.bipush 43) 2 38 := ⟨by decide +kernel, rfl⟩
theorem e_X3_sum_38 : g_dc cX3_sum 38 (.if_icmp .ne 8) 3 41 := ⟨by decide +kernel, rfl⟩
theorem e_X3_sum_41 : g_dc cX3_sum 41 (.bipush 6) 2 43 := ⟨by decide +kernel, rfl⟩
theorem e_X3_sum_43 : g_dc cX3_sum 43 (.goto 5) 3 46 := ⟨by decide +kernel, rfl⟩
theorem e_X3_sum_46 : g_dc cX3_sum 46 (.bipush 7) 2 48 := ⟨by decide +kernel, rfl⟩
theorem e_X3_sum_48 : g_dc cX3_sum 48 (.istore_n 3) 1 49 := ⟨by decide +kernel, rfl⟩
theorem e_X3_sum_49 : g_dc cX3_sum 49 (.aload_n 0) 1 50 := ⟨by decide +kernel, rfl⟩
theorem e_X3_sum_50 : g_dc cX3_sum 50 (.dup) 1 51 := ⟨by decide +kernel, rfl⟩
theorem e_X3_sum_51 : g_dc cX3_sum 51 (.getfield 19) 3 54 := ⟨by decide +kernel, rfl⟩
theorem e_X3_sum_54 : g_dc cX3_sum 54 (.iconst 1) 1 55 := ⟨by decide +kernel, rfl⟩
theorem e_X3_sum_55 : g_dc cX3_sum 55 (.iadd) 1 56 := ⟨by decide +kernel, rfl⟩
theorem e_X3_sum_56 : g_dc cX3_sum 56 (.putfield 19) 3 59 := ⟨by decide +kernel, rfl⟩
theorem e_X3_sum_59 : g_dc cX3_sum 59 (.aload_n 0) 1 60 := ⟨by decide +kernel, rfl⟩
theorem e_X3_sum_60 : g_dc cX3_sum 60 (.iload_n 1) 1 61 := ⟨by decide +kernel, rfl⟩
theorem e_X3_sum_61 : g_dc cX3_sum 61 (.invokevirtual 96) 3 64 := ⟨by decide +kernel, rfl⟩
theorem e_X3_sum_64 : g_dc cX3_sum 64 (.aload_n 0) 1 65 := ⟨by decide +kernel, rfl⟩
theorem e_X3_sum_65 : g_dc cX3_sum 65 (.getfield 25) 3 68 := ⟨by decide +kernel, rfl⟩
theorem e_X3_sum_68 : g_dc cX3_sum 68 (.iload_n 3) 1 69 := ⟨by decide +kernel, rfl⟩
theorem e_X3_sum_69 : g_dc cX3_sum 69 (.iconst 0) 1 70 := ⟨by decide +kernel, rfl⟩
theorem e_X3_sum_70 : g_dc cX3_sum 70 (.invokevirtual 66) 3 73 := ⟨by decide +kernel, rfl⟩
theorem e_X3_sum_73 : g_dc cX3_sum 73 (.pop) 1 74 := ⟨by decide +kernel, rfl⟩
theorem e_X3_sum_74 : g_dc cX3_sum 74 (.iinc 2 1) 3 77 := ⟨by decide +kernel, rfl⟩
theorem e_X3_sum_77 : g_dc cX3_sum 77 (.goto (-70)) 3 80 := ⟨by decide +kernel, rfl⟩
theorem e_X3_sum_80 : g_dc cX3_sum 80 (.return_) 1 81 := ⟨by decide +kernel, rfl⟩
def md_X3_sum_c6 : List Nat := [402, 531, 532]
def mr_X3_sum_c6 : List Nat := [26, 27]
set_option maxHeartbeats 4000000 in
set_option maxRecDepth 100000 in
theorem w_X3_sum_c6 (l : Launch) (X : gX) (ad : Nat → Nat) (F : Nat → Int32) (R : Nat → Nat → Int32) (hI : g_ok LK_wX F) (hA : g_okR LA_wX R) : g_Cv l X yX3_sum cX3_sum 4 7 0 0 [.ref (ad 33), .int 6] (wX X ad F R) (fun w => ∃ (F' : Nat → Int32) (R' : Nat → Nat → Int32), w = wX X ad F' R' ∧ g_ok LK_wX F' ∧ g_okR LA_wX R' ∧ g_fr md_X3_sum_c6 F F' ∧ g_fr mr_X3_sum_c6 R R') := by
  refine g_mv (by decide +kernel) (Nat.le_of_ble_eq_true rfl) (fun E cx hret => ?_)
  refine g_aload_n cx 0 rfl e_X3_sum_0 ?_
  refine g_iload_n cx 1 rfl e_X3_sum_1 ?_
  refine g_cVvW cx [.int 6] [] (w_X3_product_c6 l X ad F R hI hA) ml_X3_96 yV_X3_product e_X3_sum_2 (by unfold g_rr; decide) (by decide) 33 rfl rfl rfl (Nat.le_of_ble_eq_true rfl) (fun w2 h3 => ?_)
  obtain ⟨F4, R5, rfl, oF4, oR5, cF4, cR5⟩ := h3
  have fF4 : g_fr md_X3_sum_c6 F F4 := g_fr_c (g_fr_rf F) cF4 rfl
  have fR5 : g_fr mr_X3_sum_c6 R R5 := g_fr_c (g_fr_rf R) cR5 rfl
  refine g_iconst cx 0 (by decide) e_X3_sum_5 ?_
  refine g_istore_n cx [(2, .int 0), (0, .ref (ad 33)), (1, .int 6)] e_X3_sum_6 (by decide) rfl ?_
  have J7 : ∀ (N : Nat) (F7 : Nat → Int32) (R8 : Nat → Nat → Int32) (y6 : Int32), (g_ok LK_wX F7) → (g_fr md_X3_sum_c6 F F7) → (g_okR LA_wX R8) → (g_fr mr_X3_sum_c6 R R8) → (jv 0 200 y6) → (2147483647 - y6.toInt).toNat < N → G X E 4 0 0 (wX X ad F7 R8) [(0, .ref (ad 33)), (1, .int 6), (2, .int y6)] 7 [] := by
    intro N
    induction N with
    | zero => intro F7 R8 y6 oF7 fF7 oR8 fR8 py6 hm; exact absurd hm (Nat.not_lt_zero _)
    | succ N ih7 =>
      intro F7 R8 y6 oF7 fF7 oR8 fR8 py6 hm7
      refine g_iload_n cx 2 rfl e_X3_sum_7 ?_
      refine g_sipush cx 200 (by decide) e_X3_sum_8 ?_
      have J80 : G X E 4 0 0 (wX X ad F7 R8) [] 80 [] := by
        exact hret e_X3_sum_80 (Nat.le_of_ble_eq_true rfl) (Nat.le_of_ble_eq_true rfl) ⟨F7, R8, rfl, oF7, oR8, fF7, fR8⟩
      refine g_icmp_ge cx 80 e_X3_sum_11 (by decide) (fun zc9 => ?_) (fun zc9 => ?_)
      · have p10 := gn_ge 200 200 (gc_le zc9) py6 (jv_k (x := 200) 200 (by decide)) (by decide)
        refine g_lsub [] [] rfl ?_
        exact J80  
      · have p11 := gn_lt 0 199 (gc_nle zc9) py6 (jv_k (x := 200) 200 (by decide)) (by decide)
        refine g_aload_n cx 0 rfl e_X3_sum_14 ?_
        refine g_cViW cx [] [] (w_X3_sign l X ad F7 R8 oF7 oR8) ml_X3_42 yV_X3_sign e_X3_sum_15 (by unfold g_rr; decide) (by decide) 33 rfl rfl rfl (Nat.le_of_ble_eq_true rfl) (fun r12 w13 h14 => ?_)
        obtain ⟨rfl, pr12⟩ := h14
        refine g_bipush cx 43 (by decide) e_X3_sum_18 ?_
        have J32 : G X E 4 0 0 (wX X ad F7 R8) [(0, .ref (ad 33)), (1, .int 6), (2, .int y6)] 32 [] := by
          refine g_aload_n cx 0 rfl e_X3_sum_32 ?_
          refine g_cViW cx [] [] (w_X3_sign l X ad F7 R8 oF7 oR8) ml_X3_42 yV_X3_sign e_X3_sum_33 (by unfold g_rr; decide) (by decide) 33 rfl rfl rfl (Nat.le_of_ble_eq_true rfl) (fun r15 w16 h17 => ?_)
          obtain ⟨rfl, pr15⟩ := h17
          refine g_bipush cx 43 (by decide) e_X3_sum_36 ?_
          have J48 : ∀ (y18 : Int32), (jv 6 7 y18) → G X E 4 0 0 (wX X ad F7 R8) [(0, .ref (ad 33)), (1, .int 6), (2, .int y6)] 48 [.int y18] := by
            intro y18 py18
            refine g_istore_n cx [(3, .int y18), (0, .ref (ad 33)), (1, .int 6), (2, .int y6)] e_X3_sum_48 (by decide) rfl ?_
            refine g_aload_n cx 1 rfl e_X3_sum_49 ?_
            refine g_dup cx rfl e_X3_sum_50 ?_
            refine g_get cx cl_X3 fl_X3_19 33 (.int (F7 531)) e_X3_sum_51 rfl rfl ?_
            refine g_iconst cx 1 (by decide) e_X3_sum_54 ?_
            refine g_iadd cx e_X3_sum_55 ?_
            refine g_topi (fun x19 ex19 => ?_)
            refine g_put cx cl_X3 fl_X3_19 33 (wX X ad (upd F7 531 x19) R8) e_X3_sum_56 rfl rfl rfl rfl (Nat.le_of_ble_eq_true rfl) rfl ?_
            obtain ⟨F20, hF20⟩ : ∃ z, z = upd F7 531 x19 := ⟨_, rfl⟩
            rw [← hF20]
            have oF20 : g_ok LK_wX F20 := by rw [hF20]; exact g_ok_u oF7 rfl
            have fF20 : g_fr md_X3_sum_c6 F F20 := by rw [hF20]; exact g_fr_u fF7 rfl
            refine g_aload_n cx 1 rfl e_X3_sum_59 ?_
            refine g_iload_n cx 2 rfl e_X3_sum_60 ?_
            refine g_cVvW cx [.int 6] [] (w_X3_product_c6 l X ad F20 R8 oF20 oR8) ml_X3_96 yV_X3_product e_X3_sum_61 (by unfold g_rr; decide) (by decide) 33 rfl rfl rfl (Nat.le_of_ble_eq_true rfl) (fun w22 h23 => ?_)
            obtain ⟨F24, R25, rfl, oF24, oR25, cF24, cR25⟩ := h23
            have fF24 : g_fr md_X3_sum_c6 F F24 := g_fr_c fF20 cF24 rfl
            have fR25 : g_fr mr_X3_sum_c6 R R25 := g_fr_c fR8 cR25 rfl
            refine g_aload_n cx 1 rfl e_X3_sum_64 ?_
            refine g_get cx cl_X3 fl_X3_25 33 (.ref (ad 25)) e_X3_sum_65 rfl rfl ?_
            refine g_iload_n cx 0 rfl e_X3_sum_68 ?_
            refine g_iconst cx 0 (by decide) e_X3_sum_69 ?_
            refine g_cViW cx [.int y18, .int 0] [] (w_X2_emit_25 l X ad F24 R25 oF24 oR25 y18 0) ml_X3_66 yV_X2_emit e_X3_sum_70 (by unfold g_rr; decide) (by decide) 25 rfl rfl rfl (Nat.le_of_ble_eq_true rfl) (fun r26 w27 h28 => ?_)
            obtain ⟨F29, R30, rfl, oF29, oR30, cF29, cR30, pr26⟩ := h28
            have fF29 : g_fr md_X3_sum_c6 F F29 := g_fr_c fF24 cF29 rfl
            have fR30 : g_fr mr_X3_sum_c6 R R30 := g_fr_c fR25 cR30 rfl
            refine g_pop cx rfl e_X3_sum_73 ?_
            obtain ⟨x31, ex31⟩ : ∃ z : Int32, z = y6 + Int32.ofInt 1 := ⟨_, rfl⟩
            refine g_iinc cx x31 [(2, .int x31), (3, .int y18), (0, .ref (ad 33)), (1, .int 6)] 3 e_X3_sum_74 rfl ex31.symm (by decide) rfl ?_
            have zx31 := jv_add 1 200 (show x31 = y6 + 1 from ex31) p11 (jv_k (x := 1) 1 (by decide)) (by decide)
            refine g_goto cx 7 e_X3_sum_77 (by decide) ?_
            refine g_lsub [2, 3, 0] [(0, .ref (ad 33)), (1, .int 6), (2, .int x31)] rfl ?_
            exact ih7 F29 R30 x31 oF29 fF29 oR30 fR30 (jv_w zx31.2 (by decide)) (Nat.lt_of_lt_of_le (show (2147483647 - x31.toInt).toNat < (2147483647 - y6.toInt).toNat from by have q0 := (jv_k (x := 1) 1 (by decide)).1; have q1 := (jv_k (x := 1) 1 (by decide)).2; have q2 := (jv_k (x := 200) 200 (by decide)).1; have q3 := (jv_k (x := 200) 200 (by decide)).2; have q4 := zx31.2.1; have q5 := zx31.2.2; have q6 := p11.1; have q7 := p11.2; have q8 := (gc_nle zc9); have q9 := (g_eq0 zx31.1); omega) (Nat.le_of_lt_succ hm7))
          refine g_icmp_ne cx 46 e_X3_sum_38 (by decide) (fun zc32 => ?_) (fun zc32 => ?_)
          · refine g_bipush cx 7 (by decide) e_X3_sum_46 ?_
            exact J48 7 (jv_w (jv_k (x := 7) 7 (by decide)) (by decide))
          · have p33 := gn_eq 43 43 (gc_eq zc32) pr15 (jv_k (x := 43) 43 (by decide)) (by decide)
            refine g_bipush cx 6 (by decide) e_X3_sum_41 ?_
            refine g_goto cx 48 e_X3_sum_43 (by decide) ?_
            exact J48 6 (jv_w (jv_k (x := 6) 6 (by decide)) (by decide))
        refine g_icmp_eq cx 32 e_X3_sum_20 (by decide) (fun zc34 => ?_) (fun zc34 => ?_)
        · have p35 := gn_eq 43 43 (gc_eq zc34) pr12 (jv_k (x := 43) 43 (by decide)) (by decide)
          exact J32  
        · refine g_aload_n cx 0 rfl e_X3_sum_23 ?_
          refine g_cViW cx [] [] (w_X3_sign l X ad F7 R8 oF7 oR8) ml_X3_42 yV_X3_sign e_X3_sum_24 (by unfold g_rr; decide) (by decide) 33 rfl rfl rfl (Nat.le_of_ble_eq_true rfl) (fun r36 w37 h38 => ?_)
          obtain ⟨rfl, pr36⟩ := h38
          refine g_bipush cx 45 (by decide) e_X3_sum_27 ?_
          refine g_icmp_ne cx 80 e_X3_sum_29 (by decide) (fun zc39 => ?_) (fun zc39 => ?_)
          · refine g_lsub [] [] rfl ?_
            exact J80  
          · have p40 := gn_eq 45 45 (gc_eq zc39) pr36 (jv_k (x := 45) 45 (by decide)) (by decide)
            exact J32  
  refine g_lsub [1, 2, 0] [(0, .ref (ad 33)), (1, .int 6), (2, .int 0)] rfl ?_
  exact J7 _ F4 R5 0 oF4 fF4 oR5 fR5 (jv_w (jv_k (x := 0) 0 (by decide)) (by decide)) (Nat.lt_succ_self _)
theorem e_X3_pass_0 : g_dc cX3_pass 0 (.aload_n 0) 1 1 := ⟨by decide +kernel, rfl⟩
theorem e_X3_pass_1 : g_dc cX3_pass 1 (.invokevirtual 42) 3 4 := ⟨by decide +kernel, rfl⟩
theorem e_X3_pass_4 : g_dc cX3_pass 4 (.iload_n 1) 1 5 := ⟨by decide +kernel, rfl⟩
theorem e_X3_pass_5 : g_dc cX3_pass 5 (.if_icmp .ne 16) 3 8 := ⟨by decide +kernel, rfl⟩
theorem e_X3_pass_8 : g_dc cX3_pass 8 (.aload_n 0) 1 9 := ⟨by decide +kernel, rfl⟩
theorem e_X3_pass_9 : g_dc cX3_pass 9 (.dup) 1 10 := ⟨by decide +kernel, rfl⟩
theorem e_X3_pass_10 : g_dc cX3_pass 10 (.getfield 19) 3 13 := ⟨by decide +kernel, rfl⟩
theorem e_X3_pass_13 : g_dc cX3_pass 13 (.iconst 1) 1 14 := ⟨by decide +kernel, rfl⟩
theorem e_X3_pass_14 : g_dc cX3_pass 14 (.iadd) 1 15 := ⟨by decide +kernel, rfl⟩
theorem e_X3_pass_15 : g_dc cX3_pass 15 (.putfield 19) 3 18 := ⟨by decide +kernel, rfl⟩
theorem e_X3_pass_18 : g_dc cX3_pass 18 (.goto 8) 3 21 := ⟨by decide +kernel, rfl⟩
theorem e_X3_pass_21 : g_dc cX3_pass 21 (.aload_n 0) 1 22 := ⟨by decide +kernel, rfl⟩
theorem e_X3_pass_22 : g_dc cX3_pass 22 (.iconst 1) 1 23 := ⟨by decide +kernel, rfl⟩
theorem e_X3_pass_23 : g_dc cX3_pass 23 (.invokevirtual 46) 3 26 := ⟨by decide +kernel, rfl⟩
theorem e_X3_pass_26 : g_dc cX3_pass 26 (.return_) 1 27 := ⟨by decide +kernel, rfl⟩
def md_X3_pass : List Nat := [531, 532]
def mr_X3_pass : List Nat := []
set_option maxHeartbeats 4000000 in
set_option maxRecDepth 100000 in
theorem w_X3_pass (l : Launch) (X : gX) (ad : Nat → Nat) (F : Nat → Int32) (R : Nat → Nat → Int32) (hI : g_ok LK_wX F) (hA : g_okR LA_wX R) (a0 : Int32) : g_Cv l X yX3_pass cX3_pass 2 2 0 0 [.ref (ad 33), .int a0] (wX X ad F R) (fun w => ∃ (F' : Nat → Int32) (R' : Nat → Nat → Int32), w = wX X ad F' R' ∧ g_ok LK_wX F' ∧ g_okR LA_wX R' ∧ g_fr md_X3_pass F F' ∧ g_fr mr_X3_pass R R') := by
  refine g_mv (by decide +kernel) (Nat.le_of_ble_eq_true rfl) (fun E cx hret => ?_)
  refine g_aload_n cx 0 rfl e_X3_pass_0 ?_
  refine g_cViW cx [] [] (w_X3_sign l X ad F R hI hA) ml_X3_42 yV_X3_sign e_X3_pass_1 (by unfold g_rr; decide) (by decide) 33 rfl rfl rfl (Nat.le_of_ble_eq_true rfl) (fun r1 w2 h3 => ?_)
  obtain ⟨rfl, pr1⟩ := h3
  refine g_iload_n cx 1 rfl e_X3_pass_4 ?_
  have J26 : ∀ (F4 : Nat → Int32) (R5 : Nat → Nat → Int32), (g_ok LK_wX F4) → (g_fr md_X3_pass F F4) → (g_okR LA_wX R5) → (g_fr mr_X3_pass R R5) → G X E 2 0 0 (wX X ad F4 R5) [] 26 [] := by
    intro F4 R5 oF4 fF4 oR5 fR5
    exact hret e_X3_pass_26 (Nat.le_of_ble_eq_true rfl) (Nat.le_of_ble_eq_true rfl) ⟨F4, R5, rfl, oF4, oR5, fF4, fR5⟩
  refine g_icmp_ne cx 21 e_X3_pass_5 (by decide) (fun zc6 => ?_) (fun zc6 => ?_)
  · refine g_aload_n cx 0 rfl e_X3_pass_21 ?_
    refine g_iconst cx 1 (by decide) e_X3_pass_22 ?_
    refine g_cVvW cx [.int 1] [] (w_X3_fail l X ad F R hI hA 1) ml_X3_46 yV_X3_fail e_X3_pass_23 (by unfold g_rr; decide) (by decide) 33 rfl rfl rfl (Nat.le_of_ble_eq_true rfl) (fun w8 h9 => ?_)
    obtain ⟨F10, R11, rfl, oF10, oR11, cF10, cR11⟩ := h9
    have fF10 : g_fr md_X3_pass F F10 := g_fr_c (g_fr_rf F) cF10 rfl
    have fR11 : g_fr mr_X3_pass R R11 := g_fr_c (g_fr_rf R) cR11 rfl
    refine g_lsub [] [] rfl ?_
    exact J26 F10 R11 oF10 fF10 oR11 fR11
  · refine g_aload_n cx 0 rfl e_X3_pass_8 ?_
    refine g_dup cx rfl e_X3_pass_9 ?_
    refine g_get cx cl_X3 fl_X3_19 33 (.int (F 531)) e_X3_pass_10 rfl rfl ?_
    refine g_iconst cx 1 (by decide) e_X3_pass_13 ?_
    refine g_iadd cx e_X3_pass_14 ?_
    refine g_topi (fun x12 ex12 => ?_)
    refine g_put cx cl_X3 fl_X3_19 33 (wX X ad (upd F 531 x12) R) e_X3_pass_15 rfl rfl rfl rfl (Nat.le_of_ble_eq_true rfl) rfl ?_
    obtain ⟨F13, hF13⟩ : ∃ z, z = upd F 531 x12 := ⟨_, rfl⟩
    rw [← hF13]
    have oF13 : g_ok LK_wX F13 := by rw [hF13]; exact g_ok_u hI rfl
    have fF13 : g_fr md_X3_pass F F13 := by rw [hF13]; exact g_fr_u (g_fr_rf F) rfl
    refine g_goto cx 26 e_X3_pass_18 (by decide) ?_
    refine g_lsub [] [] rfl ?_
    exact J26 F13 R oF13 fF13 hA (g_fr_rf R)
theorem e_X3_factor_17 : g_dc cX3_factor 17 (.aload_n 0) 1 18 := ⟨by decide +kernel, rfl⟩
theorem e_X3_factor_18 : g_dc cX3_factor 18 (.iload_n 1) 1 19 := ⟨by decide +kernel, rfl⟩
theorem e_X3_factor_19 : g_dc cX3_factor 19 (.iconst 1) 1 20 := ⟨by decide +kernel, rfl⟩
theorem e_X3_factor_20 : g_dc cX3_factor 20 (.iadd) 1 21 := ⟨by decide +kernel, rfl⟩
theorem e_X3_factor_21 : g_dc cX3_factor 21 (.invokevirtual 63) 3 24 := ⟨by decide +kernel, rfl⟩
theorem e_X3_factor_24 : g_dc cX3_factor 24 (.aload_n 0) 1 25 := ⟨by decide +kernel, rfl⟩
theorem e_X3_factor_25 : g_dc cX3_factor 25 (.bipush 93) 2 27 := ⟨by decide +kernel, rfl⟩
theorem e_X3_factor_27 : g_dc cX3_factor 27 (.invokevirtual 70) 3 30 := ⟨by decide +kernel, rfl⟩
def md_X3_factor_c5 : List Nat := [402, 531, 532]
def mr_X3_factor_c5 : List Nat := [26, 27]
set_option maxHeartbeats 4000000 in
set_option maxRecDepth 100000 in
theorem w_X3_factor_c5 (l : Launch) (X : gX) (ad : Nat → Nat) (F : Nat → Int32) (R : Nat → Nat → Int32) (hI : g_ok LK_wX F) (hA : g_okR LA_wX R) : g_Cv l X yX3_factor cX3_factor 3 8 0 0 [.ref (ad 33), .int 5] (wX X ad F R) (fun w => ∃ (F' : Nat → Int32) (R' : Nat → Nat → Int32), w = wX X ad F' R' ∧ g_ok LK_wX F' ∧ g_okR LA_wX R' ∧ g_fr md_X3_factor_c5 F F' ∧ g_fr mr_X3_factor_c5 R R') := by
  refine g_mv (by decide +kernel) (Nat.le_of_ble_eq_true rfl) (fun E cx hret => ?_)
  refine g_aload_n cx 0 rfl e_X3_factor_0 ?_
  refine g_cViW cx [] [] (w_X3_sign l X ad F R hI hA) ml_X3_42 yV_X3_sign e_X3_factor_1 (by unfold g_rr; decide) (by decide) 33 rfl rfl rfl (Nat.le_of_ble_eq_true rfl) (fun r1 w2 h3 => ?_)
  obtain ⟨rfl, pr1⟩ := h3
  refine g_bipush cx 91 (by decide) e_X3_factor_4 ?_
  refine g_icmp_ne cx 31 e_X3_factor_6 (by decide) (fun zc4 => ?_) (fun zc4 => ?_)
  · refine g_aload_n cx 0 rfl e_X3_factor_31 ?_
    refine g_cViW cx [] [] (w_X3_sign l X ad F R hI hA) ml_X3_42 yV_X3_sign e_X3_factor_32 (by unfold g_rr; decide) (by decide) 33 rfl rfl rfl (Nat.le_of_ble_eq_true rfl) (fun r5 w6 h7 => ?_)
    obtain ⟨rfl, pr5⟩ := h7
    refine g_bipush cx 48 (by decide) e_X3_factor_35 ?_
    refine g_bipush cx 57 (by decide) e_X3_factor_37 ?_
    refine g_cNiW cx [.int r5, .int 48, .int 57] [] (c_X10_within l X (wX X ad F R) r5 48 57) mn_X3_102 yS_X10_within e_X3_factor_39 (by unfold g_rr; decide) (by decide) rfl (Nat.le_of_ble_eq_true rfl) (fun r8 w9 h10 => ?_)
    obtain ⟨rfl, hr8⟩ := h10
    have pr8 : jv 0 1 r8 := by rw [hr8]; exact gi_01 _ _ _
    refine g_if_eq cx 50 e_X3_factor_42 (by decide) (fun zc11 => ?_) (fun zc11 => ?_)
    · have p12 := gn_eq 0 0 (gc_eq zc11) pr8 (jv_k (x := 0) 0 (by decide)) (by decide)
      refine g_aload_n cx 0 rfl e_X3_factor_50 ?_
      refine g_cViW cx [] [] (w_X3_sign l X ad F R hI hA) ml_X3_42 yV_X3_sign e_X3_factor_51 (by unfold g_rr; decide) (by decide) 33 rfl rfl rfl (Nat.le_of_ble_eq_true rfl) (fun r13 w14 h15 => ?_)
      obtain ⟨rfl, pr13⟩ := h15
      refine g_iconst cx (-1) (by decide) e_X3_factor_54 ?_
      have J72 : ∀ (y16 : Int32), (jv (-1) 11 y16) → G X E 3 0 0 (wX X ad F R) [(0, .ref (ad 33))] 72 [.int y16] := by
        intro y16 py16
        refine g_istore_n cx [(2, .int y16), (0, .ref (ad 33))] e_X3_factor_72 (by decide) rfl ?_
        refine g_iload_n cx 0 rfl e_X3_factor_73 ?_
        refine g_if_ge cx 83 e_X3_factor_74 (by decide) (fun zc17 => ?_) (fun zc17 => ?_)
        · have p18 := gn_ge 0 11 (gc_le zc17) py16 (jv_k (x := 0) 0 (by decide)) (by decide)
          refine g_aload_n cx 1 rfl e_X3_factor_83 ?_
          refine g_dup cx rfl e_X3_factor_84 ?_
          refine g_get cx cl_X3 fl_X3_19 33 (.int (F 531)) e_X3_factor_85 rfl rfl ?_
          refine g_iconst cx 1 (by decide) e_X3_factor_88 ?_
          refine g_iadd cx e_X3_factor_89 ?_
          refine g_topi (fun x19 ex19 => ?_)
          refine g_put cx cl_X3 fl_X3_19 33 (wX X ad (upd F 531 x19) R) e_X3_factor_90 rfl rfl rfl rfl (Nat.le_of_ble_eq_true rfl) rfl ?_
          obtain ⟨F20, hF20⟩ : ∃ z, z = upd F 531 x19 := ⟨_, rfl⟩
          rw [← hF20]
          have oF20 : g_ok LK_wX F20 := by rw [hF20]; exact g_ok_u hI rfl
          have fF20 : g_fr md_X3_factor_c5 F F20 := by rw [hF20]; exact g_fr_u (g_fr_rf F) rfl
          refine g_aload_n cx 1 rfl e_X3_factor_93 ?_
          refine g_get cx cl_X3 fl_X3_25 33 (.ref (ad 25)) e_X3_factor_94 rfl rfl ?_
          refine g_iconst cx 2 (by decide) e_X3_factor_97 ?_
          refine g_iload_n cx 0 rfl e_X3_factor_98 ?_
          refine g_cViW cx [.int 2, .int y16] [] (w_X2_emit_25 l X ad F20 R oF20 hA 2 y16) ml_X3_66 yV_X2_emit e_X3_factor_99 (by unfold g_rr; decide) (by decide) 25 rfl rfl rfl (Nat.le_of_ble_eq_true rfl) (fun r21 w22 h23 => ?_)
          obtain ⟨F24, R25, rfl, oF24, oR25, cF24, cR25, pr21⟩ := h23
          have fF24 : g_fr md_X3_factor_c5 F F24 := g_fr_c fF20 cF24 rfl
          have fR25 : g_fr mr_X3_factor_c5 R R25 := g_fr_c (g_fr_rf R) cR25 rfl
          refine g_pop cx rfl e_X3_factor_102 ?_
          exact hret e_X3_factor_103 (Nat.le_of_ble_eq_true rfl) (Nat.le_of_ble_eq_true rfl) ⟨F24, R25, rfl, oF24, oR25, fF24, fR25⟩
        · have p26 := gn_lt (-1) (-1) (gc_nle zc17) py16 (jv_k (x := 0) 0 (by decide)) (by decide)
          refine g_aload_n cx 1 rfl e_X3_factor_77 ?_
          refine g_iconst cx 1 (by decide) e_X3_factor_78 ?_
          refine g_cVvW cx [.int 1] [] (w_X3_fail l X ad F R hI hA 1) ml_X3_46 yV_X3_fail e_X3_factor_79 (by unfold g_rr; decide) (by decide) 33 rfl rfl rfl (Nat.le_of_ble_eq_true rfl) (fun w28 h29 => ?_)
          obtain ⟨F30, R31, rfl, oF30, oR31, cF30, cR31⟩ := h29
          have fF30 : g_fr md_X3_factor_c5 F F30 := g_fr_c (g_fr_rf F) cF30 rfl
          have fR31 : g_fr mr_X3_factor_c5 R R31 := g_fr_c (g_fr_rf R) cR31 rfl
          exact hret e_X3_factor_82 (Nat.le_of_ble_eq_true rfl) (Nat.le_of_ble_eq_true rfl) ⟨F30, R31, rfl, oF30, oR31, fF30, fR31⟩
      refine g_icmp_ne cx 62 e_X3_factor_55 (by decide) (fun zc32 => ?_) (fun zc32 => ?_)
      · refine g_ldcS1 cx rfl e_X3_factor_62 ?_
        refine g_aload_n cx 0 rfl e_X3_factor_64 ?_
        refine g_cViW cx [] [.ref (X.1.2.2.2.1 1)] (w_X3_sign l X ad F R hI hA) ml_X3_42 yV_X3_sign e_X3_factor_65 (by unfold g_rr; decide) (by decide) 33 rfl rfl rfl (Nat.le_of_ble_eq_true rfl) (fun r33 w34 h35 => ?_)
        obtain ⟨rfl, pr33⟩ := h35
        refine g_i2c cx e_X3_factor_68 ?_
        refine g_topi (fun x36 ex36 => ?_)
        refine g_cVsW cx [.int x36] [] 1 (by decide) rfl (w_J0_indexOf_0f7a4_s1 l X (wX X ad F R) x36) ml_X3_52 yV_J0_indexOf_0f7a4 e_X3_factor_69 (by unfold g_rr; decide) (by decide) rfl (Nat.le_of_ble_eq_true rfl) (fun r37 w38 h39 => ?_)
        obtain ⟨rfl, pr37⟩ := h39
        refine g_lsub [0] [(0, .ref (ad 33))] rfl ?_
        exact J72 r37 pr37
      · have p40 := gn_eq (-1) (-1) (gc_eq zc32) pr13 (jv_k (x := (-1)) (-1) (by decide)) (by decide)
        refine g_iconst cx (-1) (by decide) e_X3_factor_58 ?_
        refine g_goto cx 72 e_X3_factor_59 (by decide) ?_
        refine g_lsub [0] [(0, .ref (ad 33))] rfl ?_
        exact J72 (-1) (jv_w (jv_k (x := (-1)) (-1) (by decide)) (by decide))
    · have p41 := gn_neL 1 1 (gc_ne zc11) pr8 (jv_k (x := 0) 0 (by decide)) (by decide)
      have p42 := jv_i 48 57 pr5 (gi_in (A := 48) (B := 57) hr8 zc11 (by decide) (by decide)) (by decide)
      refine g_aload_n cx 0 rfl e_X3_factor_45 ?_
      refine g_cVvW cx [] [] (w_X3_number l X ad F R hI hA) ml_X3_106 yV_X3_number e_X3_factor_46 (by unfold g_rr; decide) (by decide) 33 rfl rfl rfl (Nat.le_of_ble_eq_true rfl) (fun w44 h45 => ?_)
      obtain ⟨F46, R47, rfl, oF46, oR47, cF46, cR47⟩ := h45
      have fF46 : g_fr md_X3_factor_c5 F F46 := g_fr_c (g_fr_rf F) cF46 rfl
      have fR47 : g_fr mr_X3_factor_c5 R R47 := g_fr_c (g_fr_rf R) cR47 rfl
      exact hret e_X3_factor_49 (Nat.le_of_ble_eq_true rfl) (Nat.le_of_ble_eq_true rfl) ⟨F46, R47, rfl, oF46, oR47, fF46, fR47⟩
  · have p48 := gn_eq 91 91 (gc_eq zc4) pr1 (jv_k (x := 91) 91 (by decide)) (by decide)
    refine g_aload_n cx 0 rfl e_X3_factor_9 ?_
    refine g_iload_n cx 1 rfl e_X3_factor_10 ?_
    refine g_cViW cx [.int 5] [] (w_X3_opens_c5 l X ad F R hI hA) ml_X3_89 yV_X3_opens e_X3_factor_11 (by unfold g_rr; decide) (by decide) 33 rfl rfl rfl (Nat.le_of_ble_eq_true rfl) (fun r49 w50 h51 => ?_)
    obtain ⟨F52, R53, rfl, oF52, oR53, cF52, cR53, pr49⟩ := h51
    have fF52 : g_fr md_X3_factor_c5 F F52 := g_fr_c (g_fr_rf F) cF52 rfl
    have fR53 : g_fr mr_X3_factor_c5 R R53 := g_fr_c (g_fr_rf R) cR53 rfl
    refine g_if_eq cx 30 e_X3_factor_14 (by decide) (fun zc54 => ?_) (fun zc54 => ?_)
    · exact (gf_eq (gc_eq zc54) pr49 (jv_k (x := 0) 0 (by decide)) (by decide)).elim
    · refine g_aload_n cx 0 rfl e_X3_factor_17 ?_
      refine g_iload_n cx 1 rfl e_X3_factor_18 ?_
      refine g_iconst cx 1 (by decide) e_X3_factor_19 ?_
      refine g_iadd cx e_X3_factor_20 ?_
      refine g_toi 6 (by decide) ?_
      refine g_cVvW cx [.int 6] [] (w_X3_sum_c6 l X ad F52 R53 oF52 oR53) ml_X3_63 yV_X3_sum e_X3_factor_21 (by unfold g_rr; decide) (by decide) 33 rfl rfl rfl (Nat.le_of_ble_eq_true rfl) (fun w56 h57 => ?_)
      obtain ⟨F58, R59, rfl, oF58, oR59, cF58, cR59⟩ := h57
      have fF58 : g_fr md_X3_factor_c5 F F58 := g_fr_c fF52 cF58 rfl
      have fR59 : g_fr mr_X3_factor_c5 R R59 := g_fr_c fR53 cR59 rfl
      refine g_aload_n cx 0 rfl e_X3_factor_24 ?_
      refine g_bipush cx 93 (by decide) e_X3_factor_25 ?_
      refine g_cVvW cx [.int 93] [] (w_X3_pass l X ad F58 R59 oF58 oR59 93) ml_X3_70 yV_X3_pass e_X3_factor_27 (by unfold g_rr; decide) (by decide) 33 rfl rfl rfl (Nat.le_of_ble_eq_true rfl) (fun w61 h62 => ?_)
      obtain ⟨F63, R64, rfl, oF63, oR64, cF63, cR64⟩ := h62
      have fF63 : g_fr md_X3_factor_c5 F F63 := g_fr_c fF58 cF63 rfl
      have fR64 : g_fr mr_X3_factor_c5 R R64 := g_fr_c fR59 cR64 rfl
      exact hret e_X3_factor_30 (Nat.le_of_ble_eq_true rfl) (Nat.le_of_ble_eq_true rfl) ⟨F63, R64, rfl, oF63, oR64, fF63, fR64⟩
def md_X3_product_c5 : List Nat := [402, 531, 532]
def mr_X3_product_c5 : List Nat := [26, 27]
set_option maxHeartbeats 4000000 in
set_option maxRecDepth 100000 in
theorem w_X3_product_c5 (l : Launch) (X : gX) (ad : Nat → Nat) (F : Nat → Int32) (R : Nat → Nat → Int32) (hI : g_ok LK_wX F) (hA : g_okR LA_wX R) : g_Cv l X yX3_product cX3_product 4 9 0 0 [.ref (ad 33), .int 5] (wX X ad F R) (fun w => ∃ (F' : Nat → Int32) (R' : Nat → Nat → Int32), w = wX X ad F' R' ∧ g_ok LK_wX F' ∧ g_okR LA_wX R' ∧ g_fr md_X3_product_c5 F F' ∧ g_fr mr_X3_product_c5 R R') := by
  refine g_mv (by decide +kernel) (Nat.le_of_ble_eq_true rfl) (fun E cx hret => ?_)
  refine g_aload_n cx 0 rfl e_X3_product_0 ?_
  refine g_iload_n cx 1 rfl e_X3_product_1 ?_
  refine g_cVvW cx [.int 5] [] (w_X3_factor_c5 l X ad F R hI hA) ml_X3_99 yV_X3_factor e_X3_product_2 (by unfold g_rr; decide) (by decide) 33 rfl rfl rfl (Nat.le_of_ble_eq_true rfl) (fun w2 h3 => ?_)
  obtain ⟨F4, R5, rfl, oF4, oR5, cF4, cR5⟩ := h3
  have fF4 : g_fr md_X3_product_c5 F F4 := g_fr_c (g_fr_rf F) cF4 rfl
  have fR5 : g_fr mr_X3_product_c5 R R5 := g_fr_c (g_fr_rf R) cR5 rfl
  refine g_iconst cx 0 (by decide) e_X3_product_5 ?_
  refine g_istore_n cx [(2, .int 0), (0, .ref (ad 33)), (1, .int 5)] e_X3_product_6 (by decide) rfl ?_
  have J7 : ∀ (N : Nat) (F7 : Nat → Int32) (R8 : Nat → Nat → Int32) (y6 : Int32), (g_ok LK_wX F7) → (g_fr md_X3_product_c5 F F7) → (g_okR LA_wX R8) → (g_fr mr_X3_product_c5 R R8) → (jv 0 200 y6) → (2147483647 - y6.toInt).toNat < N → G X E 4 0 0 (wX X ad F7 R8) [(0, .ref (ad 33)), (1, .int 5), (2, .int y6)] 7 [] := by
    intro N
    induction N with
    | zero => intro F7 R8 y6 oF7 fF7 oR8 fR8 py6 hm; exact absurd hm (Nat.not_lt_zero _)
    | succ N ih7 =>
      intro F7 R8 y6 oF7 fF7 oR8 fR8 py6 hm7
      refine g_iload_n cx 2 rfl e_X3_product_7 ?_
      refine g_sipush cx 200 (by decide) e_X3_product_8 ?_
      have J103 : G X E 4 0 0 (wX X ad F7 R8) [] 103 [] := by
        exact hret e_X3_product_103 (Nat.le_of_ble_eq_true rfl) (Nat.le_of_ble_eq_true rfl) ⟨F7, R8, rfl, oF7, oR8, fF7, fR8⟩
      refine g_icmp_ge cx 103 e_X3_product_11 (by decide) (fun zc9 => ?_) (fun zc9 => ?_)
      · have p10 := gn_ge 200 200 (gc_le zc9) py6 (jv_k (x := 200) 200 (by decide)) (by decide)
        refine g_lsub [] [] rfl ?_
        exact J103  
      · have p11 := gn_lt 0 199 (gc_nle zc9) py6 (jv_k (x := 200) 200 (by decide)) (by decide)
        refine g_aload_n cx 0 rfl e_X3_product_14 ?_
        refine g_cViW cx [] [] (w_X3_sign l X ad F7 R8 oF7 oR8) ml_X3_42 yV_X3_sign e_X3_product_15 (by unfold g_rr; decide) (by decide) 33 rfl rfl rfl (Nat.le_of_ble_eq_true rfl) (fun r12 w13 h14 => ?_)
        obtain ⟨rfl, pr12⟩ := h14
        refine g_bipush cx 42 (by decide) e_X3_product_18 ?_
        have J41 : G X E 4 0 0 (wX X ad F7 R8) [(0, .ref (ad 33)), (1, .int 5), (2, .int y6)] 41 [] := by
          refine g_aload_n cx 0 rfl e_X3_product_41 ?_
          refine g_cViW cx [] [] (w_X3_sign l X ad F7 R8 oF7 oR8) ml_X3_42 yV_X3_sign e_X3_product_42 (by unfold g_rr; decide) (by decide) 33 rfl rfl rfl (Nat.le_of_ble_eq_true rfl) (fun r15 w16 h17 => ?_)
          obtain ⟨rfl, pr15⟩ := h17
          refine g_bipush cx 42 (by decide) e_X3_product_45 ?_
          have J71 : ∀ (y18 : Int32), (jv 8 10 y18) → G X E 4 0 0 (wX X ad F7 R8) [(0, .ref (ad 33)), (1, .int 5), (2, .int y6)] 71 [.int y18] := by
            intro y18 py18
            refine g_istore_n cx [(3, .int y18), (0, .ref (ad 33)), (1, .int 5), (2, .int y6)] e_X3_product_71 (by decide) rfl ?_
            refine g_aload_n cx 1 rfl e_X3_product_72 ?_
            refine g_dup cx rfl e_X3_product_73 ?_
            refine g_get cx cl_X3 fl_X3_19 33 (.int (F7 531)) e_X3_product_74 rfl rfl ?_
            refine g_iconst cx 1 (by decide) e_X3_product_77 ?_
            refine g_iadd cx e_X3_product_78 ?_
            refine g_topi (fun x19 ex19 => ?_)
            refine g_put cx cl_X3 fl_X3_19 33 (wX X ad (upd F7 531 x19) R8) e_X3_product_79 rfl rfl rfl rfl (Nat.le_of_ble_eq_true rfl) rfl ?_
            obtain ⟨F20, hF20⟩ : ∃ z, z = upd F7 531 x19 := ⟨_, rfl⟩
            rw [← hF20]
            have oF20 : g_ok LK_wX F20 := by rw [hF20]; exact g_ok_u oF7 rfl
            have fF20 : g_fr md_X3_product_c5 F F20 := by rw [hF20]; exact g_fr_u fF7 rfl
            refine g_aload_n cx 1 rfl e_X3_product_82 ?_
            refine g_iload_n cx 2 rfl e_X3_product_83 ?_
            refine g_cVvW cx [.int 5] [] (w_X3_factor_c5 l X ad F20 R8 oF20 oR8) ml_X3_99 yV_X3_factor e_X3_product_84 (by unfold g_rr; decide) (by decide) 33 rfl rfl rfl (Nat.le_of_ble_eq_true rfl) (fun w22 h23 => ?_)
            obtain ⟨F24, R25, rfl, oF24, oR25, cF24, cR25⟩ := h23
            have fF24 : g_fr md_X3_product_c5 F F24 := g_fr_c fF20 cF24 rfl
            have fR25 : g_fr mr_X3_product_c5 R R25 := g_fr_c fR8 cR25 rfl
            refine g_aload_n cx 1 rfl e_X3_product_87 ?_
            refine g_get cx cl_X3 fl_X3_25 33 (.ref (ad 25)) e_X3_product_88 rfl rfl ?_
            refine g_iload_n cx 0 rfl e_X3_product_91 ?_
            refine g_iconst cx 0 (by decide) e_X3_product_92 ?_
            refine g_cViW cx [.int y18, .int 0] [] (w_X2_emit_25 l X ad F24 R25 oF24 oR25 y18 0) ml_X3_66 yV_X2_emit e_X3_product_93 (by unfold g_rr; decide) (by decide) 25 rfl rfl rfl (Nat.le_of_ble_eq_true rfl) (fun r26 w27 h28 => ?_)
            obtain ⟨F29, R30, rfl, oF29, oR30, cF29, cR30, pr26⟩ := h28
            have fF29 : g_fr md_X3_product_c5 F F29 := g_fr_c fF24 cF29 rfl
            have fR30 : g_fr mr_X3_product_c5 R R30 := g_fr_c fR25 cR30 rfl
            refine g_pop cx rfl e_X3_product_96 ?_
            obtain ⟨x31, ex31⟩ : ∃ z : Int32, z = y6 + Int32.ofInt 1 := ⟨_, rfl⟩
            refine g_iinc cx x31 [(2, .int x31), (3, .int y18), (0, .ref (ad 33)), (1, .int 5)] 3 e_X3_product_97 rfl ex31.symm (by decide) rfl ?_
            have zx31 := jv_add 1 200 (show x31 = y6 + 1 from ex31) p11 (jv_k (x := 1) 1 (by decide)) (by decide)
            refine g_goto cx 7 e_X3_product_100 (by decide) ?_
            refine g_lsub [2, 3, 0] [(0, .ref (ad 33)), (1, .int 5), (2, .int x31)] rfl ?_
            exact ih7 F29 R30 x31 oF29 fF29 oR30 fR30 (jv_w zx31.2 (by decide)) (Nat.lt_of_lt_of_le (show (2147483647 - x31.toInt).toNat < (2147483647 - y6.toInt).toNat from by have q0 := (jv_k (x := 1) 1 (by decide)).1; have q1 := (jv_k (x := 1) 1 (by decide)).2; have q2 := (jv_k (x := 200) 200 (by decide)).1; have q3 := (jv_k (x := 200) 200 (by decide)).2; have q4 := zx31.2.1; have q5 := zx31.2.2; have q6 := p11.1; have q7 := p11.2; have q8 := (gc_nle zc9); have q9 := (g_eq0 zx31.1); omega) (Nat.le_of_lt_succ hm7))
          refine g_icmp_ne cx 55 e_X3_product_47 (by decide) (fun zc32 => ?_) (fun zc32 => ?_)
          · refine g_aload_n cx 0 rfl e_X3_product_55 ?_
            refine g_cViW cx [] [] (w_X3_sign l X ad F7 R8 oF7 oR8) ml_X3_42 yV_X3_sign e_X3_product_56 (by unfold g_rr; decide) (by decide) 33 rfl rfl rfl (Nat.le_of_ble_eq_true rfl) (fun r33 w34 h35 => ?_)
            obtain ⟨rfl, pr33⟩ := h35
            refine g_bipush cx 47 (by decide) e_X3_product_59 ?_
            refine g_icmp_ne cx 69 e_X3_product_61 (by decide) (fun zc36 => ?_) (fun zc36 => ?_)
            · refine g_bipush cx 10 (by decide) e_X3_product_69 ?_
              exact J71 10 (jv_w (jv_k (x := 10) 10 (by decide)) (by decide))
            · have p37 := gn_eq 47 47 (gc_eq zc36) pr33 (jv_k (x := 47) 47 (by decide)) (by decide)
              refine g_bipush cx 9 (by decide) e_X3_product_64 ?_
              refine g_goto cx 71 e_X3_product_66 (by decide) ?_
              exact J71 9 (jv_w (jv_k (x := 9) 9 (by decide)) (by decide))
          · have p38 := gn_eq 42 42 (gc_eq zc32) pr15 (jv_k (x := 42) 42 (by decide)) (by decide)
            refine g_bipush cx 8 (by decide) e_X3_product_50 ?_
            refine g_goto cx 71 e_X3_product_52 (by decide) ?_
            exact J71 8 (jv_w (jv_k (x := 8) 8 (by decide)) (by decide))
        refine g_icmp_eq cx 41 e_X3_product_20 (by decide) (fun zc39 => ?_) (fun zc39 => ?_)
        · have p40 := gn_eq 42 42 (gc_eq zc39) pr12 (jv_k (x := 42) 42 (by decide)) (by decide)
          exact J41  
        · refine g_aload_n cx 0 rfl e_X3_product_23 ?_
          refine g_cViW cx [] [] (w_X3_sign l X ad F7 R8 oF7 oR8) ml_X3_42 yV_X3_sign e_X3_product_24 (by unfold g_rr; decide) (by decide) 33 rfl rfl rfl (Nat.le_of_ble_eq_true rfl) (fun r41 w42 h43 => ?_)
          obtain ⟨rfl, pr41⟩ := h43
          refine g_bipush cx 47 (by decide) e_X3_product_27 ?_
          refine g_icmp_eq cx 41 e_X3_product_29 (by decide) (fun zc44 => ?_) (fun zc44 => ?_)
          · have p45 := gn_eq 47 47 (gc_eq zc44) pr41 (jv_k (x := 47) 47 (by decide)) (by decide)
            exact J41  
          · refine g_aload_n cx 0 rfl e_X3_product_32 ?_
            refine g_cViW cx [] [] (w_X3_sign l X ad F7 R8 oF7 oR8) ml_X3_42 yV_X3_sign e_X3_product_33 (by unfold g_rr; decide) (by decide) 33 rfl rfl rfl (Nat.le_of_ble_eq_true rfl) (fun r46 w47 h48 => ?_)
            obtain ⟨rfl, pr46⟩ := h48
            refine g_bipush cx 37 (by decide) e_X3_product_36 ?_
            refine g_icmp_ne cx 103 e_X3_product_38 (by decide) (fun zc49 => ?_) (fun zc49 => ?_)
            · refine g_lsub [] [] rfl ?_
              exact J103  
            · have p50 := gn_eq 37 37 (gc_eq zc49) pr46 (jv_k (x := 37) 37 (by decide)) (by decide)
              exact J41  
  refine g_lsub [1, 2, 0] [(0, .ref (ad 33)), (1, .int 5), (2, .int 0)] rfl ?_
  exact J7 _ F4 R5 0 oF4 fF4 oR5 fR5 (jv_w (jv_k (x := 0) 0 (by decide)) (by decide)) (Nat.lt_succ_self _)
def md_X3_sum_c5 : List Nat := [402, 531, 532]
def mr_X3_sum_c5 : List Nat := [26, 27]
set_option maxHeartbeats 4000000 in
set_option maxRecDepth 100000 in
theorem w_X3_sum_c5 (l : Launch) (X : gX) (ad : Nat → Nat) (F : Nat → Int32) (R : Nat → Nat → Int32) (hI : g_ok LK_wX F) (hA : g_okR LA_wX R) : g_Cv l X yX3_sum cX3_sum 4 10 0 0 [.ref (ad 33), .int 5] (wX X ad F R) (fun w => ∃ (F' : Nat → Int32) (R' : Nat → Nat → Int32), w = wX X ad F' R' ∧ g_ok LK_wX F' ∧ g_okR LA_wX R' ∧ g_fr md_X3_sum_c5 F F' ∧ g_fr mr_X3_sum_c5 R R') := by
  refine g_mv (by decide +kernel) (Nat.le_of_ble_eq_true rfl) (fun E cx hret => ?_)
  refine g_aload_n cx 0 rfl e_X3_sum_0 ?_
  refine g_iload_n cx 1 rfl e_X3_sum_1 ?_
  refine g_cVvW cx [.int 5] [] (w_X3_product_c5 l X ad F R hI hA) ml_X3_96 yV_X3_product e_X3_sum_2 (by unfold g_rr; decide) (by decide) 33 rfl rfl rfl (Nat.le_of_ble_eq_true rfl) (fun w2 h3 => ?_)
  obtain ⟨F4, R5, rfl, oF4, oR5, cF4, cR5⟩ := h3
  have fF4 : g_fr md_X3_sum_c5 F F4 := g_fr_c (g_fr_rf F) cF4 rfl
  have fR5 : g_fr mr_X3_sum_c5 R R5 := g_fr_c (g_fr_rf R) cR5 rfl
  refine g_iconst cx 0 (by decide) e_X3_sum_5 ?_
  refine g_istore_n cx [(2, .int 0), (0, .ref (ad 33)), (1, .int 5)] e_X3_sum_6 (by decide) rfl ?_
  have J7 : ∀ (N : Nat) (F7 : Nat → Int32) (R8 : Nat → Nat → Int32) (y6 : Int32), (g_ok LK_wX F7) → (g_fr md_X3_sum_c5 F F7) → (g_okR LA_wX R8) → (g_fr mr_X3_sum_c5 R R8) → (jv 0 200 y6) → (2147483647 - y6.toInt).toNat < N → G X E 4 0 0 (wX X ad F7 R8) [(0, .ref (ad 33)), (1, .int 5), (2, .int y6)] 7 [] := by
    intro N
    induction N with
    | zero => intro F7 R8 y6 oF7 fF7 oR8 fR8 py6 hm; exact absurd hm (Nat.not_lt_zero _)
    | succ N ih7 =>
      intro F7 R8 y6 oF7 fF7 oR8 fR8 py6 hm7
      refine g_iload_n cx 2 rfl e_X3_sum_7 ?_
      refine g_sipush cx 200 (by decide) e_X3_sum_8 ?_
      have J80 : G X E 4 0 0 (wX X ad F7 R8) [] 80 [] := by
        exact hret e_X3_sum_80 (Nat.le_of_ble_eq_true rfl) (Nat.le_of_ble_eq_true rfl) ⟨F7, R8, rfl, oF7, oR8, fF7, fR8⟩
      refine g_icmp_ge cx 80 e_X3_sum_11 (by decide) (fun zc9 => ?_) (fun zc9 => ?_)
      · have p10 := gn_ge 200 200 (gc_le zc9) py6 (jv_k (x := 200) 200 (by decide)) (by decide)
        refine g_lsub [] [] rfl ?_
        exact J80  
      · have p11 := gn_lt 0 199 (gc_nle zc9) py6 (jv_k (x := 200) 200 (by decide)) (by decide)
        refine g_aload_n cx 0 rfl e_X3_sum_14 ?_
        refine g_cViW cx [] [] (w_X3_sign l X ad F7 R8 oF7 oR8) ml_X3_42 yV_X3_sign e_X3_sum_15 (by unfold g_rr; decide) (by decide) 33 rfl rfl rfl (Nat.le_of_ble_eq_true rfl) (fun r12 w13 h14 => ?_)
        obtain ⟨rfl, pr12⟩ := h14
        refine g_bipush cx 43 (by decide) e_X3_sum_18 ?_
        have J32 : G X E 4 0 0 (wX X ad F7 R8) [(0, .ref (ad 33)), (1, .int 5), (2, .int y6)] 32 [] := by
          refine g_aload_n cx 0 rfl e_X3_sum_32 ?_
          refine g_cViW cx [] [] (w_X3_sign l X ad F7 R8 oF7 oR8) ml_X3_42 yV_X3_sign e_X3_sum_33 (by unfold g_rr; decide) (by decide) 33 rfl rfl rfl (Nat.le_of_ble_eq_true rfl) (fun r15 w16 h17 => ?_)
          obtain ⟨rfl, pr15⟩ := h17
          refine g_bipush cx 43 (by decide) e_X3_sum_36 ?_
          have J48 : ∀ (y18 : Int32), (jv 6 7 y18) → G X E 4 0 0 (wX X ad F7 R8) [(0, .ref (ad 33)), (1, .int 5), (2, .int y6)] 48 [.int y18] := by
            intro y18 py18
            refine g_istore_n cx [(3, .int y18), (0, .ref (ad 33)), (1, .int 5), (2, .int y6)] e_X3_sum_48 (by decide) rfl ?_
            refine g_aload_n cx 1 rfl e_X3_sum_49 ?_
            refine g_dup cx rfl e_X3_sum_50 ?_
            refine g_get cx cl_X3 fl_X3_19 33 (.int (F7 531)) e_X3_sum_51 rfl rfl ?_
            refine g_iconst cx 1 (by decide) e_X3_sum_54 ?_
            refine g_iadd cx e_X3_sum_55 ?_
            refine g_topi (fun x19 ex19 => ?_)
            refine g_put cx cl_X3 fl_X3_19 33 (wX X ad (upd F7 531 x19) R8) e_X3_sum_56 rfl rfl rfl rfl (Nat.le_of_ble_eq_true rfl) rfl ?_
            obtain ⟨F20, hF20⟩ : ∃ z, z = upd F7 531 x19 := ⟨_, rfl⟩
            rw [← hF20]
            have oF20 : g_ok LK_wX F20 := by rw [hF20]; exact g_ok_u oF7 rfl
            have fF20 : g_fr md_X3_sum_c5 F F20 := by rw [hF20]; exact g_fr_u fF7 rfl
            refine g_aload_n cx 1 rfl e_X3_sum_59 ?_
            refine g_iload_n cx 2 rfl e_X3_sum_60 ?_
            refine g_cVvW cx [.int 5] [] (w_X3_product_c5 l X ad F20 R8 oF20 oR8) ml_X3_96 yV_X3_product e_X3_sum_61 (by unfold g_rr; decide) (by decide) 33 rfl rfl rfl (Nat.le_of_ble_eq_true rfl) (fun w22 h23 => ?_)
            obtain ⟨F24, R25, rfl, oF24, oR25, cF24, cR25⟩ := h23
            have fF24 : g_fr md_X3_sum_c5 F F24 := g_fr_c fF20 cF24 rfl
            have fR25 : g_fr mr_X3_sum_c5 R R25 := g_fr_c fR8 cR25 rfl
            refine g_aload_n cx 1 rfl e_X3_sum_64 ?_
            refine g_get cx cl_X3 fl_X3_25 33 (.ref (ad 25)) e_X3_sum_65 rfl rfl ?_
            refine g_iload_n cx 0 rfl e_X3_sum_68 ?_
            refine g_iconst cx 0 (by decide) e_X3_sum_69 ?_
            refine g_cViW cx [.int y18, .int 0] [] (w_X2_emit_25 l X ad F24 R25 oF24 oR25 y18 0) ml_X3_66 yV_X2_emit e_X3_sum_70 (by unfold g_rr; decide) (by decide) 25 rfl rfl rfl (Nat.le_of_ble_eq_true rfl) (fun r26 w27 h28 => ?_)
            obtain ⟨F29, R30, rfl, oF29, oR30, cF29, cR30, pr26⟩ := h28
            have fF29 : g_fr md_X3_sum_c5 F F29 := g_fr_c fF24 cF29 rfl
            have fR30 : g_fr mr_X3_sum_c5 R R30 := g_fr_c fR25 cR30 rfl
            refine g_pop cx rfl e_X3_sum_73 ?_
            obtain ⟨x31, ex31⟩ : ∃ z : Int32, z = y6 + Int32.ofInt 1 := ⟨_, rfl⟩
            refine g_iinc cx x31 [(2, .int x31), (3, .int y18), (0, .ref (ad 33)), (1, .int 5)] 3 e_X3_sum_74 rfl ex31.symm (by decide) rfl ?_
            have zx31 := jv_add 1 200 (show x31 = y6 + 1 from ex31) p11 (jv_k (x := 1) 1 (by decide)) (by decide)
            refine g_goto cx 7 e_X3_sum_77 (by decide) ?_
            refine g_lsub [2, 3, 0] [(0, .ref (ad 33)), (1, .int 5), (2, .int x31)] rfl ?_
            exact ih7 F29 R30 x31 oF29 fF29 oR30 fR30 (jv_w zx31.2 (by decide)) (Nat.lt_of_lt_of_le (show (2147483647 - x31.toInt).toNat < (2147483647 - y6.toInt).toNat from by have q0 := (jv_k (x := 1) 1 (by decide)).1; have q1 := (jv_k (x := 1) 1 (by decide)).2; have q2 := (jv_k (x := 200) 200 (by decide)).1; have q3 := (jv_k (x := 200) 200 (by decide)).2; have q4 := zx31.2.1; have q5 := zx31.2.2; have q6 := p11.1; have q7 := p11.2; have q8 := (gc_nle zc9); have q9 := (g_eq0 zx31.1); omega) (Nat.le_of_lt_succ hm7))
          refine g_icmp_ne cx 46 e_X3_sum_38 (by decide) (fun zc32 => ?_) (fun zc32 => ?_)
          · refine g_bipush cx 7 (by decide) e_X3_sum_46 ?_
            exact J48 7 (jv_w (jv_k (x := 7) 7 (by decide)) (by decide))
          · have p33 := gn_eq 43 43 (gc_eq zc32) pr15 (jv_k (x := 43) 43 (by decide)) (by decide)
            refine g_bipush cx 6 (by decide) e_X3_sum_41 ?_
            refine g_goto cx 48 e_X3_sum_43 (by decide) ?_
            exact J48 6 (jv_w (jv_k (x := 6) 6 (by decide)) (by decide))
        refine g_icmp_eq cx 32 e_X3_sum_20 (by decide) (fun zc34 => ?_) (fun zc34 => ?_)
        · have p35 := gn_eq 43 43 (gc_eq zc34) pr12 (jv_k (x := 43) 43 (by decide)) (by decide)
          exact J32  
        · refine g_aload_n cx 0 rfl e_X3_sum_23 ?_
          refine g_cViW cx [] [] (w_X3_sign l X ad F7 R8 oF7 oR8) ml_X3_42 yV_X3_sign e_X3_sum_24 (by unfold g_rr; decide) (by decide) 33 rfl rfl rfl (Nat.le_of_ble_eq_true rfl) (fun r36 w37 h38 => ?_)
          obtain ⟨rfl, pr36⟩ := h38
          refine g_bipush cx 45 (by decide) e_X3_sum_27 ?_
          refine g_icmp_ne cx 80 e_X3_sum_29 (by decide) (fun zc39 => ?_) (fun zc39 => ?_)
          · refine g_lsub [] [] rfl ?_
            exact J80  
          · have p40 := gn_eq 45 45 (gc_eq zc39) pr36 (jv_k (x := 45) 45 (by decide)) (by decide)
            exact J32  
  refine g_lsub [1, 2, 0] [(0, .ref (ad 33)), (1, .int 5), (2, .int 0)] rfl ?_
  exact J7 _ F4 R5 0 oF4 fF4 oR5 fR5 (jv_w (jv_k (x := 0) 0 (by decide)) (by decide)) (Nat.lt_succ_self _)
def md_X3_factor_c4 : List Nat := [402, 531, 532]
def mr_X3_factor_c4 : List Nat := [26, 27]
set_option maxHeartbeats 4000000 in
set_option maxRecDepth 100000 in
theorem w_X3_factor_c4 (l : Launch) (X : gX) (ad : Nat → Nat) (F : Nat → Int32) (R : Nat → Nat → Int32) (hI : g_ok LK_wX F) (hA : g_okR LA_wX R) : g_Cv l X yX3_factor cX3_factor 3 11 0 0 [.ref (ad 33), .int 4] (wX X ad F R) (fun w => ∃ (F' : Nat → Int32) (R' : Nat → Nat → Int32), w = wX X ad F' R' ∧ g_ok LK_wX F' ∧ g_okR LA_wX R' ∧ g_fr md_X3_factor_c4 F F' ∧ g_fr mr_X3_factor_c4 R R') := by
  refine g_mv (by decide +kernel) (Nat.le_of_ble_eq_true rfl) (fun E cx hret => ?_)
  refine g_aload_n cx 0 rfl e_X3_factor_0 ?_
  refine g_cViW cx [] [] (w_X3_sign l X ad F R hI hA) ml_X3_42 yV_X3_sign e_X3_factor_1 (by unfold g_rr; decide) (by decide) 33 rfl rfl rfl (Nat.le_of_ble_eq_true rfl) (fun r1 w2 h3 => ?_)
  obtain ⟨rfl, pr1⟩ := h3
  refine g_bipush cx 91 (by decide) e_X3_factor_4 ?_
  refine g_icmp_ne cx 31 e_X3_factor_6 (by decide) (fun zc4 => ?_) (fun zc4 => ?_)
  · refine g_aload_n cx 0 rfl e_X3_factor_31 ?_
    refine g_cViW cx [] [] (w_X3_sign l X ad F R hI hA) ml_X3_42 yV_X3_sign e_X3_factor_32 (by unfold g_rr; decide) (by decide) 33 rfl rfl rfl (Nat.le_of_ble_eq_true rfl) (fun r5 w6 h7 => ?_)
    obtain ⟨rfl, pr5⟩ := h7
    refine g_bipush cx 48 (by decide) e_X3_factor_35 ?_
    refine g_bipush cx 57 (by decide) e_X3_factor_37 ?_
    refine g_cNiW cx [.int r5, .int 48, .int 57] [] (c_X10_within l X (wX X ad F R) r5 48 57) mn_X3_102 yS_X10_within e_X3_factor_39 (by unfold g_rr; decide) (by decide) rfl (Nat.le_of_ble_eq_true rfl) (fun r8 w9 h10 => ?_)
    obtain ⟨rfl, hr8⟩ := h10
    have pr8 : jv 0 1 r8 := by rw [hr8]; exact gi_01 _ _ _
    refine g_if_eq cx 50 e_X3_factor_42 (by decide) (fun zc11 => ?_) (fun zc11 => ?_)
    · have p12 := gn_eq 0 0 (gc_eq zc11) pr8 (jv_k (x := 0) 0 (by decide)) (by decide)
      refine g_aload_n cx 0 rfl e_X3_factor_50 ?_
      refine g_cViW cx [] [] (w_X3_sign l X ad F R hI hA) ml_X3_42 yV_X3_sign e_X3_factor_51 (by unfold g_rr; decide) (by decide) 33 rfl rfl rfl (Nat.le_of_ble_eq_true rfl) (fun r13 w14 h15 => ?_)
      obtain ⟨rfl, pr13⟩ := h15
      refine g_iconst cx (-1) (by decide) e_X3_factor_54 ?_
      have J72 : ∀ (y16 : Int32), (jv (-1) 11 y16) → G X E 3 0 0 (wX X ad F R) [(0, .ref (ad 33))] 72 [.int y16] := by
        intro y16 py16
        refine g_istore_n cx [(2, .int y16), (0, .ref (ad 33))] e_X3_factor_72 (by decide) rfl ?_
        refine g_iload_n cx 0 rfl e_X3_factor_73 ?_
        refine g_if_ge cx 83 e_X3_factor_74 (by decide) (fun zc17 => ?_) (fun zc17 => ?_)
        · have p18 := gn_ge 0 11 (gc_le zc17) py16 (jv_k (x := 0) 0 (by decide)) (by decide)
          refine g_aload_n cx 1 rfl e_X3_factor_83 ?_
          refine g_dup cx rfl e_X3_factor_84 ?_
          refine g_get cx cl_X3 fl_X3_19 33 (.int (F 531)) e_X3_factor_85 rfl rfl ?_
          refine g_iconst cx 1 (by decide) e_X3_factor_88 ?_
          refine g_iadd cx e_X3_factor_89 ?_
          refine g_topi (fun x19 ex19 => ?_)
          refine g_put cx cl_X3 fl_X3_19 33 (wX X ad (upd F 531 x19) R) e_X3_factor_90 rfl rfl rfl rfl (Nat.le_of_ble_eq_true rfl) rfl ?_
          obtain ⟨F20, hF20⟩ : ∃ z, z = upd F 531 x19 := ⟨_, rfl⟩
          rw [← hF20]
          have oF20 : g_ok LK_wX F20 := by rw [hF20]; exact g_ok_u hI rfl
          have fF20 : g_fr md_X3_factor_c4 F F20 := by rw [hF20]; exact g_fr_u (g_fr_rf F) rfl
          refine g_aload_n cx 1 rfl e_X3_factor_93 ?_
          refine g_get cx cl_X3 fl_X3_25 33 (.ref (ad 25)) e_X3_factor_94 rfl rfl ?_
          refine g_iconst cx 2 (by decide) e_X3_factor_97 ?_
          refine g_iload_n cx 0 rfl e_X3_factor_98 ?_
          refine g_cViW cx [.int 2, .int y16] [] (w_X2_emit_25 l X ad F20 R oF20 hA 2 y16) ml_X3_66 yV_X2_emit e_X3_factor_99 (by unfold g_rr; decide) (by decide) 25 rfl rfl rfl (Nat.le_of_ble_eq_true rfl) (fun r21 w22 h23 => ?_)
          obtain ⟨F24, R25, rfl, oF24, oR25, cF24, cR25, pr21⟩ := h23
          have fF24 : g_fr md_X3_factor_c4 F F24 := g_fr_c fF20 cF24 rfl
          have fR25 : g_fr mr_X3_factor_c4 R R25 := g_fr_c (g_fr_rf R) cR25 rfl
          refine g_pop cx rfl e_X3_factor_102 ?_
          exact hret e_X3_factor_103 (Nat.le_of_ble_eq_true rfl) (Nat.le_of_ble_eq_true rfl) ⟨F24, R25, rfl, oF24, oR25, fF24, fR25⟩
        · have p26 := gn_lt (-1) (-1) (gc_nle zc17) py16 (jv_k (x := 0) 0 (by decide)) (by decide)
          refine g_aload_n cx 1 rfl e_X3_factor_77 ?_
          refine g_iconst cx 1 (by decide) e_X3_factor_78 ?_
          refine g_cVvW cx [.int 1] [] (w_X3_fail l X ad F R hI hA 1) ml_X3_46 yV_X3_fail e_X3_factor_79 (by unfold g_rr; decide) (by decide) 33 rfl rfl rfl (Nat.le_of_ble_eq_true rfl) (fun w28 h29 => ?_)
          obtain ⟨F30, R31, rfl, oF30, oR31, cF30, cR31⟩ := h29
          have fF30 : g_fr md_X3_factor_c4 F F30 := g_fr_c (g_fr_rf F) cF30 rfl
          have fR31 : g_fr mr_X3_factor_c4 R R31 := g_fr_c (g_fr_rf R) cR31 rfl
          exact hret e_X3_factor_82 (Nat.le_of_ble_eq_true rfl) (Nat.le_of_ble_eq_true rfl) ⟨F30, R31, rfl, oF30, oR31, fF30, fR31⟩
      refine g_icmp_ne cx 62 e_X3_factor_55 (by decide) (fun zc32 => ?_) (fun zc32 => ?_)
      · refine g_ldcS1 cx rfl e_X3_factor_62 ?_
        refine g_aload_n cx 0 rfl e_X3_factor_64 ?_
        refine g_cViW cx [] [.ref (X.1.2.2.2.1 1)] (w_X3_sign l X ad F R hI hA) ml_X3_42 yV_X3_sign e_X3_factor_65 (by unfold g_rr; decide) (by decide) 33 rfl rfl rfl (Nat.le_of_ble_eq_true rfl) (fun r33 w34 h35 => ?_)
        obtain ⟨rfl, pr33⟩ := h35
        refine g_i2c cx e_X3_factor_68 ?_
        refine g_topi (fun x36 ex36 => ?_)
        refine g_cVsW cx [.int x36] [] 1 (by decide) rfl (w_J0_indexOf_0f7a4_s1 l X (wX X ad F R) x36) ml_X3_52 yV_J0_indexOf_0f7a4 e_X3_factor_69 (by unfold g_rr; decide) (by decide) rfl (Nat.le_of_ble_eq_true rfl) (fun r37 w38 h39 => ?_)
        obtain ⟨rfl, pr37⟩ := h39
        refine g_lsub [0] [(0, .ref (ad 33))] rfl ?_
        exact J72 r37 pr37
      · have p40 := gn_eq (-1) (-1) (gc_eq zc32) pr13 (jv_k (x := (-1)) (-1) (by decide)) (by decide)
        refine g_iconst cx (-1) (by decide) e_X3_factor_58 ?_
        refine g_goto cx 72 e_X3_factor_59 (by decide) ?_
        refine g_lsub [0] [(0, .ref (ad 33))] rfl ?_
        exact J72 (-1) (jv_w (jv_k (x := (-1)) (-1) (by decide)) (by decide))
    · have p41 := gn_neL 1 1 (gc_ne zc11) pr8 (jv_k (x := 0) 0 (by decide)) (by decide)
      have p42 := jv_i 48 57 pr5 (gi_in (A := 48) (B := 57) hr8 zc11 (by decide) (by decide)) (by decide)
      refine g_aload_n cx 0 rfl e_X3_factor_45 ?_
      refine g_cVvW cx [] [] (w_X3_number l X ad F R hI hA) ml_X3_106 yV_X3_number e_X3_factor_46 (by unfold g_rr; decide) (by decide) 33 rfl rfl rfl (Nat.le_of_ble_eq_true rfl) (fun w44 h45 => ?_)
      obtain ⟨F46, R47, rfl, oF46, oR47, cF46, cR47⟩ := h45
      have fF46 : g_fr md_X3_factor_c4 F F46 := g_fr_c (g_fr_rf F) cF46 rfl
      have fR47 : g_fr mr_X3_factor_c4 R R47 := g_fr_c (g_fr_rf R) cR47 rfl
      exact hret e_X3_factor_49 (Nat.le_of_ble_eq_true rfl) (Nat.le_of_ble_eq_true rfl) ⟨F46, R47, rfl, oF46, oR47, fF46, fR47⟩
  · have p48 := gn_eq 91 91 (gc_eq zc4) pr1 (jv_k (x := 91) 91 (by decide)) (by decide)
    refine g_aload_n cx 0 rfl e_X3_factor_9 ?_
    refine g_iload_n cx 1 rfl e_X3_factor_10 ?_
    refine g_cViW cx [.int 4] [] (w_X3_opens_c4 l X ad F R hI hA) ml_X3_89 yV_X3_opens e_X3_factor_11 (by unfold g_rr; decide) (by decide) 33 rfl rfl rfl (Nat.le_of_ble_eq_true rfl) (fun r49 w50 h51 => ?_)
    obtain ⟨F52, R53, rfl, oF52, oR53, cF52, cR53, pr49⟩ := h51
    have fF52 : g_fr md_X3_factor_c4 F F52 := g_fr_c (g_fr_rf F) cF52 rfl
    have fR53 : g_fr mr_X3_factor_c4 R R53 := g_fr_c (g_fr_rf R) cR53 rfl
    refine g_if_eq cx 30 e_X3_factor_14 (by decide) (fun zc54 => ?_) (fun zc54 => ?_)
    · exact (gf_eq (gc_eq zc54) pr49 (jv_k (x := 0) 0 (by decide)) (by decide)).elim
    · refine g_aload_n cx 0 rfl e_X3_factor_17 ?_
      refine g_iload_n cx 1 rfl e_X3_factor_18 ?_
      refine g_iconst cx 1 (by decide) e_X3_factor_19 ?_
      refine g_iadd cx e_X3_factor_20 ?_
      refine g_toi 5 (by decide) ?_
      refine g_cVvW cx [.int 5] [] (w_X3_sum_c5 l X ad F52 R53 oF52 oR53) ml_X3_63 yV_X3_sum e_X3_factor_21 (by unfold g_rr; decide) (by decide) 33 rfl rfl rfl (Nat.le_of_ble_eq_true rfl) (fun w56 h57 => ?_)
      obtain ⟨F58, R59, rfl, oF58, oR59, cF58, cR59⟩ := h57
      have fF58 : g_fr md_X3_factor_c4 F F58 := g_fr_c fF52 cF58 rfl
      have fR59 : g_fr mr_X3_factor_c4 R R59 := g_fr_c fR53 cR59 rfl
      refine g_aload_n cx 0 rfl e_X3_factor_24 ?_
      refine g_bipush cx 93 (by decide) e_X3_factor_25 ?_
      refine g_cVvW cx [.int 93] [] (w_X3_pass l X ad F58 R59 oF58 oR59 93) ml_X3_70 yV_X3_pass e_X3_factor_27 (by unfold g_rr; decide) (by decide) 33 rfl rfl rfl (Nat.le_of_ble_eq_true rfl) (fun w61 h62 => ?_)
      obtain ⟨F63, R64, rfl, oF63, oR64, cF63, cR64⟩ := h62
      have fF63 : g_fr md_X3_factor_c4 F F63 := g_fr_c fF58 cF63 rfl
      have fR64 : g_fr mr_X3_factor_c4 R R64 := g_fr_c fR59 cR64 rfl
      exact hret e_X3_factor_30 (Nat.le_of_ble_eq_true rfl) (Nat.le_of_ble_eq_true rfl) ⟨F63, R64, rfl, oF63, oR64, fF63, fR64⟩
def md_X3_product_c4 : List Nat := [402, 531, 532]
def mr_X3_product_c4 : List Nat := [26, 27]
set_option maxHeartbeats 4000000 in
set_option maxRecDepth 100000 in
theorem w_X3_product_c4 (l : Launch) (X : gX) (ad : Nat → Nat) (F : Nat → Int32) (R : Nat → Nat → Int32) (hI : g_ok LK_wX F) (hA : g_okR LA_wX R) : g_Cv l X yX3_product cX3_product 4 12 0 0 [.ref (ad 33), .int 4] (wX X ad F R) (fun w => ∃ (F' : Nat → Int32) (R' : Nat → Nat → Int32), w = wX X ad F' R' ∧ g_ok LK_wX F' ∧ g_okR LA_wX R' ∧ g_fr md_X3_product_c4 F F' ∧ g_fr mr_X3_product_c4 R R') := by
  refine g_mv (by decide +kernel) (Nat.le_of_ble_eq_true rfl) (fun E cx hret => ?_)
  refine g_aload_n cx 0 rfl e_X3_product_0 ?_
  refine g_iload_n cx 1 rfl e_X3_product_1 ?_
  refine g_cVvW cx [.int 4] [] (w_X3_factor_c4 l X ad F R hI hA) ml_X3_99 yV_X3_factor e_X3_product_2 (by unfold g_rr; decide) (by decide) 33 rfl rfl rfl (Nat.le_of_ble_eq_true rfl) (fun w2 h3 => ?_)
  obtain ⟨F4, R5, rfl, oF4, oR5, cF4, cR5⟩ := h3
  have fF4 : g_fr md_X3_product_c4 F F4 := g_fr_c (g_fr_rf F) cF4 rfl
  have fR5 : g_fr mr_X3_product_c4 R R5 := g_fr_c (g_fr_rf R) cR5 rfl
  refine g_iconst cx 0 (by decide) e_X3_product_5 ?_
  refine g_istore_n cx [(2, .int 0), (0, .ref (ad 33)), (1, .int 4)] e_X3_product_6 (by decide) rfl ?_
  have J7 : ∀ (N : Nat) (F7 : Nat → Int32) (R8 : Nat → Nat → Int32) (y6 : Int32), (g_ok LK_wX F7) → (g_fr md_X3_product_c4 F F7) → (g_okR LA_wX R8) → (g_fr mr_X3_product_c4 R R8) → (jv 0 200 y6) → (2147483647 - y6.toInt).toNat < N → G X E 4 0 0 (wX X ad F7 R8) [(0, .ref (ad 33)), (1, .int 4), (2, .int y6)] 7 [] := by
    intro N
    induction N with
    | zero => intro F7 R8 y6 oF7 fF7 oR8 fR8 py6 hm; exact absurd hm (Nat.not_lt_zero _)
    | succ N ih7 =>
      intro F7 R8 y6 oF7 fF7 oR8 fR8 py6 hm7
      refine g_iload_n cx 2 rfl e_X3_product_7 ?_
      refine g_sipush cx 200 (by decide) e_X3_product_8 ?_
      have J103 : G X E 4 0 0 (wX X ad F7 R8) [] 103 [] := by
        exact hret e_X3_product_103 (Nat.le_of_ble_eq_true rfl) (Nat.le_of_ble_eq_true rfl) ⟨F7, R8, rfl, oF7, oR8, fF7, fR8⟩
      refine g_icmp_ge cx 103 e_X3_product_11 (by decide) (fun zc9 => ?_) (fun zc9 => ?_)
      · have p10 := gn_ge 200 200 (gc_le zc9) py6 (jv_k (x := 200) 200 (by decide)) (by decide)
        refine g_lsub [] [] rfl ?_
        exact J103  
      · have p11 := gn_lt 0 199 (gc_nle zc9) py6 (jv_k (x := 200) 200 (by decide)) (by decide)
        refine g_aload_n cx 0 rfl e_X3_product_14 ?_
        refine g_cViW cx [] [] (w_X3_sign l X ad F7 R8 oF7 oR8) ml_X3_42 yV_X3_sign e_X3_product_15 (by unfold g_rr; decide) (by decide) 33 rfl rfl rfl (Nat.le_of_ble_eq_true rfl) (fun r12 w13 h14 => ?_)
        obtain ⟨rfl, pr12⟩ := h14
        refine g_bipush cx 42 (by decide) e_X3_product_18 ?_
        have J41 : G X E 4 0 0 (wX X ad F7 R8) [(0, .ref (ad 33)), (1, .int 4), (2, .int y6)] 41 [] := by
          refine g_aload_n cx 0 rfl e_X3_product_41 ?_
          refine g_cViW cx [] [] (w_X3_sign l X ad F7 R8 oF7 oR8) ml_X3_42 yV_X3_sign e_X3_product_42 (by unfold g_rr; decide) (by decide) 33 rfl rfl rfl (Nat.le_of_ble_eq_true rfl) (fun r15 w16 h17 => ?_)
          obtain ⟨rfl, pr15⟩ := h17
          refine g_bipush cx 42 (by decide) e_X3_product_45 ?_
          have J71 : ∀ (y18 : Int32), (jv 8 10 y18) → G X E 4 0 0 (wX X ad F7 R8) [(0, .ref (ad 33)), (1, .int 4), (2, .int y6)] 71 [.int y18] := by
            intro y18 py18
            refine g_istore_n cx [(3, .int y18), (0, .ref (ad 33)), (1, .int 4), (2, .int y6)] e_X3_product_71 (by decide) rfl ?_
            refine g_aload_n cx 1 rfl e_X3_product_72 ?_
            refine g_dup cx rfl e_X3_product_73 ?_
            refine g_get cx cl_X3 fl_X3_19 33 (.int (F7 531)) e_X3_product_74 rfl rfl ?_
            refine g_iconst cx 1 (by decide) e_X3_product_77 ?_
            refine g_iadd cx e_X3_product_78 ?_
            refine g_topi (fun x19 ex19 => ?_)
            refine g_put cx cl_X3 fl_X3_19 33 (wX X ad (upd F7 531 x19) R8) e_X3_product_79 rfl rfl rfl rfl (Nat.le_of_ble_eq_true rfl) rfl ?_
            obtain ⟨F20, hF20⟩ : ∃ z, z = upd F7 531 x19 := ⟨_, rfl⟩
            rw [← hF20]
            have oF20 : g_ok LK_wX F20 := by rw [hF20]; exact g_ok_u oF7 rfl
            have fF20 : g_fr md_X3_product_c4 F F20 := by rw [hF20]; exact g_fr_u fF7 rfl
            refine g_aload_n cx 1 rfl e_X3_product_82 ?_
            refine g_iload_n cx 2 rfl e_X3_product_83 ?_
            refine g_cVvW cx [.int 4] [] (w_X3_factor_c4 l X ad F20 R8 oF20 oR8) ml_X3_99 yV_X3_factor e_X3_product_84 (by unfold g_rr; decide) (by decide) 33 rfl rfl rfl (Nat.le_of_ble_eq_true rfl) (fun w22 h23 => ?_)
            obtain ⟨F24, R25, rfl, oF24, oR25, cF24, cR25⟩ := h23
            have fF24 : g_fr md_X3_product_c4 F F24 := g_fr_c fF20 cF24 rfl
            have fR25 : g_fr mr_X3_product_c4 R R25 := g_fr_c fR8 cR25 rfl
            refine g_aload_n cx 1 rfl e_X3_product_87 ?_
            refine g_get cx cl_X3 fl_X3_25 33 (.ref (ad 25)) e_X3_product_88 rfl rfl ?_
            refine g_iload_n cx 0 rfl e_X3_product_91 ?_
            refine g_iconst cx 0 (by decide) e_X3_product_92 ?_
            refine g_cViW cx [.int y18, .int 0] [] (w_X2_emit_25 l X ad F24 R25 oF24 oR25 y18 0) ml_X3_66 yV_X2_emit e_X3_product_93 (by unfold g_rr; decide) (by decide) 25 rfl rfl rfl (Nat.le_of_ble_eq_true rfl) (fun r26 w27 h28 => ?_)
            obtain ⟨F29, R30, rfl, oF29, oR30, cF29, cR30, pr26⟩ := h28
            have fF29 : g_fr md_X3_product_c4 F F29 := g_fr_c fF24 cF29 rfl
            have fR30 : g_fr mr_X3_product_c4 R R30 := g_fr_c fR25 cR30 rfl
            refine g_pop cx rfl e_X3_product_96 ?_
            obtain ⟨x31, ex31⟩ : ∃ z : Int32, z = y6 + Int32.ofInt 1 := ⟨_, rfl⟩
            refine g_iinc cx x31 [(2, .int x31), (3, .int y18), (0, .ref (ad 33)), (1, .int 4)] 3 e_X3_product_97 rfl ex31.symm (by decide) rfl ?_
            have zx31 := jv_add 1 200 (show x31 = y6 + 1 from ex31) p11 (jv_k (x := 1) 1 (by decide)) (by decide)
            refine g_goto cx 7 e_X3_product_100 (by decide) ?_
            refine g_lsub [2, 3, 0] [(0, .ref (ad 33)), (1, .int 4), (2, .int x31)] rfl ?_
            exact ih7 F29 R30 x31 oF29 fF29 oR30 fR30 (jv_w zx31.2 (by decide)) (Nat.lt_of_lt_of_le (show (2147483647 - x31.toInt).toNat < (2147483647 - y6.toInt).toNat from by have q0 := (jv_k (x := 1) 1 (by decide)).1; have q1 := (jv_k (x := 1) 1 (by decide)).2; have q2 := (jv_k (x := 200) 200 (by decide)).1; have q3 := (jv_k (x := 200) 200 (by decide)).2; have q4 := zx31.2.1; have q5 := zx31.2.2; have q6 := p11.1; have q7 := p11.2; have q8 := (gc_nle zc9); have q9 := (g_eq0 zx31.1); omega) (Nat.le_of_lt_succ hm7))
          refine g_icmp_ne cx 55 e_X3_product_47 (by decide) (fun zc32 => ?_) (fun zc32 => ?_)
          · refine g_aload_n cx 0 rfl e_X3_product_55 ?_
            refine g_cViW cx [] [] (w_X3_sign l X ad F7 R8 oF7 oR8) ml_X3_42 yV_X3_sign e_X3_product_56 (by unfold g_rr; decide) (by decide) 33 rfl rfl rfl (Nat.le_of_ble_eq_true rfl) (fun r33 w34 h35 => ?_)
            obtain ⟨rfl, pr33⟩ := h35
            refine g_bipush cx 47 (by decide) e_X3_product_59 ?_
            refine g_icmp_ne cx 69 e_X3_product_61 (by decide) (fun zc36 => ?_) (fun zc36 => ?_)
            · refine g_bipush cx 10 (by decide) e_X3_product_69 ?_
              exact J71 10 (jv_w (jv_k (x := 10) 10 (by decide)) (by decide))
            · have p37 := gn_eq 47 47 (gc_eq zc36) pr33 (jv_k (x := 47) 47 (by decide)) (by decide)
              refine g_bipush cx 9 (by decide) e_X3_product_64 ?_
              refine g_goto cx 71 e_X3_product_66 (by decide) ?_
              exact J71 9 (jv_w (jv_k (x := 9) 9 (by decide)) (by decide))
          · have p38 := gn_eq 42 42 (gc_eq zc32) pr15 (jv_k (x := 42) 42 (by decide)) (by decide)
            refine g_bipush cx 8 (by decide) e_X3_product_50 ?_
            refine g_goto cx 71 e_X3_product_52 (by decide) ?_
            exact J71 8 (jv_w (jv_k (x := 8) 8 (by decide)) (by decide))
        refine g_icmp_eq cx 41 e_X3_product_20 (by decide) (fun zc39 => ?_) (fun zc39 => ?_)
        · have p40 := gn_eq 42 42 (gc_eq zc39) pr12 (jv_k (x := 42) 42 (by decide)) (by decide)
          exact J41  
        · refine g_aload_n cx 0 rfl e_X3_product_23 ?_
          refine g_cViW cx [] [] (w_X3_sign l X ad F7 R8 oF7 oR8) ml_X3_42 yV_X3_sign e_X3_product_24 (by unfold g_rr; decide) (by decide) 33 rfl rfl rfl (Nat.le_of_ble_eq_true rfl) (fun r41 w42 h43 => ?_)
          obtain ⟨rfl, pr41⟩ := h43
          refine g_bipush cx 47 (by decide) e_X3_product_27 ?_
          refine g_icmp_eq cx 41 e_X3_product_29 (by decide) (fun zc44 => ?_) (fun zc44 => ?_)
          · have p45 := gn_eq 47 47 (gc_eq zc44) pr41 (jv_k (x := 47) 47 (by decide)) (by decide)
            exact J41  
          · refine g_aload_n cx 0 rfl e_X3_product_32 ?_
            refine g_cViW cx [] [] (w_X3_sign l X ad F7 R8 oF7 oR8) ml_X3_42 yV_X3_sign e_X3_product_33 (by unfold g_rr; decide) (by decide) 33 rfl rfl rfl (Nat.le_of_ble_eq_true rfl) (fun r46 w47 h48 => ?_)
            obtain ⟨rfl, pr46⟩ := h48
            refine g_bipush cx 37 (by decide) e_X3_product_36 ?_
            refine g_icmp_ne cx 103 e_X3_product_38 (by decide) (fun zc49 => ?_) (fun zc49 => ?_)
            · refine g_lsub [] [] rfl ?_
              exact J103  
            · have p50 := gn_eq 37 37 (gc_eq zc49) pr46 (jv_k (x := 37) 37 (by decide)) (by decide)
              exact J41  
  refine g_lsub [1, 2, 0] [(0, .ref (ad 33)), (1, .int 4), (2, .int 0)] rfl ?_
  exact J7 _ F4 R5 0 oF4 fF4 oR5 fR5 (jv_w (jv_k (x := 0) 0 (by decide)) (by decide)) (Nat.lt_succ_self _)
def md_X3_sum_c4 : List Nat := [402, 531, 532]
def mr_X3_sum_c4 : List Nat := [26, 27]
set_option maxHeartbeats 4000000 in
set_option maxRecDepth 100000 in
theorem w_X3_sum_c4 (l : Launch) (X : gX) (ad : Nat → Nat) (F : Nat → Int32) (R : Nat → Nat → Int32) (hI : g_ok LK_wX F) (hA : g_okR LA_wX R) : g_Cv l X yX3_sum cX3_sum 4 13 0 0 [.ref (ad 33), .int 4] (wX X ad F R) (fun w => ∃ (F' : Nat → Int32) (R' : Nat → Nat → Int32), w = wX X ad F' R' ∧ g_ok LK_wX F' ∧ g_okR LA_wX R' ∧ g_fr md_X3_sum_c4 F F' ∧ g_fr mr_X3_sum_c4 R R') := by
  refine g_mv (by decide +kernel) (Nat.le_of_ble_eq_true rfl) (fun E cx hret => ?_)
  refine g_aload_n cx 0 rfl e_X3_sum_0 ?_
  refine g_iload_n cx 1 rfl e_X3_sum_1 ?_
  refine g_cVvW cx [.int 4] [] (w_X3_product_c4 l X ad F R hI hA) ml_X3_96 yV_X3_product e_X3_sum_2 (by unfold g_rr; decide) (by decide) 33 rfl rfl rfl (Nat.le_of_ble_eq_true rfl) (fun w2 h3 => ?_)
  obtain ⟨F4, R5, rfl, oF4, oR5, cF4, cR5⟩ := h3
  have fF4 : g_fr md_X3_sum_c4 F F4 := g_fr_c (g_fr_rf F) cF4 rfl
  have fR5 : g_fr mr_X3_sum_c4 R R5 := g_fr_c (g_fr_rf R) cR5 rfl
  refine g_iconst cx 0 (by decide) e_X3_sum_5 ?_
  refine g_istore_n cx [(2, .int 0), (0, .ref (ad 33)), (1, .int 4)] e_X3_sum_6 (by decide) rfl ?_
  have J7 : ∀ (N : Nat) (F7 : Nat → Int32) (R8 : Nat → Nat → Int32) (y6 : Int32), (g_ok LK_wX F7) → (g_fr md_X3_sum_c4 F F7) → (g_okR LA_wX R8) → (g_fr mr_X3_sum_c4 R R8) → (jv 0 200 y6) → (2147483647 - y6.toInt).toNat < N → G X E 4 0 0 (wX X ad F7 R8) [(0, .ref (ad 33)), (1, .int 4), (2, .int y6)] 7 [] := by
    intro N
    induction N with
    | zero => intro F7 R8 y6 oF7 fF7 oR8 fR8 py6 hm; exact absurd hm (Nat.not_lt_zero _)
    | succ N ih7 =>
      intro F7 R8 y6 oF7 fF7 oR8 fR8 py6 hm7
      refine g_iload_n cx 2 rfl e_X3_sum_7 ?_
      refine g_sipush cx 200 (by decide) e_X3_sum_8 ?_
      have J80 : G X E 4 0 0 (wX X ad F7 R8) [] 80 [] := by
        exact hret e_X3_sum_80 (Nat.le_of_ble_eq_true rfl) (Nat.le_of_ble_eq_true rfl) ⟨F7, R8, rfl, oF7, oR8, fF7, fR8⟩
      refine g_icmp_ge cx 80 e_X3_sum_11 (by decide) (fun zc9 => ?_) (fun zc9 => ?_)
      · have p10 := gn_ge 200 200 (gc_le zc9) py6 (jv_k (x := 200) 200 (by decide)) (by decide)
        refine g_lsub [] [] rfl ?_
        exact J80  
      · have p11 := gn_lt 0 199 (gc_nle zc9) py6 (jv_k (x := 200) 200 (by decide)) (by decide)
        refine g_aload_n cx 0 rfl e_X3_sum_14 ?_
        refine g_cViW cx [] [] (w_X3_sign l X ad F7 R8 oF7 oR8) ml_X3_42 yV_X3_sign e_X3_sum_15 (by unfold g_rr; decide) (by decide) 33 rfl rfl rfl (Nat.le_of_ble_eq_true rfl) (fun r12 w13 h14 => ?_)
        obtain ⟨rfl, pr12⟩ := h14
        refine g_bipush cx 43 (by decide) e_X3_sum_18 ?_
        have J32 : G X E 4 0 0 (wX X ad F7 R8) [(0, .ref (ad 33)), (1, .int 4), (2, .int y6)] 32 [] := by
          refine g_aload_n cx 0 rfl e_X3_sum_32 ?_
          refine g_cViW cx [] [] (w_X3_sign l X ad F7 R8 oF7 oR8) ml_X3_42 yV_X3_sign e_X3_sum_33 (by unfold g_rr; decide) (by decide) 33 rfl rfl rfl (Nat.le_of_ble_eq_true rfl) (fun r15 w16 h17 => ?_)
          obtain ⟨rfl, pr15⟩ := h17
          refine g_bipush cx 43 (by decide) e_X3_sum_36 ?_
          have J48 : ∀ (y18 : Int32), (jv 6 7 y18) → G X E 4 0 0 (wX X ad F7 R8) [(0, .ref (ad 33)), (1, .int 4), (2, .int y6)] 48 [.int y18] := by
            intro y18 py18
            refine g_istore_n cx [(3, .int y18), (0, .ref (ad 33)), (1, .int 4), (2, .int y6)] e_X3_sum_48 (by decide) rfl ?_
            refine g_aload_n cx 1 rfl e_X3_sum_49 ?_
            refine g_dup cx rfl e_X3_sum_50 ?_
            refine g_get cx cl_X3 fl_X3_19 33 (.int (F7 531)) e_X3_sum_51 rfl rfl ?_
            refine g_iconst cx 1 (by decide) e_X3_sum_54 ?_
            refine g_iadd cx e_X3_sum_55 ?_
            refine g_topi (fun x19 ex19 => ?_)
            refine g_put cx cl_X3 fl_X3_19 33 (wX X ad (upd F7 531 x19) R8) e_X3_sum_56 rfl rfl rfl rfl (Nat.le_of_ble_eq_true rfl) rfl ?_
            obtain ⟨F20, hF20⟩ : ∃ z, z = upd F7 531 x19 := ⟨_, rfl⟩
            rw [← hF20]
            have oF20 : g_ok LK_wX F20 := by rw [hF20]; exact g_ok_u oF7 rfl
            have fF20 : g_fr md_X3_sum_c4 F F20 := by rw [hF20]; exact g_fr_u fF7 rfl
            refine g_aload_n cx 1 rfl e_X3_sum_59 ?_
            refine g_iload_n cx 2 rfl e_X3_sum_60 ?_
            refine g_cVvW cx [.int 4] [] (w_X3_product_c4 l X ad F20 R8 oF20 oR8) ml_X3_96 yV_X3_product e_X3_sum_61 (by unfold g_rr; decide) (by decide) 33 rfl rfl rfl (Nat.le_of_ble_eq_true rfl) (fun w22 h23 => ?_)
            obtain ⟨F24, R25, rfl, oF24, oR25, cF24, cR25⟩ := h23
            have fF24 : g_fr md_X3_sum_c4 F F24 := g_fr_c fF20 cF24 rfl
            have fR25 : g_fr mr_X3_sum_c4 R R25 := g_fr_c fR8 cR25 rfl
            refine g_aload_n cx 1 rfl e_X3_sum_64 ?_
            refine g_get cx cl_X3 fl_X3_25 33 (.ref (ad 25)) e_X3_sum_65 rfl rfl ?_
            refine g_iload_n cx 0 rfl e_X3_sum_68 ?_
            refine g_iconst cx 0 (by decide) e_X3_sum_69 ?_
            refine g_cViW cx [.int y18, .int 0] [] (w_X2_emit_25 l X ad F24 R25 oF24 oR25 y18 0) ml_X3_66 yV_X2_emit e_X3_sum_70 (by unfold g_rr; decide) (by decide) 25 rfl rfl rfl (Nat.le_of_ble_eq_true rfl) (fun r26 w27 h28 => ?_)
            obtain ⟨F29, R30, rfl, oF29, oR30, cF29, cR30, pr26⟩ := h28
            have fF29 : g_fr md_X3_sum_c4 F F29 := g_fr_c fF24 cF29 rfl
            have fR30 : g_fr mr_X3_sum_c4 R R30 := g_fr_c fR25 cR30 rfl
            refine g_pop cx rfl e_X3_sum_73 ?_
            obtain ⟨x31, ex31⟩ : ∃ z : Int32, z = y6 + Int32.ofInt 1 := ⟨_, rfl⟩
            refine g_iinc cx x31 [(2, .int x31), (3, .int y18), (0, .ref (ad 33)), (1, .int 4)] 3 e_X3_sum_74 rfl ex31.symm (by decide) rfl ?_
            have zx31 := jv_add 1 200 (show x31 = y6 + 1 from ex31) p11 (jv_k (x := 1) 1 (by decide)) (by decide)
            refine g_goto cx 7 e_X3_sum_77 (by decide) ?_
            refine g_lsub [2, 3, 0] [(0, .ref (ad 33)), (1, .int 4), (2, .int x31)] rfl ?_
            exact ih7 F29 R30 x31 oF29 fF29 oR30 fR30 (jv_w zx31.2 (by decide)) (Nat.lt_of_lt_of_le (show (2147483647 - x31.toInt).toNat < (2147483647 - y6.toInt).toNat from by have q0 := (jv_k (x := 1) 1 (by decide)).1; have q1 := (jv_k (x := 1) 1 (by decide)).2; have q2 := (jv_k (x := 200) 200 (by decide)).1; have q3 := (jv_k (x := 200) 200 (by decide)).2; have q4 := zx31.2.1; have q5 := zx31.2.2; have q6 := p11.1; have q7 := p11.2; have q8 := (gc_nle zc9); have q9 := (g_eq0 zx31.1); omega) (Nat.le_of_lt_succ hm7))
          refine g_icmp_ne cx 46 e_X3_sum_38 (by decide) (fun zc32 => ?_) (fun zc32 => ?_)
          · refine g_bipush cx 7 (by decide) e_X3_sum_46 ?_
            exact J48 7 (jv_w (jv_k (x := 7) 7 (by decide)) (by decide))
          · have p33 := gn_eq 43 43 (gc_eq zc32) pr15 (jv_k (x := 43) 43 (by decide)) (by decide)
            refine g_bipush cx 6 (by decide) e_X3_sum_41 ?_
            refine g_goto cx 48 e_X3_sum_43 (by decide) ?_
            exact J48 6 (jv_w (jv_k (x := 6) 6 (by decide)) (by decide))
        refine g_icmp_eq cx 32 e_X3_sum_20 (by decide) (fun zc34 => ?_) (fun zc34 => ?_)
        · have p35 := gn_eq 43 43 (gc_eq zc34) pr12 (jv_k (x := 43) 43 (by decide)) (by decide)
          exact J32  
        · refine g_aload_n cx 0 rfl e_X3_sum_23 ?_
          refine g_cViW cx [] [] (w_X3_sign l X ad F7 R8 oF7 oR8) ml_X3_42 yV_X3_sign e_X3_sum_24 (by unfold g_rr; decide) (by decide) 33 rfl rfl rfl (Nat.le_of_ble_eq_true rfl) (fun r36 w37 h38 => ?_)
          obtain ⟨rfl, pr36⟩ := h38
          refine g_bipush cx 45 (by decide) e_X3_sum_27 ?_
          refine g_icmp_ne cx 80 e_X3_sum_29 (by decide) (fun zc39 => ?_) (fun zc39 => ?_)
          · refine g_lsub [] [] rfl ?_
            exact J80  
          · have p40 := gn_eq 45 45 (gc_eq zc39) pr36 (jv_k (x := 45) 45 (by decide)) (by decide)
            exact J32  
  refine g_lsub [1, 2, 0] [(0, .ref (ad 33)), (1, .int 4), (2, .int 0)] rfl ?_
  exact J7 _ F4 R5 0 oF4 fF4 oR5 fR5 (jv_w (jv_k (x := 0) 0 (by decide)) (by decide)) (Nat.lt_succ_self _)
def md_X3_factor_c3 : List Nat := [402, 531, 532]
def mr_X3_factor_c3 : List Nat := [26, 27]
set_option maxHeartbeats 4000000 in
set_option maxRecDepth 100000 in
theorem w_X3_factor_c3 (l : Launch) (X : gX) (ad : Nat → Nat) (F : Nat → Int32) (R : Nat → Nat → Int32) (hI : g_ok LK_wX F) (hA : g_okR LA_wX R) : g_Cv l X yX3_factor cX3_factor 3 14 0 0 [.ref (ad 33), .int 3] (wX X ad F R) (fun w => ∃ (F' : Nat → Int32) (R' : Nat → Nat → Int32), w = wX X ad F' R' ∧ g_ok LK_wX F' ∧ g_okR LA_wX R' ∧ g_fr md_X3_factor_c3 F F' ∧ g_fr mr_X3_factor_c3 R R') := by
  refine g_mv (by decide +kernel) (Nat.le_of_ble_eq_true rfl) (fun E cx hret => ?_)
  refine g_aload_n cx 0 rfl e_X3_factor_0 ?_
  refine g_cViW cx [] [] (w_X3_sign l X ad F R hI hA) ml_X3_42 yV_X3_sign e_X3_factor_1 (by unfold g_rr; decide) (by decide) 33 rfl rfl rfl (Nat.le_of_ble_eq_true rfl) (fun r1 w2 h3 => ?_)
  obtain ⟨rfl, pr1⟩ := h3
  refine g_bipush cx 91 (by decide) e_X3_factor_4 ?_
  refine g_icmp_ne cx 31 e_X3_factor_6 (by decide) (fun zc4 => ?_) (fun zc4 => ?_)
  · refine g_aload_n cx 0 rfl e_X3_factor_31 ?_
    refine g_cViW cx [] [] (w_X3_sign l X ad F R hI hA) ml_X3_42 yV_X3_sign e_X3_factor_32 (by unfold g_rr; decide) (by decide) 33 rfl rfl rfl (Nat.le_of_ble_eq_true rfl) (fun r5 w6 h7 => ?_)
    obtain ⟨rfl, pr5⟩ := h7
    refine g_bipush cx 48 (by decide) e_X3_factor_35 ?_
    refine g_bipush cx 57 (by decide) e_X3_factor_37 ?_
    refine g_cNiW cx [.int r5, .int 48, .int 57] [] (c_X10_within l X (wX X ad F R) r5 48 57) mn_X3_102 yS_X10_within e_X3_factor_39 (by unfold g_rr; decide) (by decide) rfl (Nat.le_of_ble_eq_true rfl) (fun r8 w9 h10 => ?_)
    obtain ⟨rfl, hr8⟩ := h10
    have pr8 : jv 0 1 r8 := by rw [hr8]; exact gi_01 _ _ _
    refine g_if_eq cx 50 e_X3_factor_42 (by decide) (fun zc11 => ?_) (fun zc11 => ?_)
    · have p12 := gn_eq 0 0 (gc_eq zc11) pr8 (jv_k (x := 0) 0 (by decide)) (by decide)
      refine g_aload_n cx 0 rfl e_X3_factor_50 ?_
      refine g_cViW cx [] [] (w_X3_sign l X ad F R hI hA) ml_X3_42 yV_X3_sign e_X3_factor_51 (by unfold g_rr; decide) (by decide) 33 rfl rfl rfl (Nat.le_of_ble_eq_true rfl) (fun r13 w14 h15 => ?_)
      obtain ⟨rfl, pr13⟩ := h15
      refine g_iconst cx (-1) (by decide) e_X3_factor_54 ?_
      have J72 : ∀ (y16 : Int32), (jv (-1) 11 y16) → G X E 3 0 0 (wX X ad F R) [(0, .ref (ad 33))] 72 [.int y16] := by
        intro y16 py16
        refine g_istore_n cx [(2, .int y16), (0, .ref (ad 33))] e_X3_factor_72 (by decide) rfl ?_
        refine g_iload_n cx 0 rfl e_X3_factor_73 ?_
        refine g_if_ge cx 83 e_X3_factor_74 (by decide) (fun zc17 => ?_) (fun zc17 => ?_)
        · have p18 := gn_ge 0 11 (gc_le zc17) py16 (jv_k (x := 0) 0 (by decide)) (by decide)
          refine g_aload_n cx 1 rfl e_X3_factor_83 ?_
          refine g_dup cx rfl e_X3_factor_84 ?_
          refine g_get cx cl_X3 fl_X3_19 33 (.int (F 531)) e_X3_factor_85 rfl rfl ?_
          refine g_iconst cx 1 (by decide) e_X3_factor_88 ?_
          refine g_iadd cx e_X3_factor_89 ?_
          refine g_topi (fun x19 ex19 => ?_)
          refine g_put cx cl_X3 fl_X3_19 33 (wX X ad (upd F 531 x19) R) e_X3_factor_90 rfl rfl rfl rfl (Nat.le_of_ble_eq_true rfl) rfl ?_
          obtain ⟨F20, hF20⟩ : ∃ z, z = upd F 531 x19 := ⟨_, rfl⟩
          rw [← hF20]
          have oF20 : g_ok LK_wX F20 := by rw [hF20]; exact g_ok_u hI rfl
          have fF20 : g_fr md_X3_factor_c3 F F20 := by rw [hF20]; exact g_fr_u (g_fr_rf F) rfl
          refine g_aload_n cx 1 rfl e_X3_factor_93 ?_
          refine g_get cx cl_X3 fl_X3_25 33 (.ref (ad 25)) e_X3_factor_94 rfl rfl ?_
          refine g_iconst cx 2 (by decide) e_X3_factor_97 ?_
          refine g_iload_n cx 0 rfl e_X3_factor_98 ?_
          refine g_cViW cx [.int 2, .int y16] [] (w_X2_emit_25 l X ad F20 R oF20 hA 2 y16) ml_X3_66 yV_X2_emit e_X3_factor_99 (by unfold g_rr; decide) (by decide) 25 rfl rfl rfl (Nat.le_of_ble_eq_true rfl) (fun r21 w22 h23 => ?_)
          obtain ⟨F24, R25, rfl, oF24, oR25, cF24, cR25, pr21⟩ := h23
          have fF24 : g_fr md_X3_factor_c3 F F24 := g_fr_c fF20 cF24 rfl
          have fR25 : g_fr mr_X3_factor_c3 R R25 := g_fr_c (g_fr_rf R) cR25 rfl
          refine g_pop cx rfl e_X3_factor_102 ?_
          exact hret e_X3_factor_103 (Nat.le_of_ble_eq_true rfl) (Nat.le_of_ble_eq_true rfl) ⟨F24, R25, rfl, oF24, oR25, fF24, fR25⟩
        · have p26 := gn_lt (-1) (-1) (gc_nle zc17) py16 (jv_k (x := 0) 0 (by decide)) (by decide)
          refine g_aload_n cx 1 rfl e_X3_factor_77 ?_
          refine g_iconst cx 1 (by decide) e_X3_factor_78 ?_
          refine g_cVvW cx [.int 1] [] (w_X3_fail l X ad F R hI hA 1) ml_X3_46 yV_X3_fail e_X3_factor_79 (by unfold g_rr; decide) (by decide) 33 rfl rfl rfl (Nat.le_of_ble_eq_true rfl) (fun w28 h29 => ?_)
          obtain ⟨F30, R31, rfl, oF30, oR31, cF30, cR31⟩ := h29
          have fF30 : g_fr md_X3_factor_c3 F F30 := g_fr_c (g_fr_rf F) cF30 rfl
          have fR31 : g_fr mr_X3_factor_c3 R R31 := g_fr_c (g_fr_rf R) cR31 rfl
          exact hret e_X3_factor_82 (Nat.le_of_ble_eq_true rfl) (Nat.le_of_ble_eq_true rfl) ⟨F30, R31, rfl, oF30, oR31, fF30, fR31⟩
      refine g_icmp_ne cx 62 e_X3_factor_55 (by decide) (fun zc32 => ?_) (fun zc32 => ?_)
      · refine g_ldcS1 cx rfl e_X3_factor_62 ?_
        refine g_aload_n cx 0 rfl e_X3_factor_64 ?_
        refine g_cViW cx [] [.ref (X.1.2.2.2.1 1)] (w_X3_sign l X ad F R hI hA) ml_X3_42 yV_X3_sign e_X3_factor_65 (by unfold g_rr; decide) (by decide) 33 rfl rfl rfl (Nat.le_of_ble_eq_true rfl) (fun r33 w34 h35 => ?_)
        obtain ⟨rfl, pr33⟩ := h35
        refine g_i2c cx e_X3_factor_68 ?_
        refine g_topi (fun x36 ex36 => ?_)
        refine g_cVsW cx [.int x36] [] 1 (by decide) rfl (w_J0_indexOf_0f7a4_s1 l X (wX X ad F R) x36) ml_X3_52 yV_J0_indexOf_0f7a4 e_X3_factor_69 (by unfold g_rr; decide) (by decide) rfl (Nat.le_of_ble_eq_true rfl) (fun r37 w38 h39 => ?_)
        obtain ⟨rfl, pr37⟩ := h39
        refine g_lsub [0] [(0, .ref (ad 33))] rfl ?_
        exact J72 r37 pr37
      · have p40 := gn_eq (-1) (-1) (gc_eq zc32) pr13 (jv_k (x := (-1)) (-1) (by decide)) (by decide)
        refine g_iconst cx (-1) (by decide) e_X3_factor_58 ?_
        refine g_goto cx 72 e_X3_factor_59 (by decide) ?_
        refine g_lsub [0] [(0, .ref (ad 33))] rfl ?_
        exact J72 (-1) (jv_w (jv_k (x := (-1)) (-1) (by decide)) (by decide))
    · have p41 := gn_neL 1 1 (gc_ne zc11) pr8 (jv_k (x := 0) 0 (by decide)) (by decide)
      have p42 := jv_i 48 57 pr5 (gi_in (A := 48) (B := 57) hr8 zc11 (by decide) (by decide)) (by decide)
      refine g_aload_n cx 0 rfl e_X3_factor_45 ?_
      refine g_cVvW cx [] [] (w_X3_number l X ad F R hI hA) ml_X3_106 yV_X3_number e_X3_factor_46 (by unfold g_rr; decide) (by decide) 33 rfl rfl rfl (Nat.le_of_ble_eq_true rfl) (fun w44 h45 => ?_)
      obtain ⟨F46, R47, rfl, oF46, oR47, cF46, cR47⟩ := h45
      have fF46 : g_fr md_X3_factor_c3 F F46 := g_fr_c (g_fr_rf F) cF46 rfl
      have fR47 : g_fr mr_X3_factor_c3 R R47 := g_fr_c (g_fr_rf R) cR47 rfl
      exact hret e_X3_factor_49 (Nat.le_of_ble_eq_true rfl) (Nat.le_of_ble_eq_true rfl) ⟨F46, R47, rfl, oF46, oR47, fF46, fR47⟩
  · have p48 := gn_eq 91 91 (gc_eq zc4) pr1 (jv_k (x := 91) 91 (by decide)) (by decide)
    refine g_aload_n cx 0 rfl e_X3_factor_9 ?_
    refine g_iload_n cx 1 rfl e_X3_factor_10 ?_
    refine g_cViW cx [.int 3] [] (w_X3_opens_c3 l X ad F R hI hA) ml_X3_89 yV_X3_opens e_X3_factor_11 (by unfold g_rr; decide) (by decide) 33 rfl rfl rfl (Nat.le_of_ble_eq_true rfl) (fun r49 w50 h51 => ?_)
    obtain ⟨F52, R53, rfl, oF52, oR53, cF52, cR53, pr49⟩ := h51
    have fF52 : g_fr md_X3_factor_c3 F F52 := g_fr_c (g_fr_rf F) cF52 rfl
    have fR53 : g_fr mr_X3_factor_c3 R R53 := g_fr_c (g_fr_rf R) cR53 rfl
    refine g_if_eq cx 30 e_X3_factor_14 (by decide) (fun zc54 => ?_) (fun zc54 => ?_)
    · exact (gf_eq (gc_eq zc54) pr49 (jv_k (x := 0) 0 (by decide)) (by decide)).elim
    · refine g_aload_n cx 0 rfl e_X3_factor_17 ?_
      refine g_iload_n cx 1 rfl e_X3_factor_18 ?_
      refine g_iconst cx 1 (by decide) e_X3_factor_19 ?_
      refine g_iadd cx e_X3_factor_20 ?_
      refine g_toi 4 (by decide) ?_
      refine g_cVvW cx [.int 4] [] (w_X3_sum_c4 l X ad F52 R53 oF52 oR53) ml_X3_63 yV_X3_sum e_X3_factor_21 (by unfold g_rr; decide) (by decide) 33 rfl rfl rfl (Nat.le_of_ble_eq_true rfl) (fun w56 h57 => ?_)
      obtain ⟨F58, R59, rfl, oF58, oR59, cF58, cR59⟩ := h57
      have fF58 : g_fr md_X3_factor_c3 F F58 := g_fr_c fF52 cF58 rfl
      have fR59 : g_fr mr_X3_factor_c3 R R59 := g_fr_c fR53 cR59 rfl
      refine g_aload_n cx 0 rfl e_X3_factor_24 ?_
      refine g_bipush cx 93 (by decide) e_X3_factor_25 ?_
      refine g_cVvW cx [.int 93] [] (w_X3_pass l X ad F58 R59 oF58 oR59 93) ml_X3_70 yV_X3_pass e_X3_factor_27 (by unfold g_rr; decide) (by decide) 33 rfl rfl rfl (Nat.le_of_ble_eq_true rfl) (fun w61 h62 => ?_)
      obtain ⟨F63, R64, rfl, oF63, oR64, cF63, cR64⟩ := h62
      have fF63 : g_fr md_X3_factor_c3 F F63 := g_fr_c fF58 cF63 rfl
      have fR64 : g_fr mr_X3_factor_c3 R R64 := g_fr_c fR59 cR64 rfl
      exact hret e_X3_factor_30 (Nat.le_of_ble_eq_true rfl) (Nat.le_of_ble_eq_true rfl) ⟨F63, R64, rfl, oF63, oR64, fF63, fR64⟩
def md_X3_product_c3 : List Nat := [402, 531, 532]
def mr_X3_product_c3 : List Nat := [26, 27]
set_option maxHeartbeats 4000000 in
set_option maxRecDepth 100000 in
theorem w_X3_product_c3 (l : Launch) (X : gX) (ad : Nat → Nat) (F : Nat → Int32) (R : Nat → Nat → Int32) (hI : g_ok LK_wX F) (hA : g_okR LA_wX R) : g_Cv l X yX3_product cX3_product 4 15 0 0 [.ref (ad 33), .int 3] (wX X ad F R) (fun w => ∃ (F' : Nat → Int32) (R' : Nat → Nat → Int32), w = wX X ad F' R' ∧ g_ok LK_wX F' ∧ g_okR LA_wX R' ∧ g_fr md_X3_product_c3 F F' ∧ g_fr mr_X3_product_c3 R R') := by
  refine g_mv (by decide +kernel) (Nat.le_of_ble_eq_true rfl) (fun E cx hret => ?_)
  refine g_aload_n cx 0 rfl e_X3_product_0 ?_
  refine g_iload_n cx 1 rfl e_X3_product_1 ?_
  refine g_cVvW cx [.int 3] [] (w_X3_factor_c3 l X ad F R hI hA) ml_X3_99 yV_X3_factor e_X3_product_2 (by unfold g_rr; decide) (by decide) 33 rfl rfl rfl (Nat.le_of_ble_eq_true rfl) (fun w2 h3 => ?_)
  obtain ⟨F4, R5, rfl, oF4, oR5, cF4, cR5⟩ := h3
  have fF4 : g_fr md_X3_product_c3 F F4 := g_fr_c (g_fr_rf F) cF4 rfl
  have fR5 : g_fr mr_X3_product_c3 R R5 := g_fr_c (g_fr_rf R) cR5 rfl
  refine g_iconst cx 0 (by decide) e_X3_product_5 ?_
  refine g_istore_n cx [(2, .int 0), (0, .ref (ad 33)), (1, .int 3)] e_X3_product_6 (by decide) rfl ?_
  have J7 : ∀ (N : Nat) (F7 : Nat → Int32) (R8 : Nat → Nat → Int32) (y6 : Int32), (g_ok LK_wX F7) → (g_fr md_X3_product_c3 F F7) → (g_okR LA_wX R8) → (g_fr mr_X3_product_c3 R R8) → (jv 0 200 y6) → (2147483647 - y6.toInt).toNat < N → G X E 4 0 0 (wX X ad F7 R8) [(0, .ref (ad 33)), (1, .int 3), (2, .int y6)] 7 [] := by
    intro N
    induction N with
    | zero => intro F7 R8 y6 oF7 fF7 oR8 fR8 py6 hm; exact absurd hm (Nat.not_lt_zero _)
    | succ N ih7 =>
      intro F7 R8 y6 oF7 fF7 oR8 fR8 py6 hm7
      refine g_iload_n cx 2 rfl e_X3_product_7 ?_
      refine g_sipush cx 200 (by decide) e_X3_product_8 ?_
      have J103 : G X E 4 0 0 (wX X ad F7 R8) [] 103 [] := by
        exact hret e_X3_product_103 (Nat.le_of_ble_eq_true rfl) (Nat.le_of_ble_eq_true rfl) ⟨F7, R8, rfl, oF7, oR8, fF7, fR8⟩
      refine g_icmp_ge cx 103 e_X3_product_11 (by decide) (fun zc9 => ?_) (fun zc9 => ?_)
      · have p10 := gn_ge 200 200 (gc_le zc9) py6 (jv_k (x := 200) 200 (by decide)) (by decide)
        refine g_lsub [] [] rfl ?_
        exact J103  
      · have p11 := gn_lt 0 199 (gc_nle zc9) py6 (jv_k (x := 200) 200 (by decide)) (by decide)
        refine g_aload_n cx 0 rfl e_X3_product_14 ?_
        refine g_cViW cx [] [] (w_X3_sign l X ad F7 R8 oF7 oR8) ml_X3_42 yV_X3_sign e_X3_product_15 (by unfold g_rr; decide) (by decide) 33 rfl rfl rfl (Nat.le_of_ble_eq_true rfl) (fun r12 w13 h14 => ?_)
        obtain ⟨rfl, pr12⟩ := h14
        refine g_bipush cx 42 (by decide) e_X3_product_18 ?_
        have J41 : G X E 4 0 0 (wX X ad F7 R8) [(0, .ref (ad 33)), (1, .int 3), (2, .int y6)] 41 [] := by
          refine g_aload_n cx 0 rfl e_X3_product_41 ?_
          refine g_cViW cx [] [] (w_X3_sign l X ad F7 R8 oF7 oR8) ml_X3_42 yV_X3_sign e_X3_product_42 (by unfold g_rr; decide) (by decide) 33 rfl rfl rfl (Nat.le_of_ble_eq_true rfl) (fun r15 w16 h17 => ?_)
          obtain ⟨rfl, pr15⟩ := h17
          refine g_bipush cx 42 (by decide) e_X3_product_45 ?_
          have J71 : ∀ (y18 : Int32), (jv 8 10 y18) → G X E 4 0 0 (wX X ad F7 R8) [(0, .ref (ad 33)), (1, .int 3), (2, .int y6)] 71 [.int y18] := by
            intro y18 py18
            refine g_istore_n cx [(3, .int y18), (0, .ref (ad 33)), (1, .int 3), (2, .int y6)] e_X3_product_71 (by decide) rfl ?_
            refine g_aload_n cx 1 rfl e_X3_product_72 ?_
            refine g_dup cx rfl e_X3_product_73 ?_
            refine g_get cx cl_X3 fl_X3_19 33 (.int (F7 531)) e_X3_product_74 rfl rfl ?_
            refine g_iconst cx 1 (by decide) e_X3_product_77 ?_
            refine g_iadd cx e_X3_product_78 ?_
            refine g_topi (fun x19 ex19 => ?_)
            refine g_put cx cl_X3 fl_X3_19 33 (wX X ad (upd F7 531 x19) R8) e_X3_product_79 rfl rfl rfl rfl (Nat.le_of_ble_eq_true rfl) rfl ?_
            obtain ⟨F20, hF20⟩ : ∃ z, z = upd F7 531 x19 := ⟨_, rfl⟩
            rw [← hF20]
            have oF20 : g_ok LK_wX F20 := by rw [hF20]; exact g_ok_u oF7 rfl
            have fF20 : g_fr md_X3_product_c3 F F20 := by rw [hF20]; exact g_fr_u fF7 rfl
            refine g_aload_n cx 1 rfl e_X3_product_82 ?_
            refine g_iload_n cx 2 rfl e_X3_product_83 ?_
            refine g_cVvW cx [.int 3] [] (w_X3_factor_c3 l X ad F20 R8 oF20 oR8) ml_X3_99 yV_X3_factor e_X3_product_84 (by unfold g_rr; decide) (by decide) 33 rfl rfl rfl (Nat.le_of_ble_eq_true rfl) (fun w22 h23 => ?_)
            obtain ⟨F24, R25, rfl, oF24, oR25, cF24, cR25⟩ := h23
            have fF24 : g_fr md_X3_product_c3 F F24 := g_fr_c fF20 cF24 rfl
            have fR25 : g_fr mr_X3_product_c3 R R25 := g_fr_c fR8 cR25 rfl
            refine g_aload_n cx 1 rfl e_X3_product_87 ?_
            refine g_get cx cl_X3 fl_X3_25 33 (.ref (ad 25)) e_X3_product_88 rfl rfl ?_
            refine g_iload_n cx 0 rfl e_X3_product_91 ?_
            refine g_iconst cx 0 (by decide) e_X3_product_92 ?_
            refine g_cViW cx [.int y18, .int 0] [] (w_X2_emit_25 l X ad F24 R25 oF24 oR25 y18 0) ml_X3_66 yV_X2_emit e_X3_product_93 (by unfold g_rr; decide) (by decide) 25 rfl rfl rfl (Nat.le_of_ble_eq_true rfl) (fun r26 w27 h28 => ?_)
            obtain ⟨F29, R30, rfl, oF29, oR30, cF29, cR30, pr26⟩ := h28
            have fF29 : g_fr md_X3_product_c3 F F29 := g_fr_c fF24 cF29 rfl
            have fR30 : g_fr mr_X3_product_c3 R R30 := g_fr_c fR25 cR30 rfl
            refine g_pop cx rfl e_X3_product_96 ?_
            obtain ⟨x31, ex31⟩ : ∃ z : Int32, z = y6 + Int32.ofInt 1 := ⟨_, rfl⟩
            refine g_iinc cx x31 [(2, .int x31), (3, .int y18), (0, .ref (ad 33)), (1, .int 3)] 3 e_X3_product_97 rfl ex31.symm (by decide) rfl ?_
            have zx31 := jv_add 1 200 (show x31 = y6 + 1 from ex31) p11 (jv_k (x := 1) 1 (by decide)) (by decide)
            refine g_goto cx 7 e_X3_product_100 (by decide) ?_
            refine g_lsub [2, 3, 0] [(0, .ref (ad 33)), (1, .int 3), (2, .int x31)] rfl ?_
            exact ih7 F29 R30 x31 oF29 fF29 oR30 fR30 (jv_w zx31.2 (by decide)) (Nat.lt_of_lt_of_le (show (2147483647 - x31.toInt).toNat < (2147483647 - y6.toInt).toNat from by have q0 := (jv_k (x := 1) 1 (by decide)).1; have q1 := (jv_k (x := 1) 1 (by decide)).2; have q2 := (jv_k (x := 200) 200 (by decide)).1; have q3 := (jv_k (x := 200) 200 (by decide)).2; have q4 := zx31.2.1; have q5 := zx31.2.2; have q6 := p11.1; have q7 := p11.2; have q8 := (gc_nle zc9); have q9 := (g_eq0 zx31.1); omega) (Nat.le_of_lt_succ hm7))
          refine g_icmp_ne cx 55 e_X3_product_47 (by decide) (fun zc32 => ?_) (fun zc32 => ?_)
          · refine g_aload_n cx 0 rfl e_X3_product_55 ?_
            refine g_cViW cx [] [] (w_X3_sign l X ad F7 R8 oF7 oR8) ml_X3_42 yV_X3_sign e_X3_product_56 (by unfold g_rr; decide) (by decide) 33 rfl rfl rfl (Nat.le_of_ble_eq_true rfl) (fun r33 w34 h35 => ?_)
            obtain ⟨rfl, pr33⟩ := h35
            refine g_bipush cx 47 (by decide) e_X3_product_59 ?_
            refine g_icmp_ne cx 69 e_X3_product_61 (by decide) (fun zc36 => ?_) (fun zc36 => ?_)
            · refine g_bipush cx 10 (by decide) e_X3_product_69 ?_
              exact J71 10 (jv_w (jv_k (x := 10) 10 (by decide)) (by decide))
            · have p37 := gn_eq 47 47 (gc_eq zc36) pr33 (jv_k (x := 47) 47 (by decide)) (by decide)
              refine g_bipush cx 9 (by decide) e_X3_product_64 ?_
              refine g_goto cx 71 e_X3_product_66 (by decide) ?_
              exact J71 9 (jv_w (jv_k (x := 9) 9 (by decide)) (by decide))
          · have p38 := gn_eq 42 42 (gc_eq zc32) pr15 (jv_k (x := 42) 42 (by decide)) (by decide)
            refine g_bipush cx 8 (by decide) e_X3_product_50 ?_
            refine g_goto cx 71 e_X3_product_52 (by decide) ?_
            exact J71 8 (jv_w (jv_k (x := 8) 8 (by decide)) (by decide))
        refine g_icmp_eq cx 41 e_X3_product_20 (by decide) (fun zc39 => ?_) (fun zc39 => ?_)
        · have p40 := gn_eq 42 42 (gc_eq zc39) pr12 (jv_k (x := 42) 42 (by decide)) (by decide)
          exact J41  
        · refine g_aload_n cx 0 rfl e_X3_product_23 ?_
          refine g_cViW cx [] [] (w_X3_sign l X ad F7 R8 oF7 oR8) ml_X3_42 yV_X3_sign e_X3_product_24 (by unfold g_rr; decide) (by decide) 33 rfl rfl rfl (Nat.le_of_ble_eq_true rfl) (fun r41 w42 h43 => ?_)
          obtain ⟨rfl, pr41⟩ := h43
          refine g_bipush cx 47 (by decide) e_X3_product_27 ?_
          refine g_icmp_eq cx 41 e_X3_product_29 (by decide) (fun zc44 => ?_) (fun zc44 => ?_)
          · have p45 := gn_eq 47 47 (gc_eq zc44) pr41 (jv_k (x := 47) 47 (by decide)) (by decide)
            exact J41  
          · refine g_aload_n cx 0 rfl e_X3_product_32 ?_
            refine g_cViW cx [] [] (w_X3_sign l X ad F7 R8 oF7 oR8) ml_X3_42 yV_X3_sign e_X3_product_33 (by unfold g_rr; decide) (by decide) 33 rfl rfl rfl (Nat.le_of_ble_eq_true rfl) (fun r46 w47 h48 => ?_)
            obtain ⟨rfl, pr46⟩ := h48
            refine g_bipush cx 37 (by decide) e_X3_product_36 ?_
            refine g_icmp_ne cx 103 e_X3_product_38 (by decide) (fun zc49 => ?_) (fun zc49 => ?_)
            · refine g_lsub [] [] rfl ?_
              exact J103  
            · have p50 := gn_eq 37 37 (gc_eq zc49) pr46 (jv_k (x := 37) 37 (by decide)) (by decide)
              exact J41  
  refine g_lsub [1, 2, 0] [(0, .ref (ad 33)), (1, .int 3), (2, .int 0)] rfl ?_
  exact J7 _ F4 R5 0 oF4 fF4 oR5 fR5 (jv_w (jv_k (x := 0) 0 (by decide)) (by decide)) (Nat.lt_succ_self _)
def md_X3_sum_c3 : List Nat := [402, 531, 532]
def mr_X3_sum_c3 : List Nat := [26, 27]
set_option maxHeartbeats 4000000 in
set_option maxRecDepth 100000 in
theorem w_X3_sum_c3 (l : Launch) (X : gX) (ad : Nat → Nat) (F : Nat → Int32) (R : Nat → Nat → Int32) (hI : g_ok LK_wX F) (hA : g_okR LA_wX R) : g_Cv l X yX3_sum cX3_sum 4 16 0 0 [.ref (ad 33), .int 3] (wX X ad F R) (fun w => ∃ (F' : Nat → Int32) (R' : Nat → Nat → Int32), w = wX X ad F' R' ∧ g_ok LK_wX F' ∧ g_okR LA_wX R' ∧ g_fr md_X3_sum_c3 F F' ∧ g_fr mr_X3_sum_c3 R R') := by
  refine g_mv (by decide +kernel) (Nat.le_of_ble_eq_true rfl) (fun E cx hret => ?_)
  refine g_aload_n cx 0 rfl e_X3_sum_0 ?_
  refine g_iload_n cx 1 rfl e_X3_sum_1 ?_
  refine g_cVvW cx [.int 3] [] (w_X3_product_c3 l X ad F R hI hA) ml_X3_96 yV_X3_product e_X3_sum_2 (by unfold g_rr; decide) (by decide) 33 rfl rfl rfl (Nat.le_of_ble_eq_true rfl) (fun w2 h3 => ?_)
  obtain ⟨F4, R5, rfl, oF4, oR5, cF4, cR5⟩ := h3
  have fF4 : g_fr md_X3_sum_c3 F F4 := g_fr_c (g_fr_rf F) cF4 rfl
  have fR5 : g_fr mr_X3_sum_c3 R R5 := g_fr_c (g_fr_rf R) cR5 rfl
  refine g_iconst cx 0 (by decide) e_X3_sum_5 ?_
  refine g_istore_n cx [(2, .int 0), (0, .ref (ad 33)), (1, .int 3)] e_X3_sum_6 (by decide) rfl ?_
  have J7 : ∀ (N : Nat) (F7 : Nat → Int32) (R8 : Nat → Nat → Int32) (y6 : Int32), (g_ok LK_wX F7) → (g_fr md_X3_sum_c3 F F7) → (g_okR LA_wX R8) → (g_fr mr_X3_sum_c3 R R8) → (jv 0 200 y6) → (2147483647 - y6.toInt).toNat < N → G X E 4 0 0 (wX X ad F7 R8) [(0, .ref (ad 33)), (1, .int 3), (2, .int y6)] 7 [] := by
    intro N
    induction N with
    | zero => intro F7 R8 y6 oF7 fF7 oR8 fR8 py6 hm; exact absurd hm (Nat.not_lt_zero _)
    | succ N ih7 =>
      intro F7 R8 y6 oF7 fF7 oR8 fR8 py6 hm7
      refine g_iload_n cx 2 rfl e_X3_sum_7 ?_
      refine g_sipush cx 200 (by decide) e_X3_sum_8 ?_
      have J80 : G X E 4 0 0 (wX X ad F7 R8) [] 80 [] := by
        exact hret e_X3_sum_80 (Nat.le_of_ble_eq_true rfl) (Nat.le_of_ble_eq_true rfl) ⟨F7, R8, rfl, oF7, oR8, fF7, fR8⟩
      refine g_icmp_ge cx 80 e_X3_sum_11 (by decide) (fun zc9 => ?_) (fun zc9 => ?_)
      · have p10 := gn_ge 200 200 (gc_le zc9) py6 (jv_k (x := 200) 200 (by decide)) (by decide)
        refine g_lsub [] [] rfl ?_
        exact J80  
      · have p11 := gn_lt 0 199 (gc_nle zc9) py6 (jv_k (x := 200) 200 (by decide)) (by decide)
        refine g_aload_n cx 0 rfl e_X3_sum_14 ?_
        refine g_cViW cx [] [] (w_X3_sign l X ad F7 R8 oF7 oR8) ml_X3_42 yV_X3_sign e_X3_sum_15 (by unfold g_rr; decide) (by decide) 33 rfl rfl rfl (Nat.le_of_ble_eq_true rfl) (fun r12 w13 h14 => ?_)
        obtain ⟨rfl, pr12⟩ := h14
        refine g_bipush cx 43 (by decide) e_X3_sum_18 ?_
        have J32 : G X E 4 0 0 (wX X ad F7 R8) [(0, .ref (ad 33)), (1, .int 3), (2, .int y6)] 32 [] := by
          refine g_aload_n cx 0 rfl e_X3_sum_32 ?_
          refine g_cViW cx [] [] (w_X3_sign l X ad F7 R8 oF7 oR8) ml_X3_42 yV_X3_sign e_X3_sum_33 (by unfold g_rr; decide) (by decide) 33 rfl rfl rfl (Nat.le_of_ble_eq_true rfl) (fun r15 w16 h17 => ?_)
          obtain ⟨rfl, pr15⟩ := h17
          refine g_bipush cx 43 (by decide) e_X3_sum_36 ?_
          have J48 : ∀ (y18 : Int32), (jv 6 7 y18) → G X E 4 0 0 (wX X ad F7 R8) [(0, .ref (ad 33)), (1, .int 3), (2, .int y6)] 48 [.int y18] := by
            intro y18 py18
            refine g_istore_n cx [(3, .int y18), (0, .ref (ad 33)), (1, .int 3), (2, .int y6)] e_X3_sum_48 (by decide) rfl ?_
            refine g_aload_n cx 1 rfl e_X3_sum_49 ?_
            refine g_dup cx rfl e_X3_sum_50 ?_
            refine g_get cx cl_X3 fl_X3_19 33 (.int (F7 531)) e_X3_sum_51 rfl rfl ?_
            refine g_iconst cx 1 (by decide) e_X3_sum_54 ?_
            refine g_iadd cx e_X3_sum_55 ?_
            refine g_topi (fun x19 ex19 => ?_)
            refine g_put cx cl_X3 fl_X3_19 33 (wX X ad (upd F7 531 x19) R8) e_X3_sum_56 rfl rfl rfl rfl (Nat.le_of_ble_eq_true rfl) rfl ?_
            obtain ⟨F20, hF20⟩ : ∃ z, z = upd F7 531 x19 := ⟨_, rfl⟩
            rw [← hF20]
            have oF20 : g_ok LK_wX F20 := by rw [hF20]; exact g_ok_u oF7 rfl
            have fF20 : g_fr md_X3_sum_c3 F F20 := by rw [hF20]; exact g_fr_u fF7 rfl
            refine g_aload_n cx 1 rfl e_X3_sum_59 ?_
            refine g_iload_n cx 2 rfl e_X3_sum_60 ?_
            refine g_cVvW cx [.int 3] [] (w_X3_product_c3 l X ad F20 R8 oF20 oR8) ml_X3_96 yV_X3_product e_X3_sum_61 (by unfold g_rr; decide) (by decide) 33 rfl rfl rfl (Nat.le_of_ble_eq_true rfl) (fun w22 h23 => ?_)
            obtain ⟨F24, R25, rfl, oF24, oR25, cF24, cR25⟩ := h23
            have fF24 : g_fr md_X3_sum_c3 F F24 := g_fr_c fF20 cF24 rfl
            have fR25 : g_fr mr_X3_sum_c3 R R25 := g_fr_c fR8 cR25 rfl
            refine g_aload_n cx 1 rfl e_X3_sum_64 ?_
            refine g_get cx cl_X3 fl_X3_25 33 (.ref (ad 25)) e_X3_sum_65 rfl rfl ?_
            refine g_iload_n cx 0 rfl e_X3_sum_68 ?_
            refine g_iconst cx 0 (by decide) e_X3_sum_69 ?_
            refine g_cViW cx [.int y18, .int 0] [] (w_X2_emit_25 l X ad F24 R25 oF24 oR25 y18 0) ml_X3_66 yV_X2_emit e_X3_sum_70 (by unfold g_rr; decide) (by decide) 25 rfl rfl rfl (Nat.le_of_ble_eq_true rfl) (fun r26 w27 h28 => ?_)
            obtain ⟨F29, R30, rfl, oF29, oR30, cF29, cR30, pr26⟩ := h28
            have fF29 : g_fr md_X3_sum_c3 F F29 := g_fr_c fF24 cF29 rfl
            have fR30 : g_fr mr_X3_sum_c3 R R30 := g_fr_c fR25 cR30 rfl
            refine g_pop cx rfl e_X3_sum_73 ?_
            obtain ⟨x31, ex31⟩ : ∃ z : Int32, z = y6 + Int32.ofInt 1 := ⟨_, rfl⟩
            refine g_iinc cx x31 [(2, .int x31), (3, .int y18), (0, .ref (ad 33)), (1, .int 3)] 3 e_X3_sum_74 rfl ex31.symm (by decide) rfl ?_
            have zx31 := jv_add 1 200 (show x31 = y6 + 1 from ex31) p11 (jv_k (x := 1) 1 (by decide)) (by decide)
            refine g_goto cx 7 e_X3_sum_77 (by decide) ?_
            refine g_lsub [2, 3, 0] [(0, .ref (ad 33)), (1, .int 3), (2, .int x31)] rfl ?_
            exact ih7 F29 R30 x31 oF29 fF29 oR30 fR30 (jv_w zx31.2 (by decide)) (Nat.lt_of_lt_of_le (show (2147483647 - x31.toInt).toNat < (2147483647 - y6.toInt).toNat from by have q0 := (jv_k (x := 1) 1 (by decide)).1; have q1 := (jv_k (x := 1) 1 (by decide)).2; have q2 := (jv_k (x := 200) 200 (by decide)).1; have q3 := (jv_k (x := 200) 200 (by decide)).2; have q4 := zx31.2.1; have q5 := zx31.2.2; have q6 := p11.1; have q7 := p11.2; have q8 := (gc_nle zc9); have q9 := (g_eq0 zx31.1); omega) (Nat.le_of_lt_succ hm7))
          refine g_icmp_ne cx 46 e_X3_sum_38 (by decide) (fun zc32 => ?_) (fun zc32 => ?_)
          · refine g_bipush cx 7 (by decide) e_X3_sum_46 ?_
            exact J48 7 (jv_w (jv_k (x := 7) 7 (by decide)) (by decide))
          · have p33 := gn_eq 43 43 (gc_eq zc32) pr15 (jv_k (x := 43) 43 (by decide)) (by decide)
            refine g_bipush cx 6 (by decide) e_X3_sum_41 ?_
            refine g_goto cx 48 e_X3_sum_43 (by decide) ?_
            exact J48 6 (jv_w (jv_k (x := 6) 6 (by decide)) (by decide))
        refine g_icmp_eq cx 32 e_X3_sum_20 (by decide) (fun zc34 => ?_) (fun zc34 => ?_)
        · have p35 := gn_eq 43 43 (gc_eq zc34) pr12 (jv_k (x := 43) 43 (by decide)) (by decide)
          exact J32  
        · refine g_aload_n cx 0 rfl e_X3_sum_23 ?_
          refine g_cViW cx [] [] (w_X3_sign l X ad F7 R8 oF7 oR8) ml_X3_42 yV_X3_sign e_X3_sum_24 (by unfold g_rr; decide) (by decide) 33 rfl rfl rfl (Nat.le_of_ble_eq_true rfl) (fun r36 w37 h38 => ?_)
          obtain ⟨rfl, pr36⟩ := h38
          refine g_bipush cx 45 (by decide) e_X3_sum_27 ?_
          refine g_icmp_ne cx 80 e_X3_sum_29 (by decide) (fun zc39 => ?_) (fun zc39 => ?_)
          · refine g_lsub [] [] rfl ?_
            exact J80  
          · have p40 := gn_eq 45 45 (gc_eq zc39) pr36 (jv_k (x := 45) 45 (by decide)) (by decide)
            exact J32  
  refine g_lsub [1, 2, 0] [(0, .ref (ad 33)), (1, .int 3), (2, .int 0)] rfl ?_
  exact J7 _ F4 R5 0 oF4 fF4 oR5 fR5 (jv_w (jv_k (x := 0) 0 (by decide)) (by decide)) (Nat.lt_succ_self _)
def md_X3_factor_c2 : List Nat := [402, 531, 532]
def mr_X3_factor_c2 : List Nat := [26, 27]
set_option maxHeartbeats 4000000 in
set_option maxRecDepth 100000 in
theorem w_X3_factor_c2 (l : Launch) (X : gX) (ad : Nat → Nat) (F : Nat → Int32) (R : Nat → Nat → Int32) (hI : g_ok LK_wX F) (hA : g_okR LA_wX R) : g_Cv l X yX3_factor cX3_factor 3 17 0 0 [.ref (ad 33), .int 2] (wX X ad F R) (fun w => ∃ (F' : Nat → Int32) (R' : Nat → Nat → Int32), w = wX X ad F' R' ∧ g_ok LK_wX F' ∧ g_okR LA_wX R' ∧ g_fr md_X3_factor_c2 F F' ∧ g_fr mr_X3_factor_c2 R R') := by
  refine g_mv (by decide +kernel) (Nat.le_of_ble_eq_true rfl) (fun E cx hret => ?_)
  refine g_aload_n cx 0 rfl e_X3_factor_0 ?_
  refine g_cViW cx [] [] (w_X3_sign l X ad F R hI hA) ml_X3_42 yV_X3_sign e_X3_factor_1 (by unfold g_rr; decide) (by decide) 33 rfl rfl rfl (Nat.le_of_ble_eq_true rfl) (fun r1 w2 h3 => ?_)
  obtain ⟨rfl, pr1⟩ := h3
  refine g_bipush cx 91 (by decide) e_X3_factor_4 ?_
  refine g_icmp_ne cx 31 e_X3_factor_6 (by decide) (fun zc4 => ?_) (fun zc4 => ?_)
  · refine g_aload_n cx 0 rfl e_X3_factor_31 ?_
    refine g_cViW cx [] [] (w_X3_sign l X ad F R hI hA) ml_X3_42 yV_X3_sign e_X3_factor_32 (by unfold g_rr; decide) (by decide) 33 rfl rfl rfl (Nat.le_of_ble_eq_true rfl) (fun r5 w6 h7 => ?_)
    obtain ⟨rfl, pr5⟩ := h7
    refine g_bipush cx 48 (by decide) e_X3_factor_35 ?_
    refine g_bipush cx 57 (by decide) e_X3_factor_37 ?_
    refine g_cNiW cx [.int r5, .int 48, .int 57] [] (c_X10_within l X (wX X ad F R) r5 48 57) mn_X3_102 yS_X10_within e_X3_factor_39 (by unfold g_rr; decide) (by decide) rfl (Nat.le_of_ble_eq_true rfl) (fun r8 w9 h10 => ?_)
    obtain ⟨rfl, hr8⟩ := h10
    have pr8 : jv 0 1 r8 := by rw [hr8]; exact gi_01 _ _ _
    refine g_if_eq cx 50 e_X3_factor_42 (by decide) (fun zc11 => ?_) (fun zc11 => ?_)
    · have p12 := gn_eq 0 0 (gc_eq zc11) pr8 (jv_k (x := 0) 0 (by decide)) (by decide)
      refine g_aload_n cx 0 rfl e_X3_factor_50 ?_
      refine g_cViW cx [] [] (w_X3_sign l X ad F R hI hA) ml_X3_42 yV_X3_sign e_X3_factor_51 (by unfold g_rr; decide) (by decide) 33 rfl rfl rfl (Nat.le_of_ble_eq_true rfl) (fun r13 w14 h15 => ?_)
      obtain ⟨rfl, pr13⟩ := h15
      refine g_iconst cx (-1) (by decide) e_X3_factor_54 ?_
      have J72 : ∀ (y16 : Int32), (jv (-1) 11 y16) → G X E 3 0 0 (wX X ad F R) [(0, .ref (ad 33))] 72 [.int y16] := by
        intro y16 py16
        refine g_istore_n cx [(2, .int y16), (0, .ref (ad 33))] e_X3_factor_72 (by decide) rfl ?_
        refine g_iload_n cx 0 rfl e_X3_factor_73 ?_
        refine g_if_ge cx 83 e_X3_factor_74 (by decide) (fun zc17 => ?_) (fun zc17 => ?_)
        · have p18 := gn_ge 0 11 (gc_le zc17) py16 (jv_k (x := 0) 0 (by decide)) (by decide)
          refine g_aload_n cx 1 rfl e_X3_factor_83 ?_
          refine g_dup cx rfl e_X3_factor_84 ?_
          refine g_get cx cl_X3 fl_X3_19 33 (.int (F 531)) e_X3_factor_85 rfl rfl ?_
          refine g_iconst cx 1 (by decide) e_X3_factor_88 ?_
          refine g_iadd cx e_X3_factor_89 ?_
          refine g_topi (fun x19 ex19 => ?_)
          refine g_put cx cl_X3 fl_X3_19 33 (wX X ad (upd F 531 x19) R) e_X3_factor_90 rfl rfl rfl rfl (Nat.le_of_ble_eq_true rfl) rfl ?_
          obtain ⟨F20, hF20⟩ : ∃ z, z = upd F 531 x19 := ⟨_, rfl⟩
          rw [← hF20]
          have oF20 : g_ok LK_wX F20 := by rw [hF20]; exact g_ok_u hI rfl
          have fF20 : g_fr md_X3_factor_c2 F F20 := by rw [hF20]; exact g_fr_u (g_fr_rf F) rfl
          refine g_aload_n cx 1 rfl e_X3_factor_93 ?_
          refine g_get cx cl_X3 fl_X3_25 33 (.ref (ad 25)) e_X3_factor_94 rfl rfl ?_
          refine g_iconst cx 2 (by decide) e_X3_factor_97 ?_
          refine g_iload_n cx 0 rfl e_X3_factor_98 ?_
          refine g_cViW cx [.int 2, .int y16] [] (w_X2_emit_25 l X ad F20 R oF20 hA 2 y16) ml_X3_66 yV_X2_emit e_X3_factor_99 (by unfold g_rr; decide) (by decide) 25 rfl rfl rfl (Nat.le_of_ble_eq_true rfl) (fun r21 w22 h23 => ?_)
          obtain ⟨F24, R25, rfl, oF24, oR25, cF24, cR25, pr21⟩ := h23
          have fF24 : g_fr md_X3_factor_c2 F F24 := g_fr_c fF20 cF24 rfl
          have fR25 : g_fr mr_X3_factor_c2 R R25 := g_fr_c (g_fr_rf R) cR25 rfl
          refine g_pop cx rfl e_X3_factor_102 ?_
          exact hret e_X3_factor_103 (Nat.le_of_ble_eq_true rfl) (Nat.le_of_ble_eq_true rfl) ⟨F24, R25, rfl, oF24, oR25, fF24, fR25⟩
        · have p26 := gn_lt (-1) (-1) (gc_nle zc17) py16 (jv_k (x := 0) 0 (by decide)) (by decide)
          refine g_aload_n cx 1 rfl e_X3_factor_77 ?_
          refine g_iconst cx 1 (by decide) e_X3_factor_78 ?_
          refine g_cVvW cx [.int 1] [] (w_X3_fail l X ad F R hI hA 1) ml_X3_46 yV_X3_fail e_X3_factor_79 (by unfold g_rr; decide) (by decide) 33 rfl rfl rfl (Nat.le_of_ble_eq_true rfl) (fun w28 h29 => ?_)
          obtain ⟨F30, R31, rfl, oF30, oR31, cF30, cR31⟩ := h29
          have fF30 : g_fr md_X3_factor_c2 F F30 := g_fr_c (g_fr_rf F) cF30 rfl
          have fR31 : g_fr mr_X3_factor_c2 R R31 := g_fr_c (g_fr_rf R) cR31 rfl
          exact hret e_X3_factor_82 (Nat.le_of_ble_eq_true rfl) (Nat.le_of_ble_eq_true rfl) ⟨F30, R31, rfl, oF30, oR31, fF30, fR31⟩
      refine g_icmp_ne cx 62 e_X3_factor_55 (by decide) (fun zc32 => ?_) (fun zc32 => ?_)
      · refine g_ldcS1 cx rfl e_X3_factor_62 ?_
        refine g_aload_n cx 0 rfl e_X3_factor_64 ?_
        refine g_cViW cx [] [.ref (X.1.2.2.2.1 1)] (w_X3_sign l X ad F R hI hA) ml_X3_42 yV_X3_sign e_X3_factor_65 (by unfold g_rr; decide) (by decide) 33 rfl rfl rfl (Nat.le_of_ble_eq_true rfl) (fun r33 w34 h35 => ?_)
        obtain ⟨rfl, pr33⟩ := h35
        refine g_i2c cx e_X3_factor_68 ?_
        refine g_topi (fun x36 ex36 => ?_)
        refine g_cVsW cx [.int x36] [] 1 (by decide) rfl (w_J0_indexOf_0f7a4_s1 l X (wX X ad F R) x36) ml_X3_52 yV_J0_indexOf_0f7a4 e_X3_factor_69 (by unfold g_rr; decide) (by decide) rfl (Nat.le_of_ble_eq_true rfl) (fun r37 w38 h39 => ?_)
        obtain ⟨rfl, pr37⟩ := h39
        refine g_lsub [0] [(0, .ref (ad 33))] rfl ?_
        exact J72 r37 pr37
      · have p40 := gn_eq (-1) (-1) (gc_eq zc32) pr13 (jv_k (x := (-1)) (-1) (by decide)) (by decide)
        refine g_iconst cx (-1) (by decide) e_X3_factor_58 ?_
        refine g_goto cx 72 e_X3_factor_59 (by decide) ?_
        refine g_lsub [0] [(0, .ref (ad 33))] rfl ?_
        exact J72 (-1) (jv_w (jv_k (x := (-1)) (-1) (by decide)) (by decide))
    · have p41 := gn_neL 1 1 (gc_ne zc11) pr8 (jv_k (x := 0) 0 (by decide)) (by decide)
      have p42 := jv_i 48 57 pr5 (gi_in (A := 48) (B := 57) hr8 zc11 (by decide) (by decide)) (by decide)
      refine g_aload_n cx 0 rfl e_X3_factor_45 ?_
      refine g_cVvW cx [] [] (w_X3_number l X ad F R hI hA) ml_X3_106 yV_X3_number e_X3_factor_46 (by unfold g_rr; decide) (by decide) 33 rfl rfl rfl (Nat.le_of_ble_eq_true rfl) (fun w44 h45 => ?_)
      obtain ⟨F46, R47, rfl, oF46, oR47, cF46, cR47⟩ := h45
      have fF46 : g_fr md_X3_factor_c2 F F46 := g_fr_c (g_fr_rf F) cF46 rfl
      have fR47 : g_fr mr_X3_factor_c2 R R47 := g_fr_c (g_fr_rf R) cR47 rfl
      exact hret e_X3_factor_49 (Nat.le_of_ble_eq_true rfl) (Nat.le_of_ble_eq_true rfl) ⟨F46, R47, rfl, oF46, oR47, fF46, fR47⟩
  · have p48 := gn_eq 91 91 (gc_eq zc4) pr1 (jv_k (x := 91) 91 (by decide)) (by decide)
    refine g_aload_n cx 0 rfl e_X3_factor_9 ?_
    refine g_iload_n cx 1 rfl e_X3_factor_10 ?_
    refine g_cViW cx [.int 2] [] (w_X3_opens_c2 l X ad F R hI hA) ml_X3_89 yV_X3_opens e_X3_factor_11 (by unfold g_rr; decide) (by decide) 33 rfl rfl rfl (Nat.le_of_ble_eq_true rfl) (fun r49 w50 h51 => ?_)
    obtain ⟨F52, R53, rfl, oF52, oR53, cF52, cR53, pr49⟩ := h51
    have fF52 : g_fr md_X3_factor_c2 F F52 := g_fr_c (g_fr_rf F) cF52 rfl
    have fR53 : g_fr mr_X3_factor_c2 R R53 := g_fr_c (g_fr_rf R) cR53 rfl
    refine g_if_eq cx 30 e_X3_factor_14 (by decide) (fun zc54 => ?_) (fun zc54 => ?_)
    · exact (gf_eq (gc_eq zc54) pr49 (jv_k (x := 0) 0 (by decide)) (by decide)).elim
    · refine g_aload_n cx 0 rfl e_X3_factor_17 ?_
      refine g_iload_n cx 1 rfl e_X3_factor_18 ?_
      refine g_iconst cx 1 (by decide) e_X3_factor_19 ?_
      refine g_iadd cx e_X3_factor_20 ?_
      refine g_toi 3 (by decide) ?_
      refine g_cVvW cx [.int 3] [] (w_X3_sum_c3 l X ad F52 R53 oF52 oR53) ml_X3_63 yV_X3_sum e_X3_factor_21 (by unfold g_rr; decide) (by decide) 33 rfl rfl rfl (Nat.le_of_ble_eq_true rfl) (fun w56 h57 => ?_)
      obtain ⟨F58, R59, rfl, oF58, oR59, cF58, cR59⟩ := h57
      have fF58 : g_fr md_X3_factor_c2 F F58 := g_fr_c fF52 cF58 rfl
      have fR59 : g_fr mr_X3_factor_c2 R R59 := g_fr_c fR53 cR59 rfl
      refine g_aload_n cx 0 rfl e_X3_factor_24 ?_
      refine g_bipush cx 93 (by decide) e_X3_factor_25 ?_
      refine g_cVvW cx [.int 93] [] (w_X3_pass l X ad F58 R59 oF58 oR59 93) ml_X3_70 yV_X3_pass e_X3_factor_27 (by unfold g_rr; decide) (by decide) 33 rfl rfl rfl (Nat.le_of_ble_eq_true rfl) (fun w61 h62 => ?_)
      obtain ⟨F63, R64, rfl, oF63, oR64, cF63, cR64⟩ := h62
      have fF63 : g_fr md_X3_factor_c2 F F63 := g_fr_c fF58 cF63 rfl
      have fR64 : g_fr mr_X3_factor_c2 R R64 := g_fr_c fR59 cR64 rfl
      exact hret e_X3_factor_30 (Nat.le_of_ble_eq_true rfl) (Nat.le_of_ble_eq_true rfl) ⟨F63, R64, rfl, oF63, oR64, fF63, fR64⟩
def md_X3_product_c2 : List Nat := [402, 531, 532]
def mr_X3_product_c2 : List Nat := [26, 27]
set_option maxHeartbeats 4000000 in
set_option maxRecDepth 100000 in
theorem w_X3_product_c2 (l : Launch) (X : gX) (ad : Nat → Nat) (F : Nat → Int32) (R : Nat → Nat → Int32) (hI : g_ok LK_wX F) (hA : g_okR LA_wX R) : g_Cv l X yX3_product cX3_product 4 18 0 0 [.ref (ad 33), .int 2] (wX X ad F R) (fun w => ∃ (F' : Nat → Int32) (R' : Nat → Nat → Int32), w = wX X ad F' R' ∧ g_ok LK_wX F' ∧ g_okR LA_wX R' ∧ g_fr md_X3_product_c2 F F' ∧ g_fr mr_X3_product_c2 R R') := by
  refine g_mv (by decide +kernel) (Nat.le_of_ble_eq_true rfl) (fun E cx hret => ?_)
  refine g_aload_n cx 0 rfl e_X3_product_0 ?_
  refine g_iload_n cx 1 rfl e_X3_product_1 ?_
  refine g_cVvW cx [.int 2] [] (w_X3_factor_c2 l X ad F R hI hA) ml_X3_99 yV_X3_factor e_X3_product_2 (by unfold g_rr; decide) (by decide) 33 rfl rfl rfl (Nat.le_of_ble_eq_true rfl) (fun w2 h3 => ?_)
  obtain ⟨F4, R5, rfl, oF4, oR5, cF4, cR5⟩ := h3
  have fF4 : g_fr md_X3_product_c2 F F4 := g_fr_c (g_fr_rf F) cF4 rfl
  have fR5 : g_fr mr_X3_product_c2 R R5 := g_fr_c (g_fr_rf R) cR5 rfl
  refine g_iconst cx 0 (by decide) e_X3_product_5 ?_
  refine g_istore_n cx [(2, .int 0), (0, .ref (ad 33)), (1, .int 2)] e_X3_product_6 (by decide) rfl ?_
  have J7 : ∀ (N : Nat) (F7 : Nat → Int32) (R8 : Nat → Nat → Int32) (y6 : Int32), (g_ok LK_wX F7) → (g_fr md_X3_product_c2 F F7) → (g_okR LA_wX R8) → (g_fr mr_X3_product_c2 R R8) → (jv 0 200 y6) → (2147483647 - y6.toInt).toNat < N → G X E 4 0 0 (wX X ad F7 R8) [(0, .ref (ad 33)), (1, .int 2), (2, .int y6)] 7 [] := by
    intro N
    induction N with
    | zero => intro F7 R8 y6 oF7 fF7 oR8 fR8 py6 hm; exact absurd hm (Nat.not_lt_zero _)
    | succ N ih7 =>
      intro F7 R8 y6 oF7 fF7 oR8 fR8 py6 hm7
      refine g_iload_n cx 2 rfl e_X3_product_7 ?_
      refine g_sipush cx 200 (by decide) e_X3_product_8 ?_
      have J103 : G X E 4 0 0 (wX X ad F7 R8) [] 103 [] := by
        exact hret e_X3_product_103 (Nat.le_of_ble_eq_true rfl) (Nat.le_of_ble_eq_true rfl) ⟨F7, R8, rfl, oF7, oR8, fF7, fR8⟩
      refine g_icmp_ge cx 103 e_X3_product_11 (by decide) (fun zc9 => ?_) (fun zc9 => ?_)
      · have p10 := gn_ge 200 200 (gc_le zc9) py6 (jv_k (x := 200) 200 (by decide)) (by decide)
        refine g_lsub [] [] rfl ?_
        exact J103  
      · have p11 := gn_lt 0 199 (gc_nle zc9) py6 (jv_k (x := 200) 200 (by decide)) (by decide)
        refine g_aload_n cx 0 rfl e_X3_product_14 ?_
        refine g_cViW cx [] [] (w_X3_sign l X ad F7 R8 oF7 oR8) ml_X3_42 yV_X3_sign e_X3_product_15 (by unfold g_rr; decide) (by decide) 33 rfl rfl rfl (Nat.le_of_ble_eq_true rfl) (fun r12 w13 h14 => ?_)
        obtain ⟨rfl, pr12⟩ := h14
        refine g_bipush cx 42 (by decide) e_X3_product_18 ?_
        have J41 : G X E 4 0 0 (wX X ad F7 R8) [(0, .ref (ad 33)), (1, .int 2), (2, .int y6)] 41 [] := by
          refine g_aload_n cx 0 rfl e_X3_product_41 ?_
          refine g_cViW cx [] [] (w_X3_sign l X ad F7 R8 oF7 oR8) ml_X3_42 yV_X3_sign e_X3_product_42 (by unfold g_rr; decide) (by decide) 33 rfl rfl rfl (Nat.le_of_ble_eq_true rfl) (fun r15 w16 h17 => ?_)
          obtain ⟨rfl, pr15⟩ := h17
          refine g_bipush cx 42 (by decide) e_X3_product_45 ?_
          have J71 : ∀ (y18 : Int32), (jv 8 10 y18) → G X E 4 0 0 (wX X ad F7 R8) [(0, .ref (ad 33)), (1, .int 2), (2, .int y6)] 71 [.int y18] := by
            intro y18 py18
            refine g_istore_n cx [(3, .int y18), (0, .ref (ad 33)), (1, .int 2), (2, .int y6)] e_X3_product_71 (by decide) rfl ?_
            refine g_aload_n cx 1 rfl e_X3_product_72 ?_
            refine g_dup cx rfl e_X3_product_73 ?_
            refine g_get cx cl_X3 fl_X3_19 33 (.int (F7 531)) e_X3_product_74 rfl rfl ?_
            refine g_iconst cx 1 (by decide) e_X3_product_77 ?_
            refine g_iadd cx e_X3_product_78 ?_
            refine g_topi (fun x19 ex19 => ?_)
            refine g_put cx cl_X3 fl_X3_19 33 (wX X ad (upd F7 531 x19) R8) e_X3_product_79 rfl rfl rfl rfl (Nat.le_of_ble_eq_true rfl) rfl ?_
            obtain ⟨F20, hF20⟩ : ∃ z, z = upd F7 531 x19 := ⟨_, rfl⟩
            rw [← hF20]
            have oF20 : g_ok LK_wX F20 := by rw [hF20]; exact g_ok_u oF7 rfl
            have fF20 : g_fr md_X3_product_c2 F F20 := by rw [hF20]; exact g_fr_u fF7 rfl
            refine g_aload_n cx 1 rfl e_X3_product_82 ?_
            refine g_iload_n cx 2 rfl e_X3_product_83 ?_
            refine g_cVvW cx [.int 2] [] (w_X3_factor_c2 l X ad F20 R8 oF20 oR8) ml_X3_99 yV_X3_factor e_X3_product_84 (by unfold g_rr; decide) (by decide) 33 rfl rfl rfl (Nat.le_of_ble_eq_true rfl) (fun w22 h23 => ?_)
            obtain ⟨F24, R25, rfl, oF24, oR25, cF24, cR25⟩ := h23
            have fF24 : g_fr md_X3_product_c2 F F24 := g_fr_c fF20 cF24 rfl
            have fR25 : g_fr mr_X3_product_c2 R R25 := g_fr_c fR8 cR25 rfl
            refine g_aload_n cx 1 rfl e_X3_product_87 ?_
            refine g_get cx cl_X3 fl_X3_25 33 (.ref (ad 25)) e_X3_product_88 rfl rfl ?_
            refine g_iload_n cx 0 rfl e_X3_product_91 ?_
            refine g_iconst cx 0 (by decide) e_X3_product_92 ?_
            refine g_cViW cx [.int y18, .int 0] [] (w_X2_emit_25 l X ad F24 R25 oF24 oR25 y18 0) ml_X3_66 yV_X2_emit e_X3_product_93 (by unfold g_rr; decide) (by decide) 25 rfl rfl rfl (Nat.le_of_ble_eq_true rfl) (fun r26 w27 h28 => ?_)
            obtain ⟨F29, R30, rfl, oF29, oR30, cF29, cR30, pr26⟩ := h28
            have fF29 : g_fr md_X3_product_c2 F F29 := g_fr_c fF24 cF29 rfl
            have fR30 : g_fr mr_X3_product_c2 R R30 := g_fr_c fR25 cR30 rfl
            refine g_pop cx rfl e_X3_product_96 ?_
            obtain ⟨x31, ex31⟩ : ∃ z : Int32, z = y6 + Int32.ofInt 1 := ⟨_, rfl⟩
            refine g_iinc cx x31 [(2, .int x31), (3, .int y18), (0, .ref (ad 33)), (1, .int 2)] 3 e_X3_product_97 rfl ex31.symm (by decide) rfl ?_
            have zx31 := jv_add 1 200 (show x31 = y6 + 1 from ex31) p11 (jv_k (x := 1) 1 (by decide)) (by decide)
            refine g_goto cx 7 e_X3_product_100 (by decide) ?_
            refine g_lsub [2, 3, 0] [(0, .ref (ad 33)), (1, .int 2), (2, .int x31)] rfl ?_
            exact ih7 F29 R30 x31 oF29 fF29 oR30 fR30 (jv_w zx31.2 (by decide)) (Nat.lt_of_lt_of_le (show (2147483647 - x31.toInt).toNat < (2147483647 - y6.toInt).toNat from by have q0 := (jv_k (x := 1) 1 (by decide)).1; have q1 := (jv_k (x := 1) 1 (by decide)).2; have q2 := (jv_k (x := 200) 200 (by decide)).1; have q3 := (jv_k (x := 200) 200 (by decide)).2; have q4 := zx31.2.1; have q5 := zx31.2.2; have q6 := p11.1; have q7 := p11.2; have q8 := (gc_nle zc9); have q9 := (g_eq0 zx31.1); omega) (Nat.le_of_lt_succ hm7))
          refine g_icmp_ne cx 55 e_X3_product_47 (by decide) (fun zc32 => ?_) (fun zc32 => ?_)
          · refine g_aload_n cx 0 rfl e_X3_product_55 ?_
            refine g_cViW cx [] [] (w_X3_sign l X ad F7 R8 oF7 oR8) ml_X3_42 yV_X3_sign e_X3_product_56 (by unfold g_rr; decide) (by decide) 33 rfl rfl rfl (Nat.le_of_ble_eq_true rfl) (fun r33 w34 h35 => ?_)
            obtain ⟨rfl, pr33⟩ := h35
            refine g_bipush cx 47 (by decide) e_X3_product_59 ?_
            refine g_icmp_ne cx 69 e_X3_product_61 (by decide) (fun zc36 => ?_) (fun zc36 => ?_)
            · refine g_bipush cx 10 (by decide) e_X3_product_69 ?_
              exact J71 10 (jv_w (jv_k (x := 10) 10 (by decide)) (by decide))
            · have p37 := gn_eq 47 47 (gc_eq zc36) pr33 (jv_k (x := 47) 47 (by decide)) (by decide)
              refine g_bipush cx 9 (by decide) e_X3_product_64 ?_
              refine g_goto cx 71 e_X3_product_66 (by decide) ?_
              exact J71 9 (jv_w (jv_k (x := 9) 9 (by decide)) (by decide))
          · have p38 := gn_eq 42 42 (gc_eq zc32) pr15 (jv_k (x := 42) 42 (by decide)) (by decide)
            refine g_bipush cx 8 (by decide) e_X3_product_50 ?_
            refine g_goto cx 71 e_X3_product_52 (by decide) ?_
            exact J71 8 (jv_w (jv_k (x := 8) 8 (by decide)) (by decide))
        refine g_icmp_eq cx 41 e_X3_product_20 (by decide) (fun zc39 => ?_) (fun zc39 => ?_)
        · have p40 := gn_eq 42 42 (gc_eq zc39) pr12 (jv_k (x := 42) 42 (by decide)) (by decide)
          exact J41  
        · refine g_aload_n cx 0 rfl e_X3_product_23 ?_
          refine g_cViW cx [] [] (w_X3_sign l X ad F7 R8 oF7 oR8) ml_X3_42 yV_X3_sign e_X3_product_24 (by unfold g_rr; decide) (by decide) 33 rfl rfl rfl (Nat.le_of_ble_eq_true rfl) (fun r41 w42 h43 => ?_)
          obtain ⟨rfl, pr41⟩ := h43
          refine g_bipush cx 47 (by decide) e_X3_product_27 ?_
          refine g_icmp_eq cx 41 e_X3_product_29 (by decide) (fun zc44 => ?_) (fun zc44 => ?_)
          · have p45 := gn_eq 47 47 (gc_eq zc44) pr41 (jv_k (x := 47) 47 (by decide)) (by decide)
            exact J41  
          · refine g_aload_n cx 0 rfl e_X3_product_32 ?_
            refine g_cViW cx [] [] (w_X3_sign l X ad F7 R8 oF7 oR8) ml_X3_42 yV_X3_sign e_X3_product_33 (by unfold g_rr; decide) (by decide) 33 rfl rfl rfl (Nat.le_of_ble_eq_true rfl) (fun r46 w47 h48 => ?_)
            obtain ⟨rfl, pr46⟩ := h48
            refine g_bipush cx 37 (by decide) e_X3_product_36 ?_
            refine g_icmp_ne cx 103 e_X3_product_38 (by decide) (fun zc49 => ?_) (fun zc49 => ?_)
            · refine g_lsub [] [] rfl ?_
              exact J103  
            · have p50 := gn_eq 37 37 (gc_eq zc49) pr46 (jv_k (x := 37) 37 (by decide)) (by decide)
              exact J41  
  refine g_lsub [1, 2, 0] [(0, .ref (ad 33)), (1, .int 2), (2, .int 0)] rfl ?_
  exact J7 _ F4 R5 0 oF4 fF4 oR5 fR5 (jv_w (jv_k (x := 0) 0 (by decide)) (by decide)) (Nat.lt_succ_self _)
def md_X3_sum_c2 : List Nat := [402, 531, 532]
def mr_X3_sum_c2 : List Nat := [26, 27]
set_option maxHeartbeats 4000000 in
set_option maxRecDepth 100000 in
theorem w_X3_sum_c2 (l : Launch) (X : gX) (ad : Nat → Nat) (F : Nat → Int32) (R : Nat → Nat → Int32) (hI : g_ok LK_wX F) (hA : g_okR LA_wX R) : g_Cv l X yX3_sum cX3_sum 4 19 0 0 [.ref (ad 33), .int 2] (wX X ad F R) (fun w => ∃ (F' : Nat → Int32) (R' : Nat → Nat → Int32), w = wX X ad F' R' ∧ g_ok LK_wX F' ∧ g_okR LA_wX R' ∧ g_fr md_X3_sum_c2 F F' ∧ g_fr mr_X3_sum_c2 R R') := by
  refine g_mv (by decide +kernel) (Nat.le_of_ble_eq_true rfl) (fun E cx hret => ?_)
  refine g_aload_n cx 0 rfl e_X3_sum_0 ?_
  refine g_iload_n cx 1 rfl e_X3_sum_1 ?_
  refine g_cVvW cx [.int 2] [] (w_X3_product_c2 l X ad F R hI hA) ml_X3_96 yV_X3_product e_X3_sum_2 (by unfold g_rr; decide) (by decide) 33 rfl rfl rfl (Nat.le_of_ble_eq_true rfl) (fun w2 h3 => ?_)
  obtain ⟨F4, R5, rfl, oF4, oR5, cF4, cR5⟩ := h3
  have fF4 : g_fr md_X3_sum_c2 F F4 := g_fr_c (g_fr_rf F) cF4 rfl
  have fR5 : g_fr mr_X3_sum_c2 R R5 := g_fr_c (g_fr_rf R) cR5 rfl
  refine g_iconst cx 0 (by decide) e_X3_sum_5 ?_
  refine g_istore_n cx [(2, .int 0), (0, .ref (ad 33)), (1, .int 2)] e_X3_sum_6 (by decide) rfl ?_
  have J7 : ∀ (N : Nat) (F7 : Nat → Int32) (R8 : Nat → Nat → Int32) (y6 : Int32), (g_ok LK_wX F7) → (g_fr md_X3_sum_c2 F F7) → (g_okR LA_wX R8) → (g_fr mr_X3_sum_c2 R R8) → (jv 0 200 y6) → (2147483647 - y6.toInt).toNat < N → G X E 4 0 0 (wX X ad F7 R8) [(0, .ref (ad 33)), (1, .int 2), (2, .int y6)] 7 [] := by
    intro N
    induction N with
    | zero => intro F7 R8 y6 oF7 fF7 oR8 fR8 py6 hm; exact absurd hm (Nat.not_lt_zero _)
    | succ N ih7 =>
      intro F7 R8 y6 oF7 fF7 oR8 fR8 py6 hm7
      refine g_iload_n cx 2 rfl e_X3_sum_7 ?_
      refine g_sipush cx 200 (by decide) e_X3_sum_8 ?_
      have J80 : G X E 4 0 0 (wX X ad F7 R8) [] 80 [] := by
        exact hret e_X3_sum_80 (Nat.le_of_ble_eq_true rfl) (Nat.le_of_ble_eq_true rfl) ⟨F7, R8, rfl, oF7, oR8, fF7, fR8⟩
      refine g_icmp_ge cx 80 e_X3_sum_11 (by decide) (fun zc9 => ?_) (fun zc9 => ?_)
      · have p10 := gn_ge 200 200 (gc_le zc9) py6 (jv_k (x := 200) 200 (by decide)) (by decide)
        refine g_lsub [] [] rfl ?_
        exact J80  
      · have p11 := gn_lt 0 199 (gc_nle zc9) py6 (jv_k (x := 200) 200 (by decide)) (by decide)
        refine g_aload_n cx 0 rfl e_X3_sum_14 ?_
        refine g_cViW cx [] [] (w_X3_sign l X ad F7 R8 oF7 oR8) ml_X3_42 yV_X3_sign e_X3_sum_15 (by unfold g_rr; decide) (by decide) 33 rfl rfl rfl (Nat.le_of_ble_eq_true rfl) (fun r12 w13 h14 => ?_)
        obtain ⟨rfl, pr12⟩ := h14
        refine g_bipush cx 43 (by decide) e_X3_sum_18 ?_
        have J32 : G X E 4 0 0 (wX X ad F7 R8) [(0, .ref (ad 33)), (1, .int 2), (2, .int y6)] 32 [] := by
          refine g_aload_n cx 0 rfl e_X3_sum_32 ?_
          refine g_cViW cx [] [] (w_X3_sign l X ad F7 R8 oF7 oR8) ml_X3_42 yV_X3_sign e_X3_sum_33 (by unfold g_rr; decide) (by decide) 33 rfl rfl rfl (Nat.le_of_ble_eq_true rfl) (fun r15 w16 h17 => ?_)
          obtain ⟨rfl, pr15⟩ := h17
          refine g_bipush cx 43 (by decide) e_X3_sum_36 ?_
          have J48 : ∀ (y18 : Int32), (jv 6 7 y18) → G X E 4 0 0 (wX X ad F7 R8) [(0, .ref (ad 33)), (1, .int 2), (2, .int y6)] 48 [.int y18] := by
            intro y18 py18
            refine g_istore_n cx [(3, .int y18), (0, .ref (ad 33)), (1, .int 2), (2, .int y6)] e_X3_sum_48 (by decide) rfl ?_
            refine g_aload_n cx 1 rfl e_X3_sum_49 ?_
            refine g_dup cx rfl e_X3_sum_50 ?_
            refine g_get cx cl_X3 fl_X3_19 33 (.int (F7 531)) e_X3_sum_51 rfl rfl ?_
            refine g_iconst cx 1 (by decide) e_X3_sum_54 ?_
            refine g_iadd cx e_X3_sum_55 ?_
            refine g_topi (fun x19 ex19 => ?_)
            refine g_put cx cl_X3 fl_X3_19 33 (wX X ad (upd F7 531 x19) R8) e_X3_sum_56 rfl rfl rfl rfl (Nat.le_of_ble_eq_true rfl) rfl ?_
            obtain ⟨F20, hF20⟩ : ∃ z, z = upd F7 531 x19 := ⟨_, rfl⟩
            rw [← hF20]
            have oF20 : g_ok LK_wX F20 := by rw [hF20]; exact g_ok_u oF7 rfl
            have fF20 : g_fr md_X3_sum_c2 F F20 := by rw [hF20]; exact g_fr_u fF7 rfl
            refine g_aload_n cx 1 rfl e_X3_sum_59 ?_
            refine g_iload_n cx 2 rfl e_X3_sum_60 ?_
            refine g_cVvW cx [.int 2] [] (w_X3_product_c2 l X ad F20 R8 oF20 oR8) ml_X3_96 yV_X3_product e_X3_sum_61 (by unfold g_rr; decide) (by decide) 33 rfl rfl rfl (Nat.le_of_ble_eq_true rfl) (fun w22 h23 => ?_)
            obtain ⟨F24, R25, rfl, oF24, oR25, cF24, cR25⟩ := h23
            have fF24 : g_fr md_X3_sum_c2 F F24 := g_fr_c fF20 cF24 rfl
            have fR25 : g_fr mr_X3_sum_c2 R R25 := g_fr_c fR8 cR25 rfl
            refine g_aload_n cx 1 rfl e_X3_sum_64 ?_
            refine g_get cx cl_X3 fl_X3_25 33 (.ref (ad 25)) e_X3_sum_65 rfl rfl ?_
            refine g_iload_n cx 0 rfl e_X3_sum_68 ?_
            refine g_iconst cx 0 (by decide) e_X3_sum_69 ?_
            refine g_cViW cx [.int y18, .int 0] [] (w_X2_emit_25 l X ad F24 R25 oF24 oR25 y18 0) ml_X3_66 yV_X2_emit e_X3_sum_70 (by unfold g_rr; decide) (by decide) 25 rfl rfl rfl (Nat.le_of_ble_eq_true rfl) (fun r26 w27 h28 => ?_)
            obtain ⟨F29, R30, rfl, oF29, oR30, cF29, cR30, pr26⟩ := h28
            have fF29 : g_fr md_X3_sum_c2 F F29 := g_fr_c fF24 cF29 rfl
            have fR30 : g_fr mr_X3_sum_c2 R R30 := g_fr_c fR25 cR30 rfl
            refine g_pop cx rfl e_X3_sum_73 ?_
            obtain ⟨x31, ex31⟩ : ∃ z : Int32, z = y6 + Int32.ofInt 1 := ⟨_, rfl⟩
            refine g_iinc cx x31 [(2, .int x31), (3, .int y18), (0, .ref (ad 33)), (1, .int 2)] 3 e_X3_sum_74 rfl ex31.symm (by decide) rfl ?_
            have zx31 := jv_add 1 200 (show x31 = y6 + 1 from ex31) p11 (jv_k (x := 1) 1 (by decide)) (by decide)
            refine g_goto cx 7 e_X3_sum_77 (by decide) ?_
            refine g_lsub [2, 3, 0] [(0, .ref (ad 33)), (1, .int 2), (2, .int x31)] rfl ?_
            exact ih7 F29 R30 x31 oF29 fF29 oR30 fR30 (jv_w zx31.2 (by decide)) (Nat.lt_of_lt_of_le (show (2147483647 - x31.toInt).toNat < (2147483647 - y6.toInt).toNat from by have q0 := (jv_k (x := 1) 1 (by decide)).1; have q1 := (jv_k (x := 1) 1 (by decide)).2; have q2 := (jv_k (x := 200) 200 (by decide)).1; have q3 := (jv_k (x := 200) 200 (by decide)).2; have q4 := zx31.2.1; have q5 := zx31.2.2; have q6 := p11.1; have q7 := p11.2; have q8 := (gc_nle zc9); have q9 := (g_eq0 zx31.1); omega) (Nat.le_of_lt_succ hm7))
          refine g_icmp_ne cx 46 e_X3_sum_38 (by decide) (fun zc32 => ?_) (fun zc32 => ?_)
          · refine g_bipush cx 7 (by decide) e_X3_sum_46 ?_
            exact J48 7 (jv_w (jv_k (x := 7) 7 (by decide)) (by decide))
          · have p33 := gn_eq 43 43 (gc_eq zc32) pr15 (jv_k (x := 43) 43 (by decide)) (by decide)
            refine g_bipush cx 6 (by decide) e_X3_sum_41 ?_
            refine g_goto cx 48 e_X3_sum_43 (by decide) ?_
            exact J48 6 (jv_w (jv_k (x := 6) 6 (by decide)) (by decide))
        refine g_icmp_eq cx 32 e_X3_sum_20 (by decide) (fun zc34 => ?_) (fun zc34 => ?_)
        · have p35 := gn_eq 43 43 (gc_eq zc34) pr12 (jv_k (x := 43) 43 (by decide)) (by decide)
          exact J32  
        · refine g_aload_n cx 0 rfl e_X3_sum_23 ?_
          refine g_cViW cx [] [] (w_X3_sign l X ad F7 R8 oF7 oR8) ml_X3_42 yV_X3_sign e_X3_sum_24 (by unfold g_rr; decide) (by decide) 33 rfl rfl rfl (Nat.le_of_ble_eq_true rfl) (fun r36 w37 h38 => ?_)
          obtain ⟨rfl, pr36⟩ := h38
          refine g_bipush cx 45 (by decide) e_X3_sum_27 ?_
          refine g_icmp_ne cx 80 e_X3_sum_29 (by decide) (fun zc39 => ?_) (fun zc39 => ?_)
          · refine g_lsub [] [] rfl ?_
            exact J80  
          · have p40 := gn_eq 45 45 (gc_eq zc39) pr36 (jv_k (x := 45) 45 (by decide)) (by decide)
            exact J32  
  refine g_lsub [1, 2, 0] [(0, .ref (ad 33)), (1, .int 2), (2, .int 0)] rfl ?_
  exact J7 _ F4 R5 0 oF4 fF4 oR5 fR5 (jv_w (jv_k (x := 0) 0 (by decide)) (by decide)) (Nat.lt_succ_self _)
def md_X3_factor_c1 : List Nat := [402, 531, 532]
def mr_X3_factor_c1 : List Nat := [26, 27]
set_option maxHeartbeats 4000000 in
set_option maxRecDepth 100000 in
theorem w_X3_factor_c1 (l : Launch) (X : gX) (ad : Nat → Nat) (F : Nat → Int32) (R : Nat → Nat → Int32) (hI : g_ok LK_wX F) (hA : g_okR LA_wX R) : g_Cv l X yX3_factor cX3_factor 3 20 0 0 [.ref (ad 33), .int 1] (wX X ad F R) (fun w => ∃ (F' : Nat → Int32) (R' : Nat → Nat → Int32), w = wX X ad F' R' ∧ g_ok LK_wX F' ∧ g_okR LA_wX R' ∧ g_fr md_X3_factor_c1 F F' ∧ g_fr mr_X3_factor_c1 R R') := by
  refine g_mv (by decide +kernel) (Nat.le_of_ble_eq_true rfl) (fun E cx hret => ?_)
  refine g_aload_n cx 0 rfl e_X3_factor_0 ?_
  refine g_cViW cx [] [] (w_X3_sign l X ad F R hI hA) ml_X3_42 yV_X3_sign e_X3_factor_1 (by unfold g_rr; decide) (by decide) 33 rfl rfl rfl (Nat.le_of_ble_eq_true rfl) (fun r1 w2 h3 => ?_)
  obtain ⟨rfl, pr1⟩ := h3
  refine g_bipush cx 91 (by decide) e_X3_factor_4 ?_
  refine g_icmp_ne cx 31 e_X3_factor_6 (by decide) (fun zc4 => ?_) (fun zc4 => ?_)
  · refine g_aload_n cx 0 rfl e_X3_factor_31 ?_
    refine g_cViW cx [] [] (w_X3_sign l X ad F R hI hA) ml_X3_42 yV_X3_sign e_X3_factor_32 (by unfold g_rr; decide) (by decide) 33 rfl rfl rfl (Nat.le_of_ble_eq_true rfl) (fun r5 w6 h7 => ?_)
    obtain ⟨rfl, pr5⟩ := h7
    refine g_bipush cx 48 (by decide) e_X3_factor_35 ?_
    refine g_bipush cx 57 (by decide) e_X3_factor_37 ?_
    refine g_cNiW cx [.int r5, .int 48, .int 57] [] (c_X10_within l X (wX X ad F R) r5 48 57) mn_X3_102 yS_X10_within e_X3_factor_39 (by unfold g_rr; decide) (by decide) rfl (Nat.le_of_ble_eq_true rfl) (fun r8 w9 h10 => ?_)
    obtain ⟨rfl, hr8⟩ := h10
    have pr8 : jv 0 1 r8 := by rw [hr8]; exact gi_01 _ _ _
    refine g_if_eq cx 50 e_X3_factor_42 (by decide) (fun zc11 => ?_) (fun zc11 => ?_)
    · have p12 := gn_eq 0 0 (gc_eq zc11) pr8 (jv_k (x := 0) 0 (by decide)) (by decide)
      refine g_aload_n cx 0 rfl e_X3_factor_50 ?_
      refine g_cViW cx [] [] (w_X3_sign l X ad F R hI hA) ml_X3_42 yV_X3_sign e_X3_factor_51 (by unfold g_rr; decide) (by decide) 33 rfl rfl rfl (Nat.le_of_ble_eq_true rfl) (fun r13 w14 h15 => ?_)
      obtain ⟨rfl, pr13⟩ := h15
      refine g_iconst cx (-1) (by decide) e_X3_factor_54 ?_
      have J72 : ∀ (y16 : Int32), (jv (-1) 11 y16) → G X E 3 0 0 (wX X ad F R) [(0, .ref (ad 33))] 72 [.int y16] := by
        intro y16 py16
        refine g_istore_n cx [(2, .int y16), (0, .ref (ad 33))] e_X3_factor_72 (by decide) rfl ?_
        refine g_iload_n cx 0 rfl e_X3_factor_73 ?_
        refine g_if_ge cx 83 e_X3_factor_74 (by decide) (fun zc17 => ?_) (fun zc17 => ?_)
        · have p18 := gn_ge 0 11 (gc_le zc17) py16 (jv_k (x := 0) 0 (by decide)) (by decide)
          refine g_aload_n cx 1 rfl e_X3_factor_83 ?_
          refine g_dup cx rfl e_X3_factor_84 ?_
          refine g_get cx cl_X3 fl_X3_19 33 (.int (F 531)) e_X3_factor_85 rfl rfl ?_
          refine g_iconst cx 1 (by decide) e_X3_factor_88 ?_
          refine g_iadd cx e_X3_factor_89 ?_
          refine g_topi (fun x19 ex19 => ?_)
          refine g_put cx cl_X3 fl_X3_19 33 (wX X ad (upd F 531 x19) R) e_X3_factor_90 rfl rfl rfl rfl (Nat.le_of_ble_eq_true rfl) rfl ?_
          obtain ⟨F20, hF20⟩ : ∃ z, z = upd F 531 x19 := ⟨_, rfl⟩
          rw [← hF20]
          have oF20 : g_ok LK_wX F20 := by rw [hF20]; exact g_ok_u hI rfl
          have fF20 : g_fr md_X3_factor_c1 F F20 := by rw [hF20]; exact g_fr_u (g_fr_rf F) rfl
          refine g_aload_n cx 1 rfl e_X3_factor_93 ?_
          refine g_get cx cl_X3 fl_X3_25 33 (.ref (ad 25)) e_X3_factor_94 rfl rfl ?_
          refine g_iconst cx 2 (by decide) e_X3_factor_97 ?_
          refine g_iload_n cx 0 rfl e_X3_factor_98 ?_
          refine g_cViW cx [.int 2, .int y16] [] (w_X2_emit_25 l X ad F20 R oF20 hA 2 y16) ml_X3_66 yV_X2_emit e_X3_factor_99 (by unfold g_rr; decide) (by decide) 25 rfl rfl rfl (Nat.le_of_ble_eq_true rfl) (fun r21 w22 h23 => ?_)
          obtain ⟨F24, R25, rfl, oF24, oR25, cF24, cR25, pr21⟩ := h23
          have fF24 : g_fr md_X3_factor_c1 F F24 := g_fr_c fF20 cF24 rfl
          have fR25 : g_fr mr_X3_factor_c1 R R25 := g_fr_c (g_fr_rf R) cR25 rfl
          refine g_pop cx rfl e_X3_factor_102 ?_
          exact hret e_X3_factor_103 (Nat.le_of_ble_eq_true rfl) (Nat.le_of_ble_eq_true rfl) ⟨F24, R25, rfl, oF24, oR25, fF24, fR25⟩
        · have p26 := gn_lt (-1) (-1) (gc_nle zc17) py16 (jv_k (x := 0) 0 (by decide)) (by decide)
          refine g_aload_n cx 1 rfl e_X3_factor_77 ?_
          refine g_iconst cx 1 (by decide) e_X3_factor_78 ?_
          refine g_cVvW cx [.int 1] [] (w_X3_fail l X ad F R hI hA 1) ml_X3_46 yV_X3_fail e_X3_factor_79 (by unfold g_rr; decide) (by decide) 33 rfl rfl rfl (Nat.le_of_ble_eq_true rfl) (fun w28 h29 => ?_)
          obtain ⟨F30, R31, rfl, oF30, oR31, cF30, cR31⟩ := h29
          have fF30 : g_fr md_X3_factor_c1 F F30 := g_fr_c (g_fr_rf F) cF30 rfl
          have fR31 : g_fr mr_X3_factor_c1 R R31 := g_fr_c (g_fr_rf R) cR31 rfl
          exact hret e_X3_factor_82 (Nat.le_of_ble_eq_true rfl) (Nat.le_of_ble_eq_true rfl) ⟨F30, R31, rfl, oF30, oR31, fF30, fR31⟩
      refine g_icmp_ne cx 62 e_X3_factor_55 (by decide) (fun zc32 => ?_) (fun zc32 => ?_)
      · refine g_ldcS1 cx rfl e_X3_factor_62 ?_
        refine g_aload_n cx 0 rfl e_X3_factor_64 ?_
        refine g_cViW cx [] [.ref (X.1.2.2.2.1 1)] (w_X3_sign l X ad F R hI hA) ml_X3_42 yV_X3_sign e_X3_factor_65 (by unfold g_rr; decide) (by decide) 33 rfl rfl rfl (Nat.le_of_ble_eq_true rfl) (fun r33 w34 h35 => ?_)
        obtain ⟨rfl, pr33⟩ := h35
        refine g_i2c cx e_X3_factor_68 ?_
        refine g_topi (fun x36 ex36 => ?_)
        refine g_cVsW cx [.int x36] [] 1 (by decide) rfl (w_J0_indexOf_0f7a4_s1 l X (wX X ad F R) x36) ml_X3_52 yV_J0_indexOf_0f7a4 e_X3_factor_69 (by unfold g_rr; decide) (by decide) rfl (Nat.le_of_ble_eq_true rfl) (fun r37 w38 h39 => ?_)
        obtain ⟨rfl, pr37⟩ := h39
        refine g_lsub [0] [(0, .ref (ad 33))] rfl ?_
        exact J72 r37 pr37
      · have p40 := gn_eq (-1) (-1) (gc_eq zc32) pr13 (jv_k (x := (-1)) (-1) (by decide)) (by decide)
        refine g_iconst cx (-1) (by decide) e_X3_factor_58 ?_
        refine g_goto cx 72 e_X3_factor_59 (by decide) ?_
        refine g_lsub [0] [(0, .ref (ad 33))] rfl ?_
        exact J72 (-1) (jv_w (jv_k (x := (-1)) (-1) (by decide)) (by decide))
    · have p41 := gn_neL 1 1 (gc_ne zc11) pr8 (jv_k (x := 0) 0 (by decide)) (by decide)
      have p42 := jv_i 48 57 pr5 (gi_in (A := 48) (B := 57) hr8 zc11 (by decide) (by decide)) (by decide)
      refine g_aload_n cx 0 rfl e_X3_factor_45 ?_
      refine g_cVvW cx [] [] (w_X3_number l X ad F R hI hA) ml_X3_106 yV_X3_number e_X3_factor_46 (by unfold g_rr; decide) (by decide) 33 rfl rfl rfl (Nat.le_of_ble_eq_true rfl) (fun w44 h45 => ?_)
      obtain ⟨F46, R47, rfl, oF46, oR47, cF46, cR47⟩ := h45
      have fF46 : g_fr md_X3_factor_c1 F F46 := g_fr_c (g_fr_rf F) cF46 rfl
      have fR47 : g_fr mr_X3_factor_c1 R R47 := g_fr_c (g_fr_rf R) cR47 rfl
      exact hret e_X3_factor_49 (Nat.le_of_ble_eq_true rfl) (Nat.le_of_ble_eq_true rfl) ⟨F46, R47, rfl, oF46, oR47, fF46, fR47⟩
  · have p48 := gn_eq 91 91 (gc_eq zc4) pr1 (jv_k (x := 91) 91 (by decide)) (by decide)
    refine g_aload_n cx 0 rfl e_X3_factor_9 ?_
    refine g_iload_n cx 1 rfl e_X3_factor_10 ?_
    refine g_cViW cx [.int 1] [] (w_X3_opens_c1 l X ad F R hI hA) ml_X3_89 yV_X3_opens e_X3_factor_11 (by unfold g_rr; decide) (by decide) 33 rfl rfl rfl (Nat.le_of_ble_eq_true rfl) (fun r49 w50 h51 => ?_)
    obtain ⟨F52, R53, rfl, oF52, oR53, cF52, cR53, pr49⟩ := h51
    have fF52 : g_fr md_X3_factor_c1 F F52 := g_fr_c (g_fr_rf F) cF52 rfl
    have fR53 : g_fr mr_X3_factor_c1 R R53 := g_fr_c (g_fr_rf R) cR53 rfl
    refine g_if_eq cx 30 e_X3_factor_14 (by decide) (fun zc54 => ?_) (fun zc54 => ?_)
    · exact (gf_eq (gc_eq zc54) pr49 (jv_k (x := 0) 0 (by decide)) (by decide)).elim
    · refine g_aload_n cx 0 rfl e_X3_factor_17 ?_
      refine g_iload_n cx 1 rfl e_X3_factor_18 ?_
      refine g_iconst cx 1 (by decide) e_X3_factor_19 ?_
      refine g_iadd cx e_X3_factor_20 ?_
      refine g_toi 2 (by decide) ?_
      refine g_cVvW cx [.int 2] [] (w_X3_sum_c2 l X ad F52 R53 oF52 oR53) ml_X3_63 yV_X3_sum e_X3_factor_21 (by unfold g_rr; decide) (by decide) 33 rfl rfl rfl (Nat.le_of_ble_eq_true rfl) (fun w56 h57 => ?_)
      obtain ⟨F58, R59, rfl, oF58, oR59, cF58, cR59⟩ := h57
      have fF58 : g_fr md_X3_factor_c1 F F58 := g_fr_c fF52 cF58 rfl
      have fR59 : g_fr mr_X3_factor_c1 R R59 := g_fr_c fR53 cR59 rfl
      refine g_aload_n cx 0 rfl e_X3_factor_24 ?_
      refine g_bipush cx 93 (by decide) e_X3_factor_25 ?_
      refine g_cVvW cx [.int 93] [] (w_X3_pass l X ad F58 R59 oF58 oR59 93) ml_X3_70 yV_X3_pass e_X3_factor_27 (by unfold g_rr; decide) (by decide) 33 rfl rfl rfl (Nat.le_of_ble_eq_true rfl) (fun w61 h62 => ?_)
      obtain ⟨F63, R64, rfl, oF63, oR64, cF63, cR64⟩ := h62
      have fF63 : g_fr md_X3_factor_c1 F F63 := g_fr_c fF58 cF63 rfl
      have fR64 : g_fr mr_X3_factor_c1 R R64 := g_fr_c fR59 cR64 rfl
      exact hret e_X3_factor_30 (Nat.le_of_ble_eq_true rfl) (Nat.le_of_ble_eq_true rfl) ⟨F63, R64, rfl, oF63, oR64, fF63, fR64⟩
def md_X3_product_c1 : List Nat := [402, 531, 532]
def mr_X3_product_c1 : List Nat := [26, 27]
set_option maxHeartbeats 4000000 in
set_option maxRecDepth 100000 in
theorem w_X3_product_c1 (l : Launch) (X : gX) (ad : Nat → Nat) (F : Nat → Int32) (R : Nat → Nat → Int32) (hI : g_ok LK_wX F) (hA : g_okR LA_wX R) : g_Cv l X yX3_product cX3_product 4 21 0 0 [.ref (ad 33), .int 1] (wX X ad F R) (fun w => ∃ (F' : Nat → Int32) (R' : Nat → Nat → Int32), w = wX X ad F' R' ∧ g_ok LK_wX F' ∧ g_okR LA_wX R' ∧ g_fr md_X3_product_c1 F F' ∧ g_fr mr_X3_product_c1 R R') := by
  refine g_mv (by decide +kernel) (Nat.le_of_ble_eq_true rfl) (fun E cx hret => ?_)
  refine g_aload_n cx 0 rfl e_X3_product_0 ?_
  refine g_iload_n cx 1 rfl e_X3_product_1 ?_
  refine g_cVvW cx [.int 1] [] (w_X3_factor_c1 l X ad F R hI hA) ml_X3_99 yV_X3_factor e_X3_product_2 (by unfold g_rr; decide) (by decide) 33 rfl rfl rfl (Nat.le_of_ble_eq_true rfl) (fun w2 h3 => ?_)
  obtain ⟨F4, R5, rfl, oF4, oR5, cF4, cR5⟩ := h3
  have fF4 : g_fr md_X3_product_c1 F F4 := g_fr_c (g_fr_rf F) cF4 rfl
  have fR5 : g_fr mr_X3_product_c1 R R5 := g_fr_c (g_fr_rf R) cR5 rfl
  refine g_iconst cx 0 (by decide) e_X3_product_5 ?_
  refine g_istore_n cx [(2, .int 0), (0, .ref (ad 33)), (1, .int 1)] e_X3_product_6 (by decide) rfl ?_
  have J7 : ∀ (N : Nat) (F7 : Nat → Int32) (R8 : Nat → Nat → Int32) (y6 : Int32), (g_ok LK_wX F7) → (g_fr md_X3_product_c1 F F7) → (g_okR LA_wX R8) → (g_fr mr_X3_product_c1 R R8) → (jv 0 200 y6) → (2147483647 - y6.toInt).toNat < N → G X E 4 0 0 (wX X ad F7 R8) [(0, .ref (ad 33)), (1, .int 1), (2, .int y6)] 7 [] := by
    intro N
    induction N with
    | zero => intro F7 R8 y6 oF7 fF7 oR8 fR8 py6 hm; exact absurd hm (Nat.not_lt_zero _)
    | succ N ih7 =>
      intro F7 R8 y6 oF7 fF7 oR8 fR8 py6 hm7
      refine g_iload_n cx 2 rfl e_X3_product_7 ?_
      refine g_sipush cx 200 (by decide) e_X3_product_8 ?_
      have J103 : G X E 4 0 0 (wX X ad F7 R8) [] 103 [] := by
        exact hret e_X3_product_103 (Nat.le_of_ble_eq_true rfl) (Nat.le_of_ble_eq_true rfl) ⟨F7, R8, rfl, oF7, oR8, fF7, fR8⟩
      refine g_icmp_ge cx 103 e_X3_product_11 (by decide) (fun zc9 => ?_) (fun zc9 => ?_)
      · have p10 := gn_ge 200 200 (gc_le zc9) py6 (jv_k (x := 200) 200 (by decide)) (by decide)
        refine g_lsub [] [] rfl ?_
        exact J103  
      · have p11 := gn_lt 0 199 (gc_nle zc9) py6 (jv_k (x := 200) 200 (by decide)) (by decide)
        refine g_aload_n cx 0 rfl e_X3_product_14 ?_
        refine g_cViW cx [] [] (w_X3_sign l X ad F7 R8 oF7 oR8) ml_X3_42 yV_X3_sign e_X3_product_15 (by unfold g_rr; decide) (by decide) 33 rfl rfl rfl (Nat.le_of_ble_eq_true rfl) (fun r12 w13 h14 => ?_)
        obtain ⟨rfl, pr12⟩ := h14
        refine g_bipush cx 42 (by decide) e_X3_product_18 ?_
        have J41 : G X E 4 0 0 (wX X ad F7 R8) [(0, .ref (ad 33)), (1, .int 1), (2, .int y6)] 41 [] := by
          refine g_aload_n cx 0 rfl e_X3_product_41 ?_
          refine g_cViW cx [] [] (w_X3_sign l X ad F7 R8 oF7 oR8) ml_X3_42 yV_X3_sign e_X3_product_42 (by unfold g_rr; decide) (by decide) 33 rfl rfl rfl (Nat.le_of_ble_eq_true rfl) (fun r15 w16 h17 => ?_)
          obtain ⟨rfl, pr15⟩ := h17
          refine g_bipush cx 42 (by decide) e_X3_product_45 ?_
          have J71 : ∀ (y18 : Int32), (jv 8 10 y18) → G X E 4 0 0 (wX X ad F7 R8) [(0, .ref (ad 33)), (1, .int 1), (2, .int y6)] 71 [.int y18] := by
            intro y18 py18
            refine g_istore_n cx [(3, .int y18), (0, .ref (ad 33)), (1, .int 1), (2, .int y6)] e_X3_product_71 (by decide) rfl ?_
            refine g_aload_n cx 1 rfl e_X3_product_72 ?_
            refine g_dup cx rfl e_X3_product_73 ?_
            refine g_get cx cl_X3 fl_X3_19 33 (.int (F7 531)) e_X3_product_74 rfl rfl ?_
            refine g_iconst cx 1 (by decide) e_X3_product_77 ?_
            refine g_iadd cx e_X3_product_78 ?_
            refine g_topi (fun x19 ex19 => ?_)
            refine g_put cx cl_X3 fl_X3_19 33 (wX X ad (upd F7 531 x19) R8) e_X3_product_79 rfl rfl rfl rfl (Nat.le_of_ble_eq_true rfl) rfl ?_
            obtain ⟨F20, hF20⟩ : ∃ z, z = upd F7 531 x19 := ⟨_, rfl⟩
            rw [← hF20]
            have oF20 : g_ok LK_wX F20 := by rw [hF20]; exact g_ok_u oF7 rfl
            have fF20 : g_fr md_X3_product_c1 F F20 := by rw [hF20]; exact g_fr_u fF7 rfl
            refine g_aload_n cx 1 rfl e_X3_product_82 ?_
            refine g_iload_n cx 2 rfl e_X3_product_83 ?_
            refine g_cVvW cx [.int 1] [] (w_X3_factor_c1 l X ad F20 R8 oF20 oR8) ml_X3_99 yV_X3_factor e_X3_product_84 (by unfold g_rr; decide) (by decide) 33 rfl rfl rfl (Nat.le_of_ble_eq_true rfl) (fun w22 h23 => ?_)
            obtain ⟨F24, R25, rfl, oF24, oR25, cF24, cR25⟩ := h23
            have fF24 : g_fr md_X3_product_c1 F F24 := g_fr_c fF20 cF24 rfl
            have fR25 : g_fr mr_X3_product_c1 R R25 := g_fr_c fR8 cR25 rfl
            refine g_aload_n cx 1 rfl e_X3_product_87 ?_
            refine g_get cx cl_X3 fl_X3_25 33 (.ref (ad 25)) e_X3_product_88 rfl rfl ?_
            refine g_iload_n cx 0 rfl e_X3_product_91 ?_
            refine g_iconst cx 0 (by decide) e_X3_product_92 ?_
            refine g_cViW cx [.int y18, .int 0] [] (w_X2_emit_25 l X ad F24 R25 oF24 oR25 y18 0) ml_X3_66 yV_X2_emit e_X3_product_93 (by unfold g_rr; decide) (by decide) 25 rfl rfl rfl (Nat.le_of_ble_eq_true rfl) (fun r26 w27 h28 => ?_)
            obtain ⟨F29, R30, rfl, oF29, oR30, cF29, cR30, pr26⟩ := h28
            have fF29 : g_fr md_X3_product_c1 F F29 := g_fr_c fF24 cF29 rfl
            have fR30 : g_fr mr_X3_product_c1 R R30 := g_fr_c fR25 cR30 rfl
            refine g_pop cx rfl e_X3_product_96 ?_
            obtain ⟨x31, ex31⟩ : ∃ z : Int32, z = y6 + Int32.ofInt 1 := ⟨_, rfl⟩
            refine g_iinc cx x31 [(2, .int x31), (3, .int y18), (0, .ref (ad 33)), (1, .int 1)] 3 e_X3_product_97 rfl ex31.symm (by decide) rfl ?_
            have zx31 := jv_add 1 200 (show x31 = y6 + 1 from ex31) p11 (jv_k (x := 1) 1 (by decide)) (by decide)
            refine g_goto cx 7 e_X3_product_100 (by decide) ?_
            refine g_lsub [2, 3, 0] [(0, .ref (ad 33)), (1, .int 1), (2, .int x31)] rfl ?_
            exact ih7 F29 R30 x31 oF29 fF29 oR30 fR30 (jv_w zx31.2 (by decide)) (Nat.lt_of_lt_of_le (show (2147483647 - x31.toInt).toNat < (2147483647 - y6.toInt).toNat from by have q0 := (jv_k (x := 1) 1 (by decide)).1; have q1 := (jv_k (x := 1) 1 (by decide)).2; have q2 := (jv_k (x := 200) 200 (by decide)).1; have q3 := (jv_k (x := 200) 200 (by decide)).2; have q4 := zx31.2.1; have q5 := zx31.2.2; have q6 := p11.1; have q7 := p11.2; have q8 := (gc_nle zc9); have q9 := (g_eq0 zx31.1); omega) (Nat.le_of_lt_succ hm7))
          refine g_icmp_ne cx 55 e_X3_product_47 (by decide) (fun zc32 => ?_) (fun zc32 => ?_)
          · refine g_aload_n cx 0 rfl e_X3_product_55 ?_
            refine g_cViW cx [] [] (w_X3_sign l X ad F7 R8 oF7 oR8) ml_X3_42 yV_X3_sign e_X3_product_56 (by unfold g_rr; decide) (by decide) 33 rfl rfl rfl (Nat.le_of_ble_eq_true rfl) (fun r33 w34 h35 => ?_)
            obtain ⟨rfl, pr33⟩ := h35
            refine g_bipush cx 47 (by decide) e_X3_product_59 ?_
            refine g_icmp_ne cx 69 e_X3_product_61 (by decide) (fun zc36 => ?_) (fun zc36 => ?_)
            · refine g_bipush cx 10 (by decide) e_X3_product_69 ?_
              exact J71 10 (jv_w (jv_k (x := 10) 10 (by decide)) (by decide))
            · have p37 := gn_eq 47 47 (gc_eq zc36) pr33 (jv_k (x := 47) 47 (by decide)) (by decide)
              refine g_bipush cx 9 (by decide) e_X3_product_64 ?_
              refine g_goto cx 71 e_X3_product_66 (by decide) ?_
              exact J71 9 (jv_w (jv_k (x := 9) 9 (by decide)) (by decide))
          · have p38 := gn_eq 42 42 (gc_eq zc32) pr15 (jv_k (x := 42) 42 (by decide)) (by decide)
            refine g_bipush cx 8 (by decide) e_X3_product_50 ?_
            refine g_goto cx 71 e_X3_product_52 (by decide) ?_
            exact J71 8 (jv_w (jv_k (x := 8) 8 (by decide)) (by decide))
        refine g_icmp_eq cx 41 e_X3_product_20 (by decide) (fun zc39 => ?_) (fun zc39 => ?_)
        · have p40 := gn_eq 42 42 (gc_eq zc39) pr12 (jv_k (x := 42) 42 (by decide)) (by decide)
          exact J41  
        · refine g_aload_n cx 0 rfl e_X3_product_23 ?_
          refine g_cViW cx [] [] (w_X3_sign l X ad F7 R8 oF7 oR8) ml_X3_42 yV_X3_sign e_X3_product_24 (by unfold g_rr; decide) (by decide) 33 rfl rfl rfl (Nat.le_of_ble_eq_true rfl) (fun r41 w42 h43 => ?_)
          obtain ⟨rfl, pr41⟩ := h43
          refine g_bipush cx 47 (by decide) e_X3_product_27 ?_
          refine g_icmp_eq cx 41 e_X3_product_29 (by decide) (fun zc44 => ?_) (fun zc44 => ?_)
          · have p45 := gn_eq 47 47 (gc_eq zc44) pr41 (jv_k (x := 47) 47 (by decide)) (by decide)
            exact J41  
          · refine g_aload_n cx 0 rfl e_X3_product_32 ?_
            refine g_cViW cx [] [] (w_X3_sign l X ad F7 R8 oF7 oR8) ml_X3_42 yV_X3_sign e_X3_product_33 (by unfold g_rr; decide) (by decide) 33 rfl rfl rfl (Nat.le_of_ble_eq_true rfl) (fun r46 w47 h48 => ?_)
            obtain ⟨rfl, pr46⟩ := h48
            refine g_bipush cx 37 (by decide) e_X3_product_36 ?_
            refine g_icmp_ne cx 103 e_X3_product_38 (by decide) (fun zc49 => ?_) (fun zc49 => ?_)
            · refine g_lsub [] [] rfl ?_
              exact J103  
            · have p50 := gn_eq 37 37 (gc_eq zc49) pr46 (jv_k (x := 37) 37 (by decide)) (by decide)
              exact J41  
  refine g_lsub [1, 2, 0] [(0, .ref (ad 33)), (1, .int 1), (2, .int 0)] rfl ?_
  exact J7 _ F4 R5 0 oF4 fF4 oR5 fR5 (jv_w (jv_k (x := 0) 0 (by decide)) (by decide)) (Nat.lt_succ_self _)
def md_X3_sum_c1 : List Nat := [402, 531, 532]
def mr_X3_sum_c1 : List Nat := [26, 27]
set_option maxHeartbeats 4000000 in
set_option maxRecDepth 100000 in
theorem w_X3_sum_c1 (l : Launch) (X : gX) (ad : Nat → Nat) (F : Nat → Int32) (R : Nat → Nat → Int32) (hI : g_ok LK_wX F) (hA : g_okR LA_wX R) : g_Cv l X yX3_sum cX3_sum 4 22 0 0 [.ref (ad 33), .int 1] (wX X ad F R) (fun w => ∃ (F' : Nat → Int32) (R' : Nat → Nat → Int32), w = wX X ad F' R' ∧ g_ok LK_wX F' ∧ g_okR LA_wX R' ∧ g_fr md_X3_sum_c1 F F' ∧ g_fr mr_X3_sum_c1 R R') := by
  refine g_mv (by decide +kernel) (Nat.le_of_ble_eq_true rfl) (fun E cx hret => ?_)
  refine g_aload_n cx 0 rfl e_X3_sum_0 ?_
  refine g_iload_n cx 1 rfl e_X3_sum_1 ?_
  refine g_cVvW cx [.int 1] [] (w_X3_product_c1 l X ad F R hI hA) ml_X3_96 yV_X3_product e_X3_sum_2 (by unfold g_rr; decide) (by decide) 33 rfl rfl rfl (Nat.le_of_ble_eq_true rfl) (fun w2 h3 => ?_)
  obtain ⟨F4, R5, rfl, oF4, oR5, cF4, cR5⟩ := h3
  have fF4 : g_fr md_X3_sum_c1 F F4 := g_fr_c (g_fr_rf F) cF4 rfl
  have fR5 : g_fr mr_X3_sum_c1 R R5 := g_fr_c (g_fr_rf R) cR5 rfl
  refine g_iconst cx 0 (by decide) e_X3_sum_5 ?_
  refine g_istore_n cx [(2, .int 0), (0, .ref (ad 33)), (1, .int 1)] e_X3_sum_6 (by decide) rfl ?_
  have J7 : ∀ (N : Nat) (F7 : Nat → Int32) (R8 : Nat → Nat → Int32) (y6 : Int32), (g_ok LK_wX F7) → (g_fr md_X3_sum_c1 F F7) → (g_okR LA_wX R8) → (g_fr mr_X3_sum_c1 R R8) → (jv 0 200 y6) → (2147483647 - y6.toInt).toNat < N → G X E 4 0 0 (wX X ad F7 R8) [(0, .ref (ad 33)), (1, .int 1), (2, .int y6)] 7 [] := by
    intro N
    induction N with
    | zero => intro F7 R8 y6 oF7 fF7 oR8 fR8 py6 hm; exact absurd hm (Nat.not_lt_zero _)
    | succ N ih7 =>
      intro F7 R8 y6 oF7 fF7 oR8 fR8 py6 hm7
      refine g_iload_n cx 2 rfl e_X3_sum_7 ?_
      refine g_sipush cx 200 (by decide) e_X3_sum_8 ?_
      have J80 : G X E 4 0 0 (wX X ad F7 R8) [] 80 [] := by
        exact hret e_X3_sum_80 (Nat.le_of_ble_eq_true rfl) (Nat.le_of_ble_eq_true rfl) ⟨F7, R8, rfl, oF7, oR8, fF7, fR8⟩
      refine g_icmp_ge cx 80 e_X3_sum_11 (by decide) (fun zc9 => ?_) (fun zc9 => ?_)
      · have p10 := gn_ge 200 200 (gc_le zc9) py6 (jv_k (x := 200) 200 (by decide)) (by decide)
        refine g_lsub [] [] rfl ?_
        exact J80  
      · have p11 := gn_lt 0 199 (gc_nle zc9) py6 (jv_k (x := 200) 200 (by decide)) (by decide)
        refine g_aload_n cx 0 rfl e_X3_sum_14 ?_
        refine g_cViW cx [] [] (w_X3_sign l X ad F7 R8 oF7 oR8) ml_X3_42 yV_X3_sign e_X3_sum_15 (by unfold g_rr; decide) (by decide) 33 rfl rfl rfl (Nat.le_of_ble_eq_true rfl) (fun r12 w13 h14 => ?_)
        obtain ⟨rfl, pr12⟩ := h14
        refine g_bipush cx 43 (by decide) e_X3_sum_18 ?_
        have J32 : G X E 4 0 0 (wX X ad F7 R8) [(0, .ref (ad 33)), (1, .int 1), (2, .int y6)] 32 [] := by
          refine g_aload_n cx 0 rfl e_X3_sum_32 ?_
          refine g_cViW cx [] [] (w_X3_sign l X ad F7 R8 oF7 oR8) ml_X3_42 yV_X3_sign e_X3_sum_33 (by unfold g_rr; decide) (by decide) 33 rfl rfl rfl (Nat.le_of_ble_eq_true rfl) (fun r15 w16 h17 => ?_)
          obtain ⟨rfl, pr15⟩ := h17
          refine g_bipush cx 43 (by decide) e_X3_sum_36 ?_
          have J48 : ∀ (y18 : Int32), (jv 6 7 y18) → G X E 4 0 0 (wX X ad F7 R8) [(0, .ref (ad 33)), (1, .int 1), (2, .int y6)] 48 [.int y18] := by
            intro y18 py18
            refine g_istore_n cx [(3, .int y18), (0, .ref (ad 33)), (1, .int 1), (2, .int y6)] e_X3_sum_48 (by decide) rfl ?_
            refine g_aload_n cx 1 rfl e_X3_sum_49 ?_
            refine g_dup cx rfl e_X3_sum_50 ?_
            refine g_get cx cl_X3 fl_X3_19 33 (.int (F7 531)) e_X3_sum_51 rfl rfl ?_
            refine g_iconst cx 1 (by decide) e_X3_sum_54 ?_
            refine g_iadd cx e_X3_sum_55 ?_
            refine g_topi (fun x19 ex19 => ?_)
            refine g_put cx cl_X3 fl_X3_19 33 (wX X ad (upd F7 531 x19) R8) e_X3_sum_56 rfl rfl rfl rfl (Nat.le_of_ble_eq_true rfl) rfl ?_
            obtain ⟨F20, hF20⟩ : ∃ z, z = upd F7 531 x19 := ⟨_, rfl⟩
            rw [← hF20]
            have oF20 : g_ok LK_wX F20 := by rw [hF20]; exact g_ok_u oF7 rfl
            have fF20 : g_fr md_X3_sum_c1 F F20 := by rw [hF20]; exact g_fr_u fF7 rfl
            refine g_aload_n cx 1 rfl e_X3_sum_59 ?_
            refine g_iload_n cx 2 rfl e_X3_sum_60 ?_
            refine g_cVvW cx [.int 1] [] (w_X3_product_c1 l X ad F20 R8 oF20 oR8) ml_X3_96 yV_X3_product e_X3_sum_61 (by unfold g_rr; decide) (by decide) 33 rfl rfl rfl (Nat.le_of_ble_eq_true rfl) (fun w22 h23 => ?_)
            obtain ⟨F24, R25, rfl, oF24, oR25, cF24, cR25⟩ := h23
            have fF24 : g_fr md_X3_sum_c1 F F24 := g_fr_c fF20 cF24 rfl
            have fR25 : g_fr mr_X3_sum_c1 R R25 := g_fr_c fR8 cR25 rfl
            refine g_aload_n cx 1 rfl e_X3_sum_64 ?_
            refine g_get cx cl_X3 fl_X3_25 33 (.ref (ad 25)) e_X3_sum_65 rfl rfl ?_
            refine g_iload_n cx 0 rfl e_X3_sum_68 ?_
            refine g_iconst cx 0 (by decide) e_X3_sum_69 ?_
            refine g_cViW cx [.int y18, .int 0] [] (w_X2_emit_25 l X ad F24 R25 oF24 oR25 y18 0) ml_X3_66 yV_X2_emit e_X3_sum_70 (by unfold g_rr; decide) (by decide) 25 rfl rfl rfl (Nat.le_of_ble_eq_true rfl) (fun r26 w27 h28 => ?_)
            obtain ⟨F29, R30, rfl, oF29, oR30, cF29, cR30, pr26⟩ := h28
            have fF29 : g_fr md_X3_sum_c1 F F29 := g_fr_c fF24 cF29 rfl
            have fR30 : g_fr mr_X3_sum_c1 R R30 := g_fr_c fR25 cR30 rfl
            refine g_pop cx rfl e_X3_sum_73 ?_
            obtain ⟨x31, ex31⟩ : ∃ z : Int32, z = y6 + Int32.ofInt 1 := ⟨_, rfl⟩
            refine g_iinc cx x31 [(2, .int x31), (3, .int y18), (0, .ref (ad 33)), (1, .int 1)] 3 e_X3_sum_74 rfl ex31.symm (by decide) rfl ?_
            have zx31 := jv_add 1 200 (show x31 = y6 + 1 from ex31) p11 (jv_k (x := 1) 1 (by decide)) (by decide)
            refine g_goto cx 7 e_X3_sum_77 (by decide) ?_
            refine g_lsub [2, 3, 0] [(0, .ref (ad 33)), (1, .int 1), (2, .int x31)] rfl ?_
            exact ih7 F29 R30 x31 oF29 fF29 oR30 fR30 (jv_w zx31.2 (by decide)) (Nat.lt_of_lt_of_le (show (2147483647 - x31.toInt).toNat < (2147483647 - y6.toInt).toNat from by have q0 := (jv_k (x := 1) 1 (by decide)).1; have q1 := (jv_k (x := 1) 1 (by decide)).2; have q2 := (jv_k (x := 200) 200 (by decide)).1; have q3 := (jv_k (x := 200) 200 (by decide)).2; have q4 := zx31.2.1; have q5 := zx31.2.2; have q6 := p11.1; have q7 := p11.2; have q8 := (gc_nle zc9); have q9 := (g_eq0 zx31.1); omega) (Nat.le_of_lt_succ hm7))
          refine g_icmp_ne cx 46 e_X3_sum_38 (by decide) (fun zc32 => ?_) (fun zc32 => ?_)
          · refine g_bipush cx 7 (by decide) e_X3_sum_46 ?_
            exact J48 7 (jv_w (jv_k (x := 7) 7 (by decide)) (by decide))
          · have p33 := gn_eq 43 43 (gc_eq zc32) pr15 (jv_k (x := 43) 43 (by decide)) (by decide)
            refine g_bipush cx 6 (by decide) e_X3_sum_41 ?_
            refine g_goto cx 48 e_X3_sum_43 (by decide) ?_
            exact J48 6 (jv_w (jv_k (x := 6) 6 (by decide)) (by decide))
        refine g_icmp_eq cx 32 e_X3_sum_20 (by decide) (fun zc34 => ?_) (fun zc34 => ?_)
        · have p35 := gn_eq 43 43 (gc_eq zc34) pr12 (jv_k (x := 43) 43 (by decide)) (by decide)
          exact J32  
        · refine g_aload_n cx 0 rfl e_X3_sum_23 ?_
          refine g_cViW cx [] [] (w_X3_sign l X ad F7 R8 oF7 oR8) ml_X3_42 yV_X3_sign e_X3_sum_24 (by unfold g_rr; decide) (by decide) 33 rfl rfl rfl (Nat.le_of_ble_eq_true rfl) (fun r36 w37 h38 => ?_)
          obtain ⟨rfl, pr36⟩ := h38
          refine g_bipush cx 45 (by decide) e_X3_sum_27 ?_
          refine g_icmp_ne cx 80 e_X3_sum_29 (by decide) (fun zc39 => ?_) (fun zc39 => ?_)
          · refine g_lsub [] [] rfl ?_
            exact J80  
          · have p40 := gn_eq 45 45 (gc_eq zc39) pr36 (jv_k (x := 45) 45 (by decide)) (by decide)
            exact J32  
  refine g_lsub [1, 2, 0] [(0, .ref (ad 33)), (1, .int 1), (2, .int 0)] rfl ?_
  exact J7 _ F4 R5 0 oF4 fF4 oR5 fR5 (jv_w (jv_k (x := 0) 0 (by decide)) (by decide)) (Nat.lt_succ_self _)
def md_X3_factor_c0 : List Nat := [402, 531, 532]
def mr_X3_factor_c0 : List Nat := [26, 27]
set_option maxHeartbeats 4000000 in
set_option maxRecDepth 100000 in
theorem w_X3_factor_c0 (l : Launch) (X : gX) (ad : Nat → Nat) (F : Nat → Int32) (R : Nat → Nat → Int32) (hI : g_ok LK_wX F) (hA : g_okR LA_wX R) : g_Cv l X yX3_factor cX3_factor 3 23 0 0 [.ref (ad 33), .int 0] (wX X ad F R) (fun w => ∃ (F' : Nat → Int32) (R' : Nat → Nat → Int32), w = wX X ad F' R' ∧ g_ok LK_wX F' ∧ g_okR LA_wX R' ∧ g_fr md_X3_factor_c0 F F' ∧ g_fr mr_X3_factor_c0 R R') := by
  refine g_mv (by decide +kernel) (Nat.le_of_ble_eq_true rfl) (fun E cx hret => ?_)
  refine g_aload_n cx 0 rfl e_X3_factor_0 ?_
  refine g_cViW cx [] [] (w_X3_sign l X ad F R hI hA) ml_X3_42 yV_X3_sign e_X3_factor_1 (by unfold g_rr; decide) (by decide) 33 rfl rfl rfl (Nat.le_of_ble_eq_true rfl) (fun r1 w2 h3 => ?_)
  obtain ⟨rfl, pr1⟩ := h3
  refine g_bipush cx 91 (by decide) e_X3_factor_4 ?_
  refine g_icmp_ne cx 31 e_X3_factor_6 (by decide) (fun zc4 => ?_) (fun zc4 => ?_)
  · refine g_aload_n cx 0 rfl e_X3_factor_31 ?_
    refine g_cViW cx [] [] (w_X3_sign l X ad F R hI hA) ml_X3_42 yV_X3_sign e_X3_factor_32 (by unfold g_rr; decide) (by decide) 33 rfl rfl rfl (Nat.le_of_ble_eq_true rfl) (fun r5 w6 h7 => ?_)
    obtain ⟨rfl, pr5⟩ := h7
    refine g_bipush cx 48 (by decide) e_X3_factor_35 ?_
    refine g_bipush cx 57 (by decide) e_X3_factor_37 ?_
    refine g_cNiW cx [.int r5, .int 48, .int 57] [] (c_X10_within l X (wX X ad F R) r5 48 57) mn_X3_102 yS_X10_within e_X3_factor_39 (by unfold g_rr; decide) (by decide) rfl (Nat.le_of_ble_eq_true rfl) (fun r8 w9 h10 => ?_)
    obtain ⟨rfl, hr8⟩ := h10
    have pr8 : jv 0 1 r8 := by rw [hr8]; exact gi_01 _ _ _
    refine g_if_eq cx 50 e_X3_factor_42 (by decide) (fun zc11 => ?_) (fun zc11 => ?_)
    · have p12 := gn_eq 0 0 (gc_eq zc11) pr8 (jv_k (x := 0) 0 (by decide)) (by decide)
      refine g_aload_n cx 0 rfl e_X3_factor_50 ?_
      refine g_cViW cx [] [] (w_X3_sign l X ad F R hI hA) ml_X3_42 yV_X3_sign e_X3_factor_51 (by unfold g_rr; decide) (by decide) 33 rfl rfl rfl (Nat.le_of_ble_eq_true rfl) (fun r13 w14 h15 => ?_)
      obtain ⟨rfl, pr13⟩ := h15
      refine g_iconst cx (-1) (by decide) e_X3_factor_54 ?_
      have J72 : ∀ (y16 : Int32), (jv (-1) 11 y16) → G X E 3 0 0 (wX X ad F R) [(0, .ref (ad 33))] 72 [.int y16] := by
        intro y16 py16
        refine g_istore_n cx [(2, .int y16), (0, .ref (ad 33))] e_X3_factor_72 (by decide) rfl ?_
        refine g_iload_n cx 0 rfl e_X3_factor_73 ?_
        refine g_if_ge cx 83 e_X3_factor_74 (by decide) (fun zc17 => ?_) (fun zc17 => ?_)
        · have p18 := gn_ge 0 11 (gc_le zc17) py16 (jv_k (x := 0) 0 (by decide)) (by decide)
          refine g_aload_n cx 1 rfl e_X3_factor_83 ?_
          refine g_dup cx rfl e_X3_factor_84 ?_
          refine g_get cx cl_X3 fl_X3_19 33 (.int (F 531)) e_X3_factor_85 rfl rfl ?_
          refine g_iconst cx 1 (by decide) e_X3_factor_88 ?_
          refine g_iadd cx e_X3_factor_89 ?_
          refine g_topi (fun x19 ex19 => ?_)
          refine g_put cx cl_X3 fl_X3_19 33 (wX X ad (upd F 531 x19) R) e_X3_factor_90 rfl rfl rfl rfl (Nat.le_of_ble_eq_true rfl) rfl ?_
          obtain ⟨F20, hF20⟩ : ∃ z, z = upd F 531 x19 := ⟨_, rfl⟩
          rw [← hF20]
          have oF20 : g_ok LK_wX F20 := by rw [hF20]; exact g_ok_u hI rfl
          have fF20 : g_fr md_X3_factor_c0 F F20 := by rw [hF20]; exact g_fr_u (g_fr_rf F) rfl
          refine g_aload_n cx 1 rfl e_X3_factor_93 ?_
          refine g_get cx cl_X3 fl_X3_25 33 (.ref (ad 25)) e_X3_factor_94 rfl rfl ?_
          refine g_iconst cx 2 (by decide) e_X3_factor_97 ?_
          refine g_iload_n cx 0 rfl e_X3_factor_98 ?_
          refine g_cViW cx [.int 2, .int y16] [] (w_X2_emit_25 l X ad F20 R oF20 hA 2 y16) ml_X3_66 yV_X2_emit e_X3_factor_99 (by unfold g_rr; decide) (by decide) 25 rfl rfl rfl (Nat.le_of_ble_eq_true rfl) (fun r21 w22 h23 => ?_)
          obtain ⟨F24, R25, rfl, oF24, oR25, cF24, cR25, pr21⟩ := h23
          have fF24 : g_fr md_X3_factor_c0 F F24 := g_fr_c fF20 cF24 rfl
          have fR25 : g_fr mr_X3_factor_c0 R R25 := g_fr_c (g_fr_rf R) cR25 rfl
          refine g_pop cx rfl e_X3_factor_102 ?_
          exact hret e_X3_factor_103 (Nat.le_of_ble_eq_true rfl) (Nat.le_of_ble_eq_true rfl) ⟨F24, R25, rfl, oF24, oR25, fF24, fR25⟩
        · have p26 := gn_lt (-1) (-1) (gc_nle zc17) py16 (jv_k (x := 0) 0 (by decide)) (by decide)
          refine g_aload_n cx 1 rfl e_X3_factor_77 ?_
          refine g_iconst cx 1 (by decide) e_X3_factor_78 ?_
          refine g_cVvW cx [.int 1] [] (w_X3_fail l X ad F R hI hA 1) ml_X3_46 yV_X3_fail e_X3_factor_79 (by unfold g_rr; decide) (by decide) 33 rfl rfl rfl (Nat.le_of_ble_eq_true rfl) (fun w28 h29 => ?_)
          obtain ⟨F30, R31, rfl, oF30, oR31, cF30, cR31⟩ := h29
          have fF30 : g_fr md_X3_factor_c0 F F30 := g_fr_c (g_fr_rf F) cF30 rfl
          have fR31 : g_fr mr_X3_factor_c0 R R31 := g_fr_c (g_fr_rf R) cR31 rfl
          exact hret e_X3_factor_82 (Nat.le_of_ble_eq_true rfl) (Nat.le_of_ble_eq_true rfl) ⟨F30, R31, rfl, oF30, oR31, fF30, fR31⟩
      refine g_icmp_ne cx 62 e_X3_factor_55 (by decide) (fun zc32 => ?_) (fun zc32 => ?_)
      · refine g_ldcS1 cx rfl e_X3_factor_62 ?_
        refine g_aload_n cx 0 rfl e_X3_factor_64 ?_
        refine g_cViW cx [] [.ref (X.1.2.2.2.1 1)] (w_X3_sign l X ad F R hI hA) ml_X3_42 yV_X3_sign e_X3_factor_65 (by unfold g_rr; decide) (by decide) 33 rfl rfl rfl (Nat.le_of_ble_eq_true rfl) (fun r33 w34 h35 => ?_)
        obtain ⟨rfl, pr33⟩ := h35
        refine g_i2c cx e_X3_factor_68 ?_
        refine g_topi (fun x36 ex36 => ?_)
        refine g_cVsW cx [.int x36] [] 1 (by decide) rfl (w_J0_indexOf_0f7a4_s1 l X (wX X ad F R) x36) ml_X3_52 yV_J0_indexOf_0f7a4 e_X3_factor_69 (by unfold g_rr; decide) (by decide) rfl (Nat.le_of_ble_eq_true rfl) (fun r37 w38 h39 => ?_)
        obtain ⟨rfl, pr37⟩ := h39
        refine g_lsub [0] [(0, .ref (ad 33))] rfl ?_
        exact J72 r37 pr37
      · have p40 := gn_eq (-1) (-1) (gc_eq zc32) pr13 (jv_k (x := (-1)) (-1) (by decide)) (by decide)
        refine g_iconst cx (-1) (by decide) e_X3_factor_58 ?_
        refine g_goto cx 72 e_X3_factor_59 (by decide) ?_
        refine g_lsub [0] [(0, .ref (ad 33))] rfl ?_
        exact J72 (-1) (jv_w (jv_k (x := (-1)) (-1) (by decide)) (by decide))
    · have p41 := gn_neL 1 1 (gc_ne zc11) pr8 (jv_k (x := 0) 0 (by decide)) (by decide)
      have p42 := jv_i 48 57 pr5 (gi_in (A := 48) (B := 57) hr8 zc11 (by decide) (by decide)) (by decide)
      refine g_aload_n cx 0 rfl e_X3_factor_45 ?_
      refine g_cVvW cx [] [] (w_X3_number l X ad F R hI hA) ml_X3_106 yV_X3_number e_X3_factor_46 (by unfold g_rr; decide) (by decide) 33 rfl rfl rfl (Nat.le_of_ble_eq_true rfl) (fun w44 h45 => ?_)
      obtain ⟨F46, R47, rfl, oF46, oR47, cF46, cR47⟩ := h45
      have fF46 : g_fr md_X3_factor_c0 F F46 := g_fr_c (g_fr_rf F) cF46 rfl
      have fR47 : g_fr mr_X3_factor_c0 R R47 := g_fr_c (g_fr_rf R) cR47 rfl
      exact hret e_X3_factor_49 (Nat.le_of_ble_eq_true rfl) (Nat.le_of_ble_eq_true rfl) ⟨F46, R47, rfl, oF46, oR47, fF46, fR47⟩
  · have p48 := gn_eq 91 91 (gc_eq zc4) pr1 (jv_k (x := 91) 91 (by decide)) (by decide)
    refine g_aload_n cx 0 rfl e_X3_factor_9 ?_
    refine g_iload_n cx 1 rfl e_X3_factor_10 ?_
    refine g_cViW cx [.int 0] [] (w_X3_opens_c0 l X ad F R hI hA) ml_X3_89 yV_X3_opens e_X3_factor_11 (by unfold g_rr; decide) (by decide) 33 rfl rfl rfl (Nat.le_of_ble_eq_true rfl) (fun r49 w50 h51 => ?_)
    obtain ⟨F52, R53, rfl, oF52, oR53, cF52, cR53, pr49⟩ := h51
    have fF52 : g_fr md_X3_factor_c0 F F52 := g_fr_c (g_fr_rf F) cF52 rfl
    have fR53 : g_fr mr_X3_factor_c0 R R53 := g_fr_c (g_fr_rf R) cR53 rfl
    refine g_if_eq cx 30 e_X3_factor_14 (by decide) (fun zc54 => ?_) (fun zc54 => ?_)
    · exact (gf_eq (gc_eq zc54) pr49 (jv_k (x := 0) 0 (by decide)) (by decide)).elim
    · refine g_aload_n cx 0 rfl e_X3_factor_17 ?_
      refine g_iload_n cx 1 rfl e_X3_factor_18 ?_
      refine g_iconst cx 1 (by decide) e_X3_factor_19 ?_
      refine g_iadd cx e_X3_factor_20 ?_
      refine g_toi 1 (by decide) ?_
      refine g_cVvW cx [.int 1] [] (w_X3_sum_c1 l X ad F52 R53 oF52 oR53) ml_X3_63 yV_X3_sum e_X3_factor_21 (by unfold g_rr; decide) (by decide) 33 rfl rfl rfl (Nat.le_of_ble_eq_true rfl) (fun w56 h57 => ?_)
      obtain ⟨F58, R59, rfl, oF58, oR59, cF58, cR59⟩ := h57
      have fF58 : g_fr md_X3_factor_c0 F F58 := g_fr_c fF52 cF58 rfl
      have fR59 : g_fr mr_X3_factor_c0 R R59 := g_fr_c fR53 cR59 rfl
      refine g_aload_n cx 0 rfl e_X3_factor_24 ?_
      refine g_bipush cx 93 (by decide) e_X3_factor_25 ?_
      refine g_cVvW cx [.int 93] [] (w_X3_pass l X ad F58 R59 oF58 oR59 93) ml_X3_70 yV_X3_pass e_X3_factor_27 (by unfold g_rr; decide) (by decide) 33 rfl rfl rfl (Nat.le_of_ble_eq_true rfl) (fun w61 h62 => ?_)
      obtain ⟨F63, R64, rfl, oF63, oR64, cF63, cR64⟩ := h62
      have fF63 : g_fr md_X3_factor_c0 F F63 := g_fr_c fF58 cF63 rfl
      have fR64 : g_fr mr_X3_factor_c0 R R64 := g_fr_c fR59 cR64 rfl
      exact hret e_X3_factor_30 (Nat.le_of_ble_eq_true rfl) (Nat.le_of_ble_eq_true rfl) ⟨F63, R64, rfl, oF63, oR64, fF63, fR64⟩
def md_X3_product_c0 : List Nat := [402, 531, 532]
def mr_X3_product_c0 : List Nat := [26, 27]
set_option maxHeartbeats 4000000 in
set_option maxRecDepth 100000 in
theorem w_X3_product_c0 (l : Launch) (X : gX) (ad : Nat → Nat) (F : Nat → Int32) (R : Nat → Nat → Int32) (hI : g_ok LK_wX F) (hA : g_okR LA_wX R) : g_Cv l X yX3_product cX3_product 4 24 0 0 [.ref (ad 33), .int 0] (wX X ad F R) (fun w => ∃ (F' : Nat → Int32) (R' : Nat → Nat → Int32), w = wX X ad F' R' ∧ g_ok LK_wX F' ∧ g_okR LA_wX R' ∧ g_fr md_X3_product_c0 F F' ∧ g_fr mr_X3_product_c0 R R') := by
  refine g_mv (by decide +kernel) (Nat.le_of_ble_eq_true rfl) (fun E cx hret => ?_)
  refine g_aload_n cx 0 rfl e_X3_product_0 ?_
  refine g_iload_n cx 1 rfl e_X3_product_1 ?_
  refine g_cVvW cx [.int 0] [] (w_X3_factor_c0 l X ad F R hI hA) ml_X3_99 yV_X3_factor e_X3_product_2 (by unfold g_rr; decide) (by decide) 33 rfl rfl rfl (Nat.le_of_ble_eq_true rfl) (fun w2 h3 => ?_)
  obtain ⟨F4, R5, rfl, oF4, oR5, cF4, cR5⟩ := h3
  have fF4 : g_fr md_X3_product_c0 F F4 := g_fr_c (g_fr_rf F) cF4 rfl
  have fR5 : g_fr mr_X3_product_c0 R R5 := g_fr_c (g_fr_rf R) cR5 rfl
  refine g_iconst cx 0 (by decide) e_X3_product_5 ?_
  refine g_istore_n cx [(2, .int 0), (0, .ref (ad 33)), (1, .int 0)] e_X3_product_6 (by decide) rfl ?_
  have J7 : ∀ (N : Nat) (F7 : Nat → Int32) (R8 : Nat → Nat → Int32) (y6 : Int32), (g_ok LK_wX F7) → (g_fr md_X3_product_c0 F F7) → (g_okR LA_wX R8) → (g_fr mr_X3_product_c0 R R8) → (jv 0 200 y6) → (2147483647 - y6.toInt).toNat < N → G X E 4 0 0 (wX X ad F7 R8) [(0, .ref (ad 33)), (1, .int 0), (2, .int y6)] 7 [] := by
    intro N
    induction N with
    | zero => intro F7 R8 y6 oF7 fF7 oR8 fR8 py6 hm; exact absurd hm (Nat.not_lt_zero _)
    | succ N ih7 =>
      intro F7 R8 y6 oF7 fF7 oR8 fR8 py6 hm7
      refine g_iload_n cx 2 rfl e_X3_product_7 ?_
      refine g_sipush cx 200 (by decide) e_X3_product_8 ?_
      have J103 : G X E 4 0 0 (wX X ad F7 R8) [] 103 [] := by
        exact hret e_X3_product_103 (Nat.le_of_ble_eq_true rfl) (Nat.le_of_ble_eq_true rfl) ⟨F7, R8, rfl, oF7, oR8, fF7, fR8⟩
      refine g_icmp_ge cx 103 e_X3_product_11 (by decide) (fun zc9 => ?_) (fun zc9 => ?_)
      · have p10 := gn_ge 200 200 (gc_le zc9) py6 (jv_k (x := 200) 200 (by decide)) (by decide)
        refine g_lsub [] [] rfl ?_
        exact J103  
      · have p11 := gn_lt 0 199 (gc_nle zc9) py6 (jv_k (x := 200) 200 (by decide)) (by decide)
        refine g_aload_n cx 0 rfl e_X3_product_14 ?_
        refine g_cViW cx [] [] (w_X3_sign l X ad F7 R8 oF7 oR8) ml_X3_42 yV_X3_sign e_X3_product_15 (by unfold g_rr; decide) (by decide) 33 rfl rfl rfl (Nat.le_of_ble_eq_true rfl) (fun r12 w13 h14 => ?_)
        obtain ⟨rfl, pr12⟩ := h14
        refine g_bipush cx 42 (by decide) e_X3_product_18 ?_
        have J41 : G X E 4 0 0 (wX X ad F7 R8) [(0, .ref (ad 33)), (1, .int 0), (2, .int y6)] 41 [] := by
          refine g_aload_n cx 0 rfl e_X3_product_41 ?_
          refine g_cViW cx [] [] (w_X3_sign l X ad F7 R8 oF7 oR8) ml_X3_42 yV_X3_sign e_X3_product_42 (by unfold g_rr; decide) (by decide) 33 rfl rfl rfl (Nat.le_of_ble_eq_true rfl) (fun r15 w16 h17 => ?_)
          obtain ⟨rfl, pr15⟩ := h17
          refine g_bipush cx 42 (by decide) e_X3_product_45 ?_
          have J71 : ∀ (y18 : Int32), (jv 8 10 y18) → G X E 4 0 0 (wX X ad F7 R8) [(0, .ref (ad 33)), (1, .int 0), (2, .int y6)] 71 [.int y18] := by
            intro y18 py18
            refine g_istore_n cx [(3, .int y18), (0, .ref (ad 33)), (1, .int 0), (2, .int y6)] e_X3_product_71 (by decide) rfl ?_
            refine g_aload_n cx 1 rfl e_X3_product_72 ?_
            refine g_dup cx rfl e_X3_product_73 ?_
            refine g_get cx cl_X3 fl_X3_19 33 (.int (F7 531)) e_X3_product_74 rfl rfl ?_
            refine g_iconst cx 1 (by decide) e_X3_product_77 ?_
            refine g_iadd cx e_X3_product_78 ?_
            refine g_topi (fun x19 ex19 => ?_)
            refine g_put cx cl_X3 fl_X3_19 33 (wX X ad (upd F7 531 x19) R8) e_X3_product_79 rfl rfl rfl rfl (Nat.le_of_ble_eq_true rfl) rfl ?_
            obtain ⟨F20, hF20⟩ : ∃ z, z = upd F7 531 x19 := ⟨_, rfl⟩
            rw [← hF20]
            have oF20 : g_ok LK_wX F20 := by rw [hF20]; exact g_ok_u oF7 rfl
            have fF20 : g_fr md_X3_product_c0 F F20 := by rw [hF20]; exact g_fr_u fF7 rfl
            refine g_aload_n cx 1 rfl e_X3_product_82 ?_
            refine g_iload_n cx 2 rfl e_X3_product_83 ?_
            refine g_cVvW cx [.int 0] [] (w_X3_factor_c0 l X ad F20 R8 oF20 oR8) ml_X3_99 yV_X3_factor e_X3_product_84 (by unfold g_rr; decide) (by decide) 33 rfl rfl rfl (Nat.le_of_ble_eq_true rfl) (fun w22 h23 => ?_)
            obtain ⟨F24, R25, rfl, oF24, oR25, cF24, cR25⟩ := h23
            have fF24 : g_fr md_X3_product_c0 F F24 := g_fr_c fF20 cF24 rfl
            have fR25 : g_fr mr_X3_product_c0 R R25 := g_fr_c fR8 cR25 rfl
            refine g_aload_n cx 1 rfl e_X3_product_87 ?_
            refine g_get cx cl_X3 fl_X3_25 33 (.ref (ad 25)) e_X3_product_88 rfl rfl ?_
            refine g_iload_n cx 0 rfl e_X3_product_91 ?_
            refine g_iconst cx 0 (by decide) e_X3_product_92 ?_
            refine g_cViW cx [.int y18, .int 0] [] (w_X2_emit_25 l X ad F24 R25 oF24 oR25 y18 0) ml_X3_66 yV_X2_emit e_X3_product_93 (by unfold g_rr; decide) (by decide) 25 rfl rfl rfl (Nat.le_of_ble_eq_true rfl) (fun r26 w27 h28 => ?_)
            obtain ⟨F29, R30, rfl, oF29, oR30, cF29, cR30, pr26⟩ := h28
            have fF29 : g_fr md_X3_product_c0 F F29 := g_fr_c fF24 cF29 rfl
            have fR30 : g_fr mr_X3_product_c0 R R30 := g_fr_c fR25 cR30 rfl
            refine g_pop cx rfl e_X3_product_96 ?_
            obtain ⟨x31, ex31⟩ : ∃ z : Int32, z = y6 + Int32.ofInt 1 := ⟨_, rfl⟩
            refine g_iinc cx x31 [(2, .int x31), (3, .int y18), (0, .ref (ad 33)), (1, .int 0)] 3 e_X3_product_97 rfl ex31.symm (by decide) rfl ?_
            have zx31 := jv_add 1 200 (show x31 = y6 + 1 from ex31) p11 (jv_k (x := 1) 1 (by decide)) (by decide)
            refine g_goto cx 7 e_X3_product_100 (by decide) ?_
            refine g_lsub [2, 3, 0] [(0, .ref (ad 33)), (1, .int 0), (2, .int x31)] rfl ?_
            exact ih7 F29 R30 x31 oF29 fF29 oR30 fR30 (jv_w zx31.2 (by decide)) (Nat.lt_of_lt_of_le (show (2147483647 - x31.toInt).toNat < (2147483647 - y6.toInt).toNat from by have q0 := (jv_k (x := 1) 1 (by decide)).1; have q1 := (jv_k (x := 1) 1 (by decide)).2; have q2 := (jv_k (x := 200) 200 (by decide)).1; have q3 := (jv_k (x := 200) 200 (by decide)).2; have q4 := zx31.2.1; have q5 := zx31.2.2; have q6 := p11.1; have q7 := p11.2; have q8 := (gc_nle zc9); have q9 := (g_eq0 zx31.1); omega) (Nat.le_of_lt_succ hm7))
          refine g_icmp_ne cx 55 e_X3_product_47 (by decide) (fun zc32 => ?_) (fun zc32 => ?_)
          · refine g_aload_n cx 0 rfl e_X3_product_55 ?_
            refine g_cViW cx [] [] (w_X3_sign l X ad F7 R8 oF7 oR8) ml_X3_42 yV_X3_sign e_X3_product_56 (by unfold g_rr; decide) (by decide) 33 rfl rfl rfl (Nat.le_of_ble_eq_true rfl) (fun r33 w34 h35 => ?_)
            obtain ⟨rfl, pr33⟩ := h35
            refine g_bipush cx 47 (by decide) e_X3_product_59 ?_
            refine g_icmp_ne cx 69 e_X3_product_61 (by decide) (fun zc36 => ?_) (fun zc36 => ?_)
            · refine g_bipush cx 10 (by decide) e_X3_product_69 ?_
              exact J71 10 (jv_w (jv_k (x := 10) 10 (by decide)) (by decide))
            · have p37 := gn_eq 47 47 (gc_eq zc36) pr33 (jv_k (x := 47) 47 (by decide)) (by decide)
              refine g_bipush cx 9 (by decide) e_X3_product_64 ?_
              refine g_goto cx 71 e_X3_product_66 (by decide) ?_
              exact J71 9 (jv_w (jv_k (x := 9) 9 (by decide)) (by decide))
          · have p38 := gn_eq 42 42 (gc_eq zc32) pr15 (jv_k (x := 42) 42 (by decide)) (by decide)
            refine g_bipush cx 8 (by decide) e_X3_product_50 ?_
            refine g_goto cx 71 e_X3_product_52 (by decide) ?_
            exact J71 8 (jv_w (jv_k (x := 8) 8 (by decide)) (by decide))
        refine g_icmp_eq cx 41 e_X3_product_20 (by decide) (fun zc39 => ?_) (fun zc39 => ?_)
        · have p40 := gn_eq 42 42 (gc_eq zc39) pr12 (jv_k (x := 42) 42 (by decide)) (by decide)
          exact J41  
        · refine g_aload_n cx 0 rfl e_X3_product_23 ?_
          refine g_cViW cx [] [] (w_X3_sign l X ad F7 R8 oF7 oR8) ml_X3_42 yV_X3_sign e_X3_product_24 (by unfold g_rr; decide) (by decide) 33 rfl rfl rfl (Nat.le_of_ble_eq_true rfl) (fun r41 w42 h43 => ?_)
          obtain ⟨rfl, pr41⟩ := h43
          refine g_bipush cx 47 (by decide) e_X3_product_27 ?_
          refine g_icmp_eq cx 41 e_X3_product_29 (by decide) (fun zc44 => ?_) (fun zc44 => ?_)
          · have p45 := gn_eq 47 47 (gc_eq zc44) pr41 (jv_k (x := 47) 47 (by decide)) (by decide)
            exact J41  
          · refine g_aload_n cx 0 rfl e_X3_product_32 ?_
            refine g_cViW cx [] [] (w_X3_sign l X ad F7 R8 oF7 oR8) ml_X3_42 yV_X3_sign e_X3_product_33 (by unfold g_rr; decide) (by decide) 33 rfl rfl rfl (Nat.le_of_ble_eq_true rfl) (fun r46 w47 h48 => ?_)
            obtain ⟨rfl, pr46⟩ := h48
            refine g_bipush cx 37 (by decide) e_X3_product_36 ?_
            refine g_icmp_ne cx 103 e_X3_product_38 (by decide) (fun zc49 => ?_) (fun zc49 => ?_)
            · refine g_lsub [] [] rfl ?_
              exact J103  
            · have p50 := gn_eq 37 37 (gc_eq zc49) pr46 (jv_k (x := 37) 37 (by decide)) (by decide)
              exact J41  
  refine g_lsub [1, 2, 0] [(0, .ref (ad 33)), (1, .int 0), (2, .int 0)] rfl ?_
  exact J7 _ F4 R5 0 oF4 fF4 oR5 fR5 (jv_w (jv_k (x := 0) 0 (by decide)) (by decide)) (Nat.lt_succ_self _)
def md_X3_sum_c0 : List Nat := [402, 531, 532]
def mr_X3_sum_c0 : List Nat := [26, 27]
set_option maxHeartbeats 4000000 in
set_option maxRecDepth 100000 in
theorem w_X3_sum_c0 (l : Launch) (X : gX) (ad : Nat → Nat) (F : Nat → Int32) (R : Nat → Nat → Int32) (hI : g_ok LK_wX F) (hA : g_okR LA_wX R) : g_Cv l X yX3_sum cX3_sum 4 25 0 0 [.ref (ad 33), .int 0] (wX X ad F R) (fun w => ∃ (F' : Nat → Int32) (R' : Nat → Nat → Int32), w = wX X ad F' R' ∧ g_ok LK_wX F' ∧ g_okR LA_wX R' ∧ g_fr md_X3_sum_c0 F F' ∧ g_fr mr_X3_sum_c0 R R') := by
  refine g_mv (by decide +kernel) (Nat.le_of_ble_eq_true rfl) (fun E cx hret => ?_)
  refine g_aload_n cx 0 rfl e_X3_sum_0 ?_
  refine g_iload_n cx 1 rfl e_X3_sum_1 ?_
  refine g_cVvW cx [.int 0] [] (w_X3_product_c0 l X ad F R hI hA) ml_X3_96 yV_X3_product e_X3_sum_2 (by unfold g_rr; decide) (by decide) 33 rfl rfl rfl (Nat.le_of_ble_eq_true rfl) (fun w2 h3 => ?_)
  obtain ⟨F4, R5, rfl, oF4, oR5, cF4, cR5⟩ := h3
  have fF4 : g_fr md_X3_sum_c0 F F4 := g_fr_c (g_fr_rf F) cF4 rfl
  have fR5 : g_fr mr_X3_sum_c0 R R5 := g_fr_c (g_fr_rf R) cR5 rfl
  refine g_iconst cx 0 (by decide) e_X3_sum_5 ?_
  refine g_istore_n cx [(2, .int 0), (0, .ref (ad 33)), (1, .int 0)] e_X3_sum_6 (by decide) rfl ?_
  have J7 : ∀ (N : Nat) (F7 : Nat → Int32) (R8 : Nat → Nat → Int32) (y6 : Int32), (g_ok LK_wX F7) → (g_fr md_X3_sum_c0 F F7) → (g_okR LA_wX R8) → (g_fr mr_X3_sum_c0 R R8) → (jv 0 200 y6) → (2147483647 - y6.toInt).toNat < N → G X E 4 0 0 (wX X ad F7 R8) [(0, .ref (ad 33)), (1, .int 0), (2, .int y6)] 7 [] := by
    intro N
    induction N with
    | zero => intro F7 R8 y6 oF7 fF7 oR8 fR8 py6 hm; exact absurd hm (Nat.not_lt_zero _)
    | succ N ih7 =>
      intro F7 R8 y6 oF7 fF7 oR8 fR8 py6 hm7
      refine g_iload_n cx 2 rfl e_X3_sum_7 ?_
      refine g_sipush cx 200 (by decide) e_X3_sum_8 ?_
      have J80 : G X E 4 0 0 (wX X ad F7 R8) [] 80 [] := by
        exact hret e_X3_sum_80 (Nat.le_of_ble_eq_true rfl) (Nat.le_of_ble_eq_true rfl) ⟨F7, R8, rfl, oF7, oR8, fF7, fR8⟩
      refine g_icmp_ge cx 80 e_X3_sum_11 (by decide) (fun zc9 => ?_) (fun zc9 => ?_)
      · have p10 := gn_ge 200 200 (gc_le zc9) py6 (jv_k (x := 200) 200 (by decide)) (by decide)
        refine g_lsub [] [] rfl ?_
        exact J80  
      · have p11 := gn_lt 0 199 (gc_nle zc9) py6 (jv_k (x := 200) 200 (by decide)) (by decide)
        refine g_aload_n cx 0 rfl e_X3_sum_14 ?_
        refine g_cViW cx [] [] (w_X3_sign l X ad F7 R8 oF7 oR8) ml_X3_42 yV_X3_sign e_X3_sum_15 (by unfold g_rr; decide) (by decide) 33 rfl rfl rfl (Nat.le_of_ble_eq_true rfl) (fun r12 w13 h14 => ?_)
        obtain ⟨rfl, pr12⟩ := h14
        refine g_bipush cx 43 (by decide) e_X3_sum_18 ?_
        have J32 : G X E 4 0 0 (wX X ad F7 R8) [(0, .ref (ad 33)), (1, .int 0), (2, .int y6)] 32 [] := by
          refine g_aload_n cx 0 rfl e_X3_sum_32 ?_
          refine g_cViW cx [] [] (w_X3_sign l X ad F7 R8 oF7 oR8) ml_X3_42 yV_X3_sign e_X3_sum_33 (by unfold g_rr; decide) (by decide) 33 rfl rfl rfl (Nat.le_of_ble_eq_true rfl) (fun r15 w16 h17 => ?_)
          obtain ⟨rfl, pr15⟩ := h17
          refine g_bipush cx 43 (by decide) e_X3_sum_36 ?_
          have J48 : ∀ (y18 : Int32), (jv 6 7 y18) → G X E 4 0 0 (wX X ad F7 R8) [(0, .ref (ad 33)), (1, .int 0), (2, .int y6)] 48 [.int y18] := by
            intro y18 py18
            refine g_istore_n cx [(3, .int y18), (0, .ref (ad 33)), (1, .int 0), (2, .int y6)] e_X3_sum_48 (by decide) rfl ?_
            refine g_aload_n cx 1 rfl e_X3_sum_49 ?_
            refine g_dup cx rfl e_X3_sum_50 ?_
            refine g_get cx cl_X3 fl_X3_19 33 (.int (F7 531)) e_X3_sum_51 rfl rfl ?_
            refine g_iconst cx 1 (by decide) e_X3_sum_54 ?_
            refine g_iadd cx e_X3_sum_55 ?_
            refine g_topi (fun x19 ex19 => ?_)
            refine g_put cx cl_X3 fl_X3_19 33 (wX X ad (upd F7 531 x19) R8) e_X3_sum_56 rfl rfl rfl rfl (Nat.le_of_ble_eq_true rfl) rfl ?_
            obtain ⟨F20, hF20⟩ : ∃ z, z = upd F7 531 x19 := ⟨_, rfl⟩
            rw [← hF20]
            have oF20 : g_ok LK_wX F20 := by rw [hF20]; exact g_ok_u oF7 rfl
            have fF20 : g_fr md_X3_sum_c0 F F20 := by rw [hF20]; exact g_fr_u fF7 rfl
            refine g_aload_n cx 1 rfl e_X3_sum_59 ?_
            refine g_iload_n cx 2 rfl e_X3_sum_60 ?_
            refine g_cVvW cx [.int 0] [] (w_X3_product_c0 l X ad F20 R8 oF20 oR8) ml_X3_96 yV_X3_product e_X3_sum_61 (by unfold g_rr; decide) (by decide) 33 rfl rfl rfl (Nat.le_of_ble_eq_true rfl) (fun w22 h23 => ?_)
            obtain ⟨F24, R25, rfl, oF24, oR25, cF24, cR25⟩ := h23
            have fF24 : g_fr md_X3_sum_c0 F F24 := g_fr_c fF20 cF24 rfl
            have fR25 : g_fr mr_X3_sum_c0 R R25 := g_fr_c fR8 cR25 rfl
            refine g_aload_n cx 1 rfl e_X3_sum_64 ?_
            refine g_get cx cl_X3 fl_X3_25 33 (.ref (ad 25)) e_X3_sum_65 rfl rfl ?_
            refine g_iload_n cx 0 rfl e_X3_sum_68 ?_
            refine g_iconst cx 0 (by decide) e_X3_sum_69 ?_
            refine g_cViW cx [.int y18, .int 0] [] (w_X2_emit_25 l X ad F24 R25 oF24 oR25 y18 0) ml_X3_66 yV_X2_emit e_X3_sum_70 (by unfold g_rr; decide) (by decide) 25 rfl rfl rfl (Nat.le_of_ble_eq_true rfl) (fun r26 w27 h28 => ?_)
            obtain ⟨F29, R30, rfl, oF29, oR30, cF29, cR30, pr26⟩ := h28
            have fF29 : g_fr md_X3_sum_c0 F F29 := g_fr_c fF24 cF29 rfl
            have fR30 : g_fr mr_X3_sum_c0 R R30 := g_fr_c fR25 cR30 rfl
            refine g_pop cx rfl e_X3_sum_73 ?_
            obtain ⟨x31, ex31⟩ : ∃ z : Int32, z = y6 + Int32.ofInt 1 := ⟨_, rfl⟩
            refine g_iinc cx x31 [(2, .int x31), (3, .int y18), (0, .ref (ad 33)), (1, .int 0)] 3 e_X3_sum_74 rfl ex31.symm (by decide) rfl ?_
            have zx31 := jv_add 1 200 (show x31 = y6 + 1 from ex31) p11 (jv_k (x := 1) 1 (by decide)) (by decide)
            refine g_goto cx 7 e_X3_sum_77 (by decide) ?_
            refine g_lsub [2, 3, 0] [(0, .ref (ad 33)), (1, .int 0), (2, .int x31)] rfl ?_
            exact ih7 F29 R30 x31 oF29 fF29 oR30 fR30 (jv_w zx31.2 (by decide)) (Nat.lt_of_lt_of_le (show (2147483647 - x31.toInt).toNat < (2147483647 - y6.toInt).toNat from by have q0 := (jv_k (x := 1) 1 (by decide)).1; have q1 := (jv_k (x := 1) 1 (by decide)).2; have q2 := (jv_k (x := 200) 200 (by decide)).1; have q3 := (jv_k (x := 200) 200 (by decide)).2; have q4 := zx31.2.1; have q5 := zx31.2.2; have q6 := p11.1; have q7 := p11.2; have q8 := (gc_nle zc9); have q9 := (g_eq0 zx31.1); omega) (Nat.le_of_lt_succ hm7))
          refine g_icmp_ne cx 46 e_X3_sum_38 (by decide) (fun zc32 => ?_) (fun zc32 => ?_)
          · refine g_bipush cx 7 (by decide) e_X3_sum_46 ?_
            exact J48 7 (jv_w (jv_k (x := 7) 7 (by decide)) (by decide))
          · have p33 := gn_eq 43 43 (gc_eq zc32) pr15 (jv_k (x := 43) 43 (by decide)) (by decide)
            refine g_bipush cx 6 (by decide) e_X3_sum_41 ?_
            refine g_goto cx 48 e_X3_sum_43 (by decide) ?_
            exact J48 6 (jv_w (jv_k (x := 6) 6 (by decide)) (by decide))
        refine g_icmp_eq cx 32 e_X3_sum_20 (by decide) (fun zc34 => ?_) (fun zc34 => ?_)
        · have p35 := gn_eq 43 43 (gc_eq zc34) pr12 (jv_k (x := 43) 43 (by decide)) (by decide)
          exact J32  
        · refine g_aload_n cx 0 rfl e_X3_sum_23 ?_
          refine g_cViW cx [] [] (w_X3_sign l X ad F7 R8 oF7 oR8) ml_X3_42 yV_X3_sign e_X3_sum_24 (by unfold g_rr; decide) (by decide) 33 rfl rfl rfl (Nat.le_of_ble_eq_true rfl) (fun r36 w37 h38 => ?_)
          obtain ⟨rfl, pr36⟩ := h38
          refine g_bipush cx 45 (by decide) e_X3_sum_27 ?_
          refine g_icmp_ne cx 80 e_X3_sum_29 (by decide) (fun zc39 => ?_) (fun zc39 => ?_)
          · refine g_lsub [] [] rfl ?_
            exact J80  
          · have p40 := gn_eq 45 45 (gc_eq zc39) pr36 (jv_k (x := 45) 45 (by decide)) (by decide)
            exact J32  
  refine g_lsub [1, 2, 0] [(0, .ref (ad 33)), (1, .int 0), (2, .int 0)] rfl ?_
  exact J7 _ F4 R5 0 oF4 fF4 oR5 fR5 (jv_w (jv_k (x := 0) 0 (by decide)) (by decide)) (Nat.lt_succ_self _)
theorem e_X3_comparison_0 : g_dc cX3_comparison 0 (.aload_n 0) 1 1 := ⟨by decide +kernel, rfl⟩
theorem e_X3_comparison_1 : g_dc cX3_comparison 1 (.iload_n 1) 1 2 := ⟨by decide +kernel, rfl⟩
theorem e_X3_comparison_2 : g_dc cX3_comparison 2 (.invokevirtual 63) 3 5 := ⟨by decide +kernel, rfl⟩
theorem e_X3_comparison_5 : g_dc cX3_comparison 5 (.iconst (-1)) 1 6 := ⟨by decide +kernel, rfl⟩
theorem e_X3_comparison_6 : g_dc cX3_comparison 6 (.istore_n 2) 1 7 := ⟨by decide +kernel, rfl⟩
theorem e_X3_comparison_7 : g_dc cX3_comparison 7 (.aload_n 0) 1 8 := ⟨by decide +kernel, rfl⟩
theorem e_X3_comparison_8 : g_dc cX3_comparison 8 (.invokevirtual 42) 3 11 := ⟨by decide +kernel, rfl⟩
theorem e_X3_comparison_11 : g_dc cX3_comparison 11 (.bipush 60) 2 13 := ⟨by decide +kernel, rfl⟩
theorem e_X3_comparison_13 : g_dc cX3_comparison 13 (.if_icmp .ne 9) 3 16 := ⟨by decide +kernel, rfl⟩
theorem e_X3_comparison_16 : g_dc cX3_comparison 16 (.bipush 11) 2 18 := ⟨by decide +kernel, rfl⟩
theorem e_X3_comparison_18 : g_dc cX3_comparison 18 (.istore_n 2) 1 19 := ⟨by decide +kernel, rfl⟩
theorem e_X3_comparison_19 : g_dc cX3_comparison 19 (.goto 30) 3 22 := ⟨by decide +kernel, rfl⟩
theorem e_X3_comparison_22 : g_dc cX3_comparison 22 (.aload_n 0) 1 23 := ⟨by decide +kernel, rfl⟩
theorem e_X3_comparison_23 : g_dc cX3_comparison 23 (.invokevirtual 42) 3 26 := ⟨by decide +kernel, rfl⟩
theorem e_X3_comparison_26 : g_dc cX3_comparison 26 (.bipush 62) 2 28 := ⟨by decide +kernel, rfl⟩
theorem e_X3_comparison_28 : g_dc cX3_comparison 28 (.if_icmp .ne 9) 3 31 := ⟨by decide +kernel, rfl⟩
theorem e_X3_comparison_31 : g_dc cX3_comparison 31 (.bipush 12) 2 33 := ⟨by decide +kernel, rfl⟩
theorem e_X3_comparison_33 : g_dc cX3_comparison 33 (.istore_n 2) 1 34 := ⟨by decide +kernel, rfl⟩
theorem e_X3_comparison_34 : g_dc cX3_comparison 34 (.goto 15) 3 37 := ⟨by decide +kernel, rfl⟩
theorem e_X3_comparison_37 : g_dc cX3_comparison 37 (.aload_n 0) 1 38 := ⟨by decide +kernel, rfl⟩
theorem e_X3_comparison_38 : g_dc cX3_comparison 38 (.invokevirtual 42) 3 41 := ⟨by decide +kernel, rfl⟩
theorem e_X3_comparison_41 : g_dc cX3_comparison 41 (.bipush 61) 2 43 := ⟨by decide +kernel, rfl⟩
theorem e_X3_comparison_43 : g_dc cX3_comparison 43 (.if_icmp .ne 6) 3 46 := ⟨by decide +kernel, rfl⟩
theorem e_X3_comparison_46 : g_dc cX3_comparison 46 (.bipush 13) 2 48 := ⟨by decide +kernel, rfl⟩
theorem e_X3_comparison_48 : g_dc cX3_comparison 48 (.istore_n 2) 1 49 := ⟨by decide +kernel, rfl⟩
theorem e_X3_comparison_49 : g_dc cX3_comparison 49 (.iload_n 2) 1 50 := ⟨by decide +kernel, rfl⟩
theorem e_X3_comparison_50 : g_dc cX3_comparison 50 (.iconst (-1)) 1 51 := ⟨by decide +kernel, rfl⟩
theorem e_X3_comparison_51 : g_dc cX3_comparison 51 (.if_icmp .ne 9) 3 54 := ⟨by decide +kernel, rfl⟩
theorem e_X3_comparison_54 : g_dc cX3_comparison 54 (.aload_n 0) 1 55 := ⟨by decide +kernel, rfl⟩
theorem e_X3_comparison_55 : g_dc cX3_comparison 55 (.iconst 1) 1 56 := ⟨by decide +kernel, rfl⟩
theorem e_X3_comparison_56 : g_dc cX3_comparison 56 (.invokevirtual 46) 3 59 := ⟨by decide +kernel, rfl⟩
theorem e_X3_comparison_59 : g_dc cX3_comparison 59 (.return_) 1 60 := ⟨by decide +kernel, rfl⟩
theorem e_X3_comparison_60 : g_dc cX3_comparison 60 (.aload_n 0) 1 61 := ⟨by decide +kernel, rfl⟩
theorem e_X3_comparison_61 : g_dc cX3_comparison 61 (.dup) 1 62 := ⟨by decide +kernel, rfl⟩
theorem e_X3_comparison_62 : g_dc cX3_comparison 62 (.getfield 19) 3 65 := ⟨by decide +kernel, rfl⟩
theorem e_X3_comparison_65 : g_dc cX3_comparison 65 (.iconst 1) 1 66 := ⟨by decide +kernel, rfl⟩
theorem e_X3_comparison_66 : g_dc cX3_comparison 66 (.iadd) 1 67 := ⟨by decide +kernel, rfl⟩
theorem e_X3_comparison_67 : g_dc cX3_comparison 67 (.putfield 19) 3 70 := ⟨by decide +kernel, rfl⟩
theorem e_X3_comparison_70 : g_dc cX3_comparison 70 (.aload_n 0) 1 71 := ⟨by decide +kernel, rfl⟩
theorem e_X3_comparison_71 : g_dc cX3_comparison 71 (.iload_n 1) 1 72 := ⟨by decide +kernel, rfl⟩
theorem e_X3_comparison_72 : g_dc cX3_comparison 72 (.invokevirtual 63) 3 75 := ⟨by decide +kernel, rfl⟩
theorem e_X3_comparison_75 : g_dc cX3_comparison 75 (.aload_n 0) 1 76 := ⟨by decide +kernel, rfl⟩
theorem e_X3_comparison_76 : g_dc cX3_comparison 76 (.getfield 25) 3 79 := ⟨by decide +kernel, rfl⟩
theorem e_X3_comparison_79 : g_dc cX3_comparison 79 (.iload_n 2) 1 80 := ⟨by decide +kernel, rfl⟩
theorem e_X3_comparison_80 : g_dc cX3_comparison 80 (.iconst 0) 1 81 := ⟨by decide +kernel, rfl⟩
theorem e_X3_comparison_81 : g_dc cX3_comparison 81 (.invokevirtual 66) 3 84 := ⟨by decide +kernel, rfl⟩
theorem e_X3_comparison_84 : g_dc cX3_comparison 84 (.pop) 1 85 := ⟨by decide +kernel, rfl⟩
theorem e_X3_comparison_85 : g_dc cX3_comparison 85 (.return_) 1 86 := ⟨by decide +kernel, rfl⟩
def md_X3_comparison_c1 : List Nat := [402, 531, 532]
def mr_X3_comparison_c1 : List Nat := [26, 27]
set_option maxHeartbeats 4000000 in
set_option maxRecDepth 100000 in
theorem w_X3_comparison_c1 (l : Launch) (X : gX) (ad : Nat → Nat) (F : Nat → Int32) (R : Nat → Nat → Int32) (hI : g_ok LK_wX F) (hA : g_okR LA_wX R) : g_Cv l X yX3_comparison cX3_comparison 3 23 0 0 [.ref (ad 33), .int 1] (wX X ad F R) (fun w => ∃ (F' : Nat → Int32) (R' : Nat → Nat → Int32), w = wX X ad F' R' ∧ g_ok LK_wX F' ∧ g_okR LA_wX R' ∧ g_fr md_X3_comparison_c1 F F' ∧ g_fr mr_X3_comparison_c1 R R') := by
  refine g_mv (by decide +kernel) (Nat.le_of_ble_eq_true rfl) (fun E cx hret => ?_)
  refine g_aload_n cx 0 rfl e_X3_comparison_0 ?_
  refine g_iload_n cx 1 rfl e_X3_comparison_1 ?_
  refine g_cVvW cx [.int 1] [] (w_X3_sum_c1 l X ad F R hI hA) ml_X3_63 yV_X3_sum e_X3_comparison_2 (by unfold g_rr; decide) (by decide) 33 rfl rfl rfl (Nat.le_of_ble_eq_true rfl) (fun w2 h3 => ?_)
  obtain ⟨F4, R5, rfl, oF4, oR5, cF4, cR5⟩ := h3
  have fF4 : g_fr md_X3_comparison_c1 F F4 := g_fr_c (g_fr_rf F) cF4 rfl
  have fR5 : g_fr mr_X3_comparison_c1 R R5 := g_fr_c (g_fr_rf R) cR5 rfl
  refine g_iconst cx (-1) (by decide) e_X3_comparison_5 ?_
  refine g_istore_n cx [(2, .int (-1)), (0, .ref (ad 33)), (1, .int 1)] e_X3_comparison_6 (by decide) rfl ?_
  refine g_aload_n cx 1 rfl e_X3_comparison_7 ?_
  refine g_cViW cx [] [] (w_X3_sign l X ad F4 R5 oF4 oR5) ml_X3_42 yV_X3_sign e_X3_comparison_8 (by unfold g_rr; decide) (by decide) 33 rfl rfl rfl (Nat.le_of_ble_eq_true rfl) (fun r6 w7 h8 => ?_)
  obtain ⟨rfl, pr6⟩ := h8
  refine g_bipush cx 60 (by decide) e_X3_comparison_11 ?_
  have J49 : ∀ (y9 : Int32), (jv (-1) 13 y9) → G X E 3 0 0 (wX X ad F4 R5) [(0, .ref (ad 33)), (1, .int 1), (2, .int y9)] 49 [] := by
    intro y9 py9
    refine g_iload_n cx 2 rfl e_X3_comparison_49 ?_
    refine g_iconst cx (-1) (by decide) e_X3_comparison_50 ?_
    refine g_icmp_ne cx 60 e_X3_comparison_51 (by decide) (fun zc10 => ?_) (fun zc10 => ?_)
    · have p11 := gn_neL 0 13 (gc_ne zc10) py9 (jv_k (x := (-1)) (-1) (by decide)) (by decide)
      refine g_aload_n cx 0 rfl e_X3_comparison_60 ?_
      refine g_dup cx rfl e_X3_comparison_61 ?_
      refine g_get cx cl_X3 fl_X3_19 33 (.int (F4 531)) e_X3_comparison_62 rfl rfl ?_
      refine g_iconst cx 1 (by decide) e_X3_comparison_65 ?_
      refine g_iadd cx e_X3_comparison_66 ?_
      refine g_topi (fun x12 ex12 => ?_)
      refine g_put cx cl_X3 fl_X3_19 33 (wX X ad (upd F4 531 x12) R5) e_X3_comparison_67 rfl rfl rfl rfl (Nat.le_of_ble_eq_true rfl) rfl ?_
      obtain ⟨F13, hF13⟩ : ∃ z, z = upd F4 531 x12 := ⟨_, rfl⟩
      rw [← hF13]
      have oF13 : g_ok LK_wX F13 := by rw [hF13]; exact g_ok_u oF4 rfl
      have fF13 : g_fr md_X3_comparison_c1 F F13 := by rw [hF13]; exact g_fr_u fF4 rfl
      refine g_aload_n cx 0 rfl e_X3_comparison_70 ?_
      refine g_iload_n cx 1 rfl e_X3_comparison_71 ?_
      refine g_cVvW cx [.int 1] [] (w_X3_sum_c1 l X ad F13 R5 oF13 oR5) ml_X3_63 yV_X3_sum e_X3_comparison_72 (by unfold g_rr; decide) (by decide) 33 rfl rfl rfl (Nat.le_of_ble_eq_true rfl) (fun w15 h16 => ?_)
      obtain ⟨F17, R18, rfl, oF17, oR18, cF17, cR18⟩ := h16
      have fF17 : g_fr md_X3_comparison_c1 F F17 := g_fr_c fF13 cF17 rfl
      have fR18 : g_fr mr_X3_comparison_c1 R R18 := g_fr_c fR5 cR18 rfl
      refine g_aload_n cx 0 rfl e_X3_comparison_75 ?_
      refine g_get cx cl_X3 fl_X3_25 33 (.ref (ad 25)) e_X3_comparison_76 rfl rfl ?_
      refine g_iload_n cx 2 rfl e_X3_comparison_79 ?_
      refine g_iconst cx 0 (by decide) e_X3_comparison_80 ?_
      refine g_cViW cx [.int y9, .int 0] [] (w_X2_emit_25 l X ad F17 R18 oF17 oR18 y9 0) ml_X3_66 yV_X2_emit e_X3_comparison_81 (by unfold g_rr; decide) (by decide) 25 rfl rfl rfl (Nat.le_of_ble_eq_true rfl) (fun r19 w20 h21 => ?_)
      obtain ⟨F22, R23, rfl, oF22, oR23, cF22, cR23, pr19⟩ := h21
      have fF22 : g_fr md_X3_comparison_c1 F F22 := g_fr_c fF17 cF22 rfl
      have fR23 : g_fr mr_X3_comparison_c1 R R23 := g_fr_c fR18 cR23 rfl
      refine g_pop cx rfl e_X3_comparison_84 ?_
      exact hret e_X3_comparison_85 (Nat.le_of_ble_eq_true rfl) (Nat.le_of_ble_eq_true rfl) ⟨F22, R23, rfl, oF22, oR23, fF22, fR23⟩
    · have p24 := gn_eq (-1) (-1) (gc_eq zc10) py9 (jv_k (x := (-1)) (-1) (by decide)) (by decide)
      refine g_aload_n cx 0 rfl e_X3_comparison_54 ?_
      refine g_iconst cx 1 (by decide) e_X3_comparison_55 ?_
      refine g_cVvW cx [.int 1] [] (w_X3_fail l X ad F4 R5 oF4 oR5 1) ml_X3_46 yV_X3_fail e_X3_comparison_56 (by unfold g_rr; decide) (by decide) 33 rfl rfl rfl (Nat.le_of_ble_eq_true rfl) (fun w26 h27 => ?_)
      obtain ⟨F28, R29, rfl, oF28, oR29, cF28, cR29⟩ := h27
      have fF28 : g_fr md_X3_comparison_c1 F F28 := g_fr_c fF4 cF28 rfl
      have fR29 : g_fr mr_X3_comparison_c1 R R29 := g_fr_c fR5 cR29 rfl
      exact hret e_X3_comparison_59 (Nat.le_of_ble_eq_true rfl) (Nat.le_of_ble_eq_true rfl) ⟨F28, R29, rfl, oF28, oR29, fF28, fR29⟩
  refine g_icmp_ne cx 22 e_X3_comparison_13 (by decide) (fun zc30 => ?_) (fun zc30 => ?_)
  · refine g_aload_n cx 1 rfl e_X3_comparison_22 ?_
    refine g_cViW cx [] [] (w_X3_sign l X ad F4 R5 oF4 oR5) ml_X3_42 yV_X3_sign e_X3_comparison_23 (by unfold g_rr; decide) (by decide) 33 rfl rfl rfl (Nat.le_of_ble_eq_true rfl) (fun r31 w32 h33 => ?_)
    obtain ⟨rfl, pr31⟩ := h33
    refine g_bipush cx 62 (by decide) e_X3_comparison_26 ?_
    refine g_icmp_ne cx 37 e_X3_comparison_28 (by decide) (fun zc34 => ?_) (fun zc34 => ?_)
    · refine g_aload_n cx 1 rfl e_X3_comparison_37 ?_
      refine g_cViW cx [] [] (w_X3_sign l X ad F4 R5 oF4 oR5) ml_X3_42 yV_X3_sign e_X3_comparison_38 (by unfold g_rr; decide) (by decide) 33 rfl rfl rfl (Nat.le_of_ble_eq_true rfl) (fun r35 w36 h37 => ?_)
      obtain ⟨rfl, pr35⟩ := h37
      refine g_bipush cx 61 (by decide) e_X3_comparison_41 ?_
      refine g_icmp_ne cx 49 e_X3_comparison_43 (by decide) (fun zc38 => ?_) (fun zc38 => ?_)
      · refine g_lsub [1, 2, 0] [(0, .ref (ad 33)), (1, .int 1), (2, .int (-1))] rfl ?_
        exact J49 (-1) (jv_w (jv_k (x := (-1)) (-1) (by decide)) (by decide))
      · have p39 := gn_eq 61 61 (gc_eq zc38) pr35 (jv_k (x := 61) 61 (by decide)) (by decide)
        refine g_bipush cx 13 (by decide) e_X3_comparison_46 ?_
        refine g_istore_n cx [(2, .int 13), (0, .ref (ad 33)), (1, .int 1)] e_X3_comparison_48 (by decide) rfl ?_
        refine g_lsub [1, 2, 0] [(0, .ref (ad 33)), (1, .int 1), (2, .int 13)] rfl ?_
        exact J49 13 (jv_w (jv_k (x := 13) 13 (by decide)) (by decide))
    · have p40 := gn_eq 62 62 (gc_eq zc34) pr31 (jv_k (x := 62) 62 (by decide)) (by decide)
      refine g_bipush cx 12 (by decide) e_X3_comparison_31 ?_
      refine g_istore_n cx [(2, .int 12), (0, .ref (ad 33)), (1, .int 1)] e_X3_comparison_33 (by decide) rfl ?_
      refine g_goto cx 49 e_X3_comparison_34 (by decide) ?_
      refine g_lsub [1, 2, 0] [(0, .ref (ad 33)), (1, .int 1), (2, .int 12)] rfl ?_
      exact J49 12 (jv_w (jv_k (x := 12) 12 (by decide)) (by decide))
  · have p41 := gn_eq 60 60 (gc_eq zc30) pr6 (jv_k (x := 60) 60 (by decide)) (by decide)
    refine g_bipush cx 11 (by decide) e_X3_comparison_16 ?_
    refine g_istore_n cx [(2, .int 11), (0, .ref (ad 33)), (1, .int 1)] e_X3_comparison_18 (by decide) rfl ?_
    refine g_goto cx 49 e_X3_comparison_19 (by decide) ?_
    refine g_lsub [1, 2, 0] [(0, .ref (ad 33)), (1, .int 1), (2, .int 11)] rfl ?_
    exact J49 11 (jv_w (jv_k (x := 11) 11 (by decide)) (by decide))
def md_X3_comparison_c2 : List Nat := [402, 531, 532]
def mr_X3_comparison_c2 : List Nat := [26, 27]
set_option maxHeartbeats 4000000 in
set_option maxRecDepth 100000 in
theorem w_X3_comparison_c2 (l : Launch) (X : gX) (ad : Nat → Nat) (F : Nat → Int32) (R : Nat → Nat → Int32) (hI : g_ok LK_wX F) (hA : g_okR LA_wX R) : g_Cv l X yX3_comparison cX3_comparison 3 20 0 0 [.ref (ad 33), .int 2] (wX X ad F R) (fun w => ∃ (F' : Nat → Int32) (R' : Nat → Nat → Int32), w = wX X ad F' R' ∧ g_ok LK_wX F' ∧ g_okR LA_wX R' ∧ g_fr md_X3_comparison_c2 F F' ∧ g_fr mr_X3_comparison_c2 R R') := by
  refine g_mv (by decide +kernel) (Nat.le_of_ble_eq_true rfl) (fun E cx hret => ?_)
  refine g_aload_n cx 0 rfl e_X3_comparison_0 ?_
  refine g_iload_n cx 1 rfl e_X3_comparison_1 ?_
  refine g_cVvW cx [.int 2] [] (w_X3_sum_c2 l X ad F R hI hA) ml_X3_63 yV_X3_sum e_X3_comparison_2 (by unfold g_rr; decide) (by decide) 33 rfl rfl rfl (Nat.le_of_ble_eq_true rfl) (fun w2 h3 => ?_)
  obtain ⟨F4, R5, rfl, oF4, oR5, cF4, cR5⟩ := h3
  have fF4 : g_fr md_X3_comparison_c2 F F4 := g_fr_c (g_fr_rf F) cF4 rfl
  have fR5 : g_fr mr_X3_comparison_c2 R R5 := g_fr_c (g_fr_rf R) cR5 rfl
  refine g_iconst cx (-1) (by decide) e_X3_comparison_5 ?_
  refine g_istore_n cx [(2, .int (-1)), (0, .ref (ad 33)), (1, .int 2)] e_X3_comparison_6 (by decide) rfl ?_
  refine g_aload_n cx 1 rfl e_X3_comparison_7 ?_
  refine g_cViW cx [] [] (w_X3_sign l X ad F4 R5 oF4 oR5) ml_X3_42 yV_X3_sign e_X3_comparison_8 (by unfold g_rr; decide) (by decide) 33 rfl rfl rfl (Nat.le_of_ble_eq_true rfl) (fun r6 w7 h8 => ?_)
  obtain ⟨rfl, pr6⟩ := h8
  refine g_bipush cx 60 (by decide) e_X3_comparison_11 ?_
  have J49 : ∀ (y9 : Int32), (jv (-1) 13 y9) → G X E 3 0 0 (wX X ad F4 R5) [(0, .ref (ad 33)), (1, .int 2), (2, .int y9)] 49 [] := by
    intro y9 py9
    refine g_iload_n cx 2 rfl e_X3_comparison_49 ?_
    refine g_iconst cx (-1) (by decide) e_X3_comparison_50 ?_
    refine g_icmp_ne cx 60 e_X3_comparison_51 (by decide) (fun zc10 => ?_) (fun zc10 => ?_)
    · have p11 := gn_neL 0 13 (gc_ne zc10) py9 (jv_k (x := (-1)) (-1) (by decide)) (by decide)
      refine g_aload_n cx 0 rfl e_X3_comparison_60 ?_
      refine g_dup cx rfl e_X3_comparison_61 ?_
      refine g_get cx cl_X3 fl_X3_19 33 (.int (F4 531)) e_X3_comparison_62 rfl rfl ?_
      refine g_iconst cx 1 (by decide) e_X3_comparison_65 ?_
      refine g_iadd cx e_X3_comparison_66 ?_
      refine g_topi (fun x12 ex12 => ?_)
      refine g_put cx cl_X3 fl_X3_19 33 (wX X ad (upd F4 531 x12) R5) e_X3_comparison_67 rfl rfl rfl rfl (Nat.le_of_ble_eq_true rfl) rfl ?_
      obtain ⟨F13, hF13⟩ : ∃ z, z = upd F4 531 x12 := ⟨_, rfl⟩
      rw [← hF13]
      have oF13 : g_ok LK_wX F13 := by rw [hF13]; exact g_ok_u oF4 rfl
      have fF13 : g_fr md_X3_comparison_c2 F F13 := by rw [hF13]; exact g_fr_u fF4 rfl
      refine g_aload_n cx 0 rfl e_X3_comparison_70 ?_
      refine g_iload_n cx 1 rfl e_X3_comparison_71 ?_
      refine g_cVvW cx [.int 2] [] (w_X3_sum_c2 l X ad F13 R5 oF13 oR5) ml_X3_63 yV_X3_sum e_X3_comparison_72 (by unfold g_rr; decide) (by decide) 33 rfl rfl rfl (Nat.le_of_ble_eq_true rfl) (fun w15 h16 => ?_)
      obtain ⟨F17, R18, rfl, oF17, oR18, cF17, cR18⟩ := h16
      have fF17 : g_fr md_X3_comparison_c2 F F17 := g_fr_c fF13 cF17 rfl
      have fR18 : g_fr mr_X3_comparison_c2 R R18 := g_fr_c fR5 cR18 rfl
      refine g_aload_n cx 0 rfl e_X3_comparison_75 ?_
      refine g_get cx cl_X3 fl_X3_25 33 (.ref (ad 25)) e_X3_comparison_76 rfl rfl ?_
      refine g_iload_n cx 2 rfl e_X3_comparison_79 ?_
      refine g_iconst cx 0 (by decide) e_X3_comparison_80 ?_
      refine g_cViW cx [.int y9, .int 0] [] (w_X2_emit_25 l X ad F17 R18 oF17 oR18 y9 0) ml_X3_66 yV_X2_emit e_X3_comparison_81 (by unfold g_rr; decide) (by decide) 25 rfl rfl rfl (Nat.le_of_ble_eq_true rfl) (fun r19 w20 h21 => ?_)
      obtain ⟨F22, R23, rfl, oF22, oR23, cF22, cR23, pr19⟩ := h21
      have fF22 : g_fr md_X3_comparison_c2 F F22 := g_fr_c fF17 cF22 rfl
      have fR23 : g_fr mr_X3_comparison_c2 R R23 := g_fr_c fR18 cR23 rfl
      refine g_pop cx rfl e_X3_comparison_84 ?_
      exact hret e_X3_comparison_85 (Nat.le_of_ble_eq_true rfl) (Nat.le_of_ble_eq_true rfl) ⟨F22, R23, rfl, oF22, oR23, fF22, fR23⟩
    · have p24 := gn_eq (-1) (-1) (gc_eq zc10) py9 (jv_k (x := (-1)) (-1) (by decide)) (by decide)
      refine g_aload_n cx 0 rfl e_X3_comparison_54 ?_
      refine g_iconst cx 1 (by decide) e_X3_comparison_55 ?_
      refine g_cVvW cx [.int 1] [] (w_X3_fail l X ad F4 R5 oF4 oR5 1) ml_X3_46 yV_X3_fail e_X3_comparison_56 (by unfold g_rr; decide) (by decide) 33 rfl rfl rfl (Nat.le_of_ble_eq_true rfl) (fun w26 h27 => ?_)
      obtain ⟨F28, R29, rfl, oF28, oR29, cF28, cR29⟩ := h27
      have fF28 : g_fr md_X3_comparison_c2 F F28 := g_fr_c fF4 cF28 rfl
      have fR29 : g_fr mr_X3_comparison_c2 R R29 := g_fr_c fR5 cR29 rfl
      exact hret e_X3_comparison_59 (Nat.le_of_ble_eq_true rfl) (Nat.le_of_ble_eq_true rfl) ⟨F28, R29, rfl, oF28, oR29, fF28, fR29⟩
  refine g_icmp_ne cx 22 e_X3_comparison_13 (by decide) (fun zc30 => ?_) (fun zc30 => ?_)
  · refine g_aload_n cx 1 rfl e_X3_comparison_22 ?_
    refine g_cViW cx [] [] (w_X3_sign l X ad F4 R5 oF4 oR5) ml_X3_42 yV_X3_sign e_X3_comparison_23 (by unfold g_rr; decide) (by decide) 33 rfl rfl rfl (Nat.le_of_ble_eq_true rfl) (fun r31 w32 h33 => ?_)
    obtain ⟨rfl, pr31⟩ := h33
    refine g_bipush cx 62 (by decide) e_X3_comparison_26 ?_
    refine g_icmp_ne cx 37 e_X3_comparison_28 (by decide) (fun zc34 => ?_) (fun zc34 => ?_)
    · refine g_aload_n cx 1 rfl e_X3_comparison_37 ?_
      refine g_cViW cx [] [] (w_X3_sign l X ad F4 R5 oF4 oR5) ml_X3_42 yV_X3_sign e_X3_comparison_38 (by unfold g_rr; decide) (by decide) 33 rfl rfl rfl (Nat.le_of_ble_eq_true rfl) (fun r35 w36 h37 => ?_)
      obtain ⟨rfl, pr35⟩ := h37
      refine g_bipush cx 61 (by decide) e_X3_comparison_41 ?_
      refine g_icmp_ne cx 49 e_X3_comparison_43 (by decide) (fun zc38 => ?_) (fun zc38 => ?_)
      · refine g_lsub [1, 2, 0] [(0, .ref (ad 33)), (1, .int 2), (2, .int (-1))] rfl ?_
        exact J49 (-1) (jv_w (jv_k (x := (-1)) (-1) (by decide)) (by decide))
      · have p39 := gn_eq 61 61 (gc_eq zc38) pr35 (jv_k (x := 61) 61 (by decide)) (by decide)
        refine g_bipush cx 13 (by decide) e_X3_comparison_46 ?_
        refine g_istore_n cx [(2, .int 13), (0, .ref (ad 33)), (1, .int 2)] e_X3_comparison_48 (by decide) rfl ?_
        refine g_lsub [1, 2, 0] [(0, .ref (ad 33)), (1, .int 2), (2, .int 13)] rfl ?_
        exact J49 13 (jv_w (jv_k (x := 13) 13 (by decide)) (by decide))
    · have p40 := gn_eq 62 62 (gc_eq zc34) pr31 (jv_k (x := 62) 62 (by decide)) (by decide)
      refine g_bipush cx 12 (by decide) e_X3_comparison_31 ?_
      refine g_istore_n cx [(2, .int 12), (0, .ref (ad 33)), (1, .int 2)] e_X3_comparison_33 (by decide) rfl ?_
      refine g_goto cx 49 e_X3_comparison_34 (by decide) ?_
      refine g_lsub [1, 2, 0] [(0, .ref (ad 33)), (1, .int 2), (2, .int 12)] rfl ?_
      exact J49 12 (jv_w (jv_k (x := 12) 12 (by decide)) (by decide))
  · have p41 := gn_eq 60 60 (gc_eq zc30) pr6 (jv_k (x := 60) 60 (by decide)) (by decide)
    refine g_bipush cx 11 (by decide) e_X3_comparison_16 ?_
    refine g_istore_n cx [(2, .int 11), (0, .ref (ad 33)), (1, .int 2)] e_X3_comparison_18 (by decide) rfl ?_
    refine g_goto cx 49 e_X3_comparison_19 (by decide) ?_
    refine g_lsub [1, 2, 0] [(0, .ref (ad 33)), (1, .int 2), (2, .int 11)] rfl ?_
    exact J49 11 (jv_w (jv_k (x := 11) 11 (by decide)) (by decide))
def md_X3_comparison_c3 : List Nat := [402, 531, 532]
def mr_X3_comparison_c3 : List Nat := [26, 27]
set_option maxHeartbeats 4000000 in
set_option maxRecDepth 100000 in
theorem w_X3_comparison_c3 (l : Launch) (X : gX) (ad : Nat → Nat) (F : Nat → Int32) (R : Nat → Nat → Int32) (hI : g_ok LK_wX F) (hA : g_okR LA_wX R) : g_Cv l X yX3_comparison cX3_comparison 3 17 0 0 [.ref (ad 33), .int 3] (wX X ad F R) (fun w => ∃ (F' : Nat → Int32) (R' : Nat → Nat → Int32), w = wX X ad F' R' ∧ g_ok LK_wX F' ∧ g_okR LA_wX R' ∧ g_fr md_X3_comparison_c3 F F' ∧ g_fr mr_X3_comparison_c3 R R') := by
  refine g_mv (by decide +kernel) (Nat.le_of_ble_eq_true rfl) (fun E cx hret => ?_)
  refine g_aload_n cx 0 rfl e_X3_comparison_0 ?_
  refine g_iload_n cx 1 rfl e_X3_comparison_1 ?_
  refine g_cVvW cx [.int 3] [] (w_X3_sum_c3 l X ad F R hI hA) ml_X3_63 yV_X3_sum e_X3_comparison_2 (by unfold g_rr; decide) (by decide) 33 rfl rfl rfl (Nat.le_of_ble_eq_true rfl) (fun w2 h3 => ?_)
  obtain ⟨F4, R5, rfl, oF4, oR5, cF4, cR5⟩ := h3
  have fF4 : g_fr md_X3_comparison_c3 F F4 := g_fr_c (g_fr_rf F) cF4 rfl
  have fR5 : g_fr mr_X3_comparison_c3 R R5 := g_fr_c (g_fr_rf R) cR5 rfl
  refine g_iconst cx (-1) (by decide) e_X3_comparison_5 ?_
  refine g_istore_n cx [(2, .int (-1)), (0, .ref (ad 33)), (1, .int 3)] e_X3_comparison_6 (by decide) rfl ?_
  refine g_aload_n cx 1 rfl e_X3_comparison_7 ?_
  refine g_cViW cx [] [] (w_X3_sign l X ad F4 R5 oF4 oR5) ml_X3_42 yV_X3_sign e_X3_comparison_8 (by unfold g_rr; decide) (by decide) 33 rfl rfl rfl (Nat.le_of_ble_eq_true rfl) (fun r6 w7 h8 => ?_)
  obtain ⟨rfl, pr6⟩ := h8
  refine g_bipush cx 60 (by decide) e_X3_comparison_11 ?_
  have J49 : ∀ (y9 : Int32), (jv (-1) 13 y9) → G X E 3 0 0 (wX X ad F4 R5) [(0, .ref (ad 33)), (1, .int 3), (2, .int y9)] 49 [] := by
    intro y9 py9
    refine g_iload_n cx 2 rfl e_X3_comparison_49 ?_
    refine g_iconst cx (-1) (by decide) e_X3_comparison_50 ?_
    refine g_icmp_ne cx 60 e_X3_comparison_51 (by decide) (fun zc10 => ?_) (fun zc10 => ?_)
    · have p11 := gn_neL 0 13 (gc_ne zc10) py9 (jv_k (x := (-1)) (-1) (by decide)) (by decide)
      refine g_aload_n cx 0 rfl e_X3_comparison_60 ?_
      refine g_dup cx rfl e_X3_comparison_61 ?_
      refine g_get cx cl_X3 fl_X3_19 33 (.int (F4 531)) e_X3_comparison_62 rfl rfl ?_
      refine g_iconst cx 1 (by decide) e_X3_comparison_65 ?_
      refine g_iadd cx e_X3_comparison_66 ?_
      refine g_topi (fun x12 ex12 => ?_)
      refine g_put cx cl_X3 fl_X3_19 33 (wX X ad (upd F4 531 x12) R5) e_X3_comparison_67 rfl rfl rfl rfl (Nat.le_of_ble_eq_true rfl) rfl ?_
      obtain ⟨F13, hF13⟩ : ∃ z, z = upd F4 531 x12 := ⟨_, rfl⟩
      rw [← hF13]
      have oF13 : g_ok LK_wX F13 := by rw [hF13]; exact g_ok_u oF4 rfl
      have fF13 : g_fr md_X3_comparison_c3 F F13 := by rw [hF13]; exact g_fr_u fF4 rfl
      refine g_aload_n cx 0 rfl e_X3_comparison_70 ?_
      refine g_iload_n cx 1 rfl e_X3_comparison_71 ?_
      refine g_cVvW cx [.int 3] [] (w_X3_sum_c3 l X ad F13 R5 oF13 oR5) ml_X3_63 yV_X3_sum e_X3_comparison_72 (by unfold g_rr; decide) (by decide) 33 rfl rfl rfl (Nat.le_of_ble_eq_true rfl) (fun w15 h16 => ?_)
      obtain ⟨F17, R18, rfl, oF17, oR18, cF17, cR18⟩ := h16
      have fF17 : g_fr md_X3_comparison_c3 F F17 := g_fr_c fF13 cF17 rfl
      have fR18 : g_fr mr_X3_comparison_c3 R R18 := g_fr_c fR5 cR18 rfl
      refine g_aload_n cx 0 rfl e_X3_comparison_75 ?_
      refine g_get cx cl_X3 fl_X3_25 33 (.ref (ad 25)) e_X3_comparison_76 rfl rfl ?_
      refine g_iload_n cx 2 rfl e_X3_comparison_79 ?_
      refine g_iconst cx 0 (by decide) e_X3_comparison_80 ?_
      refine g_cViW cx [.int y9, .int 0] [] (w_X2_emit_25 l X ad F17 R18 oF17 oR18 y9 0) ml_X3_66 yV_X2_emit e_X3_comparison_81 (by unfold g_rr; decide) (by decide) 25 rfl rfl rfl (Nat.le_of_ble_eq_true rfl) (fun r19 w20 h21 => ?_)
      obtain ⟨F22, R23, rfl, oF22, oR23, cF22, cR23, pr19⟩ := h21
      have fF22 : g_fr md_X3_comparison_c3 F F22 := g_fr_c fF17 cF22 rfl
      have fR23 : g_fr mr_X3_comparison_c3 R R23 := g_fr_c fR18 cR23 rfl
      refine g_pop cx rfl e_X3_comparison_84 ?_
      exact hret e_X3_comparison_85 (Nat.le_of_ble_eq_true rfl) (Nat.le_of_ble_eq_true rfl) ⟨F22, R23, rfl, oF22, oR23, fF22, fR23⟩
    · have p24 := gn_eq (-1) (-1) (gc_eq zc10) py9 (jv_k (x := (-1)) (-1) (by decide)) (by decide)
      refine g_aload_n cx 0 rfl e_X3_comparison_54 ?_
      refine g_iconst cx 1 (by decide) e_X3_comparison_55 ?_
      refine g_cVvW cx [.int 1] [] (w_X3_fail l X ad F4 R5 oF4 oR5 1) ml_X3_46 yV_X3_fail e_X3_comparison_56 (by unfold g_rr; decide) (by decide) 33 rfl rfl rfl (Nat.le_of_ble_eq_true rfl) (fun w26 h27 => ?_)
      obtain ⟨F28, R29, rfl, oF28, oR29, cF28, cR29⟩ := h27
      have fF28 : g_fr md_X3_comparison_c3 F F28 := g_fr_c fF4 cF28 rfl
      have fR29 : g_fr mr_X3_comparison_c3 R R29 := g_fr_c fR5 cR29 rfl
      exact hret e_X3_comparison_59 (Nat.le_of_ble_eq_true rfl) (Nat.le_of_ble_eq_true rfl) ⟨F28, R29, rfl, oF28, oR29, fF28, fR29⟩
  refine g_icmp_ne cx 22 e_X3_comparison_13 (by decide) (fun zc30 => ?_) (fun zc30 => ?_)
  · refine g_aload_n cx 1 rfl e_X3_comparison_22 ?_
    refine g_cViW cx [] [] (w_X3_sign l X ad F4 R5 oF4 oR5) ml_X3_42 yV_X3_sign e_X3_comparison_23 (by unfold g_rr; decide) (by decide) 33 rfl rfl rfl (Nat.le_of_ble_eq_true rfl) (fun r31 w32 h33 => ?_)
    obtain ⟨rfl, pr31⟩ := h33
    refine g_bipush cx 62 (by decide) e_X3_comparison_26 ?_
    refine g_icmp_ne cx 37 e_X3_comparison_28 (by decide) (fun zc34 => ?_) (fun zc34 => ?_)
    · refine g_aload_n cx 1 rfl e_X3_comparison_37 ?_
      refine g_cViW cx [] [] (w_X3_sign l X ad F4 R5 oF4 oR5) ml_X3_42 yV_X3_sign e_X3_comparison_38 (by unfold g_rr; decide) (by decide) 33 rfl rfl rfl (Nat.le_of_ble_eq_true rfl) (fun r35 w36 h37 => ?_)
      obtain ⟨rfl, pr35⟩ := h37
      refine g_bipush cx 61 (by decide) e_X3_comparison_41 ?_
      refine g_icmp_ne cx 49 e_X3_comparison_43 (by decide) (fun zc38 => ?_) (fun zc38 => ?_)
      · refine g_lsub [1, 2, 0] [(0, .ref (ad 33)), (1, .int 3), (2, .int (-1))] rfl ?_
        exact J49 (-1) (jv_w (jv_k (x := (-1)) (-1) (by decide)) (by decide))
      · have p39 := gn_eq 61 61 (gc_eq zc38) pr35 (jv_k (x := 61) 61 (by decide)) (by decide)
        refine g_bipush cx 13 (by decide) e_X3_comparison_46 ?_
        refine g_istore_n cx [(2, .int 13), (0, .ref (ad 33)), (1, .int 3)] e_X3_comparison_48 (by decide) rfl ?_
        refine g_lsub [1, 2, 0] [(0, .ref (ad 33)), (1, .int 3), (2, .int 13)] rfl ?_
        exact J49 13 (jv_w (jv_k (x := 13) 13 (by decide)) (by decide))
    · have p40 := gn_eq 62 62 (gc_eq zc34) pr31 (jv_k (x := 62) 62 (by decide)) (by decide)
      refine g_bipush cx 12 (by decide) e_X3_comparison_31 ?_
      refine g_istore_n cx [(2, .int 12), (0, .ref (ad 33)), (1, .int 3)] e_X3_comparison_33 (by decide) rfl ?_
      refine g_goto cx 49 e_X3_comparison_34 (by decide) ?_
      refine g_lsub [1, 2, 0] [(0, .ref (ad 33)), (1, .int 3), (2, .int 12)] rfl ?_
      exact J49 12 (jv_w (jv_k (x := 12) 12 (by decide)) (by decide))
  · have p41 := gn_eq 60 60 (gc_eq zc30) pr6 (jv_k (x := 60) 60 (by decide)) (by decide)
    refine g_bipush cx 11 (by decide) e_X3_comparison_16 ?_
    refine g_istore_n cx [(2, .int 11), (0, .ref (ad 33)), (1, .int 3)] e_X3_comparison_18 (by decide) rfl ?_
    refine g_goto cx 49 e_X3_comparison_19 (by decide) ?_
    refine g_lsub [1, 2, 0] [(0, .ref (ad 33)), (1, .int 3), (2, .int 11)] rfl ?_
    exact J49 11 (jv_w (jv_k (x := 11) 11 (by decide)) (by decide))
def md_X3_comparison_c4 : List Nat := [402, 531, 532]
def mr_X3_comparison_c4 : List Nat := [26, 27]
set_option maxHeartbeats 4000000 in
set_option maxRecDepth 100000 in
theorem w_X3_comparison_c4 (l : Launch) (X : gX) (ad : Nat → Nat) (F : Nat → Int32) (R : Nat → Nat → Int32) (hI : g_ok LK_wX F) (hA : g_okR LA_wX R) : g_Cv l X yX3_comparison cX3_comparison 3 14 0 0 [.ref (ad 33), .int 4] (wX X ad F R) (fun w => ∃ (F' : Nat → Int32) (R' : Nat → Nat → Int32), w = wX X ad F' R' ∧ g_ok LK_wX F' ∧ g_okR LA_wX R' ∧ g_fr md_X3_comparison_c4 F F' ∧ g_fr mr_X3_comparison_c4 R R') := by
  refine g_mv (by decide +kernel) (Nat.le_of_ble_eq_true rfl) (fun E cx hret => ?_)
  refine g_aload_n cx 0 rfl e_X3_comparison_0 ?_
  refine g_iload_n cx 1 rfl e_X3_comparison_1 ?_
  refine g_cVvW cx [.int 4] [] (w_X3_sum_c4 l X ad F R hI hA) ml_X3_63 yV_X3_sum e_X3_comparison_2 (by unfold g_rr; decide) (by decide) 33 rfl rfl rfl (Nat.le_of_ble_eq_true rfl) (fun w2 h3 => ?_)
  obtain ⟨F4, R5, rfl, oF4, oR5, cF4, cR5⟩ := h3
  have fF4 : g_fr md_X3_comparison_c4 F F4 := g_fr_c (g_fr_rf F) cF4 rfl
  have fR5 : g_fr mr_X3_comparison_c4 R R5 := g_fr_c (g_fr_rf R) cR5 rfl
  refine g_iconst cx (-1) (by decide) e_X3_comparison_5 ?_
  refine g_istore_n cx [(2, .int (-1)), (0, .ref (ad 33)), (1, .int 4)] e_X3_comparison_6 (by decide) rfl ?_
  refine g_aload_n cx 1 rfl e_X3_comparison_7 ?_
  refine g_cViW cx [] [] (w_X3_sign l X ad F4 R5 oF4 oR5) ml_X3_42 yV_X3_sign e_X3_comparison_8 (by unfold g_rr; decide) (by decide) 33 rfl rfl rfl (Nat.le_of_ble_eq_true rfl) (fun r6 w7 h8 => ?_)
  obtain ⟨rfl, pr6⟩ := h8
  refine g_bipush cx 60 (by decide) e_X3_comparison_11 ?_
  have J49 : ∀ (y9 : Int32), (jv (-1) 13 y9) → G X E 3 0 0 (wX X ad F4 R5) [(0, .ref (ad 33)), (1, .int 4), (2, .int y9)] 49 [] := by
    intro y9 py9
    refine g_iload_n cx 2 rfl e_X3_comparison_49 ?_
    refine g_iconst cx (-1) (by decide) e_X3_comparison_50 ?_
    refine g_icmp_ne cx 60 e_X3_comparison_51 (by decide) (fun zc10 => ?_) (fun zc10 => ?_)
    · have p11 := gn_neL 0 13 (gc_ne zc10) py9 (jv_k (x := (-1)) (-1) (by decide)) (by decide)
      refine g_aload_n cx 0 rfl e_X3_comparison_60 ?_
      refine g_dup cx rfl e_X3_comparison_61 ?_
      refine g_get cx cl_X3 fl_X3_19 33 (.int (F4 531)) e_X3_comparison_62 rfl rfl ?_
      refine g_iconst cx 1 (by decide) e_X3_comparison_65 ?_
      refine g_iadd cx e_X3_comparison_66 ?_
      refine g_topi (fun x12 ex12 => ?_)
      refine g_put cx cl_X3 fl_X3_19 33 (wX X ad (upd F4 531 x12) R5) e_X3_comparison_67 rfl rfl rfl rfl (Nat.le_of_ble_eq_true rfl) rfl ?_
      obtain ⟨F13, hF13⟩ : ∃ z, z = upd F4 531 x12 := ⟨_, rfl⟩
      rw [← hF13]
      have oF13 : g_ok LK_wX F13 := by rw [hF13]; exact g_ok_u oF4 rfl
      have fF13 : g_fr md_X3_comparison_c4 F F13 := by rw [hF13]; exact g_fr_u fF4 rfl
      refine g_aload_n cx 0 rfl e_X3_comparison_70 ?_
      refine g_iload_n cx 1 rfl e_X3_comparison_71 ?_
      refine g_cVvW cx [.int 4] [] (w_X3_sum_c4 l X ad F13 R5 oF13 oR5) ml_X3_63 yV_X3_sum e_X3_comparison_72 (by unfold g_rr; decide) (by decide) 33 rfl rfl rfl (Nat.le_of_ble_eq_true rfl) (fun w15 h16 => ?_)
      obtain ⟨F17, R18, rfl, oF17, oR18, cF17, cR18⟩ := h16
      have fF17 : g_fr md_X3_comparison_c4 F F17 := g_fr_c fF13 cF17 rfl
      have fR18 : g_fr mr_X3_comparison_c4 R R18 := g_fr_c fR5 cR18 rfl
      refine g_aload_n cx 0 rfl e_X3_comparison_75 ?_
      refine g_get cx cl_X3 fl_X3_25 33 (.ref (ad 25)) e_X3_comparison_76 rfl rfl ?_
      refine g_iload_n cx 2 rfl e_X3_comparison_79 ?_
      refine g_iconst cx 0 (by decide) e_X3_comparison_80 ?_
      refine g_cViW cx [.int y9, .int 0] [] (w_X2_emit_25 l X ad F17 R18 oF17 oR18 y9 0) ml_X3_66 yV_X2_emit e_X3_comparison_81 (by unfold g_rr; decide) (by decide) 25 rfl rfl rfl (Nat.le_of_ble_eq_true rfl) (fun r19 w20 h21 => ?_)
      obtain ⟨F22, R23, rfl, oF22, oR23, cF22, cR23, pr19⟩ := h21
      have fF22 : g_fr md_X3_comparison_c4 F F22 := g_fr_c fF17 cF22 rfl
      have fR23 : g_fr mr_X3_comparison_c4 R R23 := g_fr_c fR18 cR23 rfl
      refine g_pop cx rfl e_X3_comparison_84 ?_
      exact hret e_X3_comparison_85 (Nat.le_of_ble_eq_true rfl) (Nat.le_of_ble_eq_true rfl) ⟨F22, R23, rfl, oF22, oR23, fF22, fR23⟩
    · have p24 := gn_eq (-1) (-1) (gc_eq zc10) py9 (jv_k (x := (-1)) (-1) (by decide)) (by decide)
      refine g_aload_n cx 0 rfl e_X3_comparison_54 ?_
      refine g_iconst cx 1 (by decide) e_X3_comparison_55 ?_
      refine g_cVvW cx [.int 1] [] (w_X3_fail l X ad F4 R5 oF4 oR5 1) ml_X3_46 yV_X3_fail e_X3_comparison_56 (by unfold g_rr; decide) (by decide) 33 rfl rfl rfl (Nat.le_of_ble_eq_true rfl) (fun w26 h27 => ?_)
      obtain ⟨F28, R29, rfl, oF28, oR29, cF28, cR29⟩ := h27
      have fF28 : g_fr md_X3_comparison_c4 F F28 := g_fr_c fF4 cF28 rfl
      have fR29 : g_fr mr_X3_comparison_c4 R R29 := g_fr_c fR5 cR29 rfl
      exact hret e_X3_comparison_59 (Nat.le_of_ble_eq_true rfl) (Nat.le_of_ble_eq_true rfl) ⟨F28, R29, rfl, oF28, oR29, fF28, fR29⟩
  refine g_icmp_ne cx 22 e_X3_comparison_13 (by decide) (fun zc30 => ?_) (fun zc30 => ?_)
  · refine g_aload_n cx 1 rfl e_X3_comparison_22 ?_
    refine g_cViW cx [] [] (w_X3_sign l X ad F4 R5 oF4 oR5) ml_X3_42 yV_X3_sign e_X3_comparison_23 (by unfold g_rr; decide) (by decide) 33 rfl rfl rfl (Nat.le_of_ble_eq_true rfl) (fun r31 w32 h33 => ?_)
    obtain ⟨rfl, pr31⟩ := h33
    refine g_bipush cx 62 (by decide) e_X3_comparison_26 ?_
    refine g_icmp_ne cx 37 e_X3_comparison_28 (by decide) (fun zc34 => ?_) (fun zc34 => ?_)
    · refine g_aload_n cx 1 rfl e_X3_comparison_37 ?_
      refine g_cViW cx [] [] (w_X3_sign l X ad F4 R5 oF4 oR5) ml_X3_42 yV_X3_sign e_X3_comparison_38 (by unfold g_rr; decide) (by decide) 33 rfl rfl rfl (Nat.le_of_ble_eq_true rfl) (fun r35 w36 h37 => ?_)
      obtain ⟨rfl, pr35⟩ := h37
      refine g_bipush cx 61 (by decide) e_X3_comparison_41 ?_
      refine g_icmp_ne cx 49 e_X3_comparison_43 (by decide) (fun zc38 => ?_) (fun zc38 => ?_)
      · refine g_lsub [1, 2, 0] [(0, .ref (ad 33)), (1, .int 4), (2, .int (-1))] rfl ?_
        exact J49 (-1) (jv_w (jv_k (x := (-1)) (-1) (by decide)) (by decide))
      · have p39 := gn_eq 61 61 (gc_eq zc38) pr35 (jv_k (x := 61) 61 (by decide)) (by decide)
        refine g_bipush cx 13 (by decide) e_X3_comparison_46 ?_
        refine g_istore_n cx [(2, .int 13), (0, .ref (ad 33)), (1, .int 4)] e_X3_comparison_48 (by decide) rfl ?_
        refine g_lsub [1, 2, 0] [(0, .ref (ad 33)), (1, .int 4), (2, .int 13)] rfl ?_
        exact J49 13 (jv_w (jv_k (x := 13) 13 (by decide)) (by decide))
    · have p40 := gn_eq 62 62 (gc_eq zc34) pr31 (jv_k (x := 62) 62 (by decide)) (by decide)
      refine g_bipush cx 12 (by decide) e_X3_comparison_31 ?_
      refine g_istore_n cx [(2, .int 12), (0, .ref (ad 33)), (1, .int 4)] e_X3_comparison_33 (by decide) rfl ?_
      refine g_goto cx 49 e_X3_comparison_34 (by decide) ?_
      refine g_lsub [1, 2, 0] [(0, .ref (ad 33)), (1, .int 4), (2, .int 12)] rfl ?_
      exact J49 12 (jv_w (jv_k (x := 12) 12 (by decide)) (by decide))
  · have p41 := gn_eq 60 60 (gc_eq zc30) pr6 (jv_k (x := 60) 60 (by decide)) (by decide)
    refine g_bipush cx 11 (by decide) e_X3_comparison_16 ?_
    refine g_istore_n cx [(2, .int 11), (0, .ref (ad 33)), (1, .int 4)] e_X3_comparison_18 (by decide) rfl ?_
    refine g_goto cx 49 e_X3_comparison_19 (by decide) ?_
    refine g_lsub [1, 2, 0] [(0, .ref (ad 33)), (1, .int 4), (2, .int 11)] rfl ?_
    exact J49 11 (jv_w (jv_k (x := 11) 11 (by decide)) (by decide))
def md_X3_comparison_c5 : List Nat := [402, 531, 532]
def mr_X3_comparison_c5 : List Nat := [26, 27]
set_option maxHeartbeats 4000000 in
set_option maxRecDepth 100000 in
theorem w_X3_comparison_c5 (l : Launch) (X : gX) (ad : Nat → Nat) (F : Nat → Int32) (R : Nat → Nat → Int32) (hI : g_ok LK_wX F) (hA : g_okR LA_wX R) : g_Cv l X yX3_comparison cX3_comparison 3 11 0 0 [.ref (ad 33), .int 5] (wX X ad F R) (fun w => ∃ (F' : Nat → Int32) (R' : Nat → Nat → Int32), w = wX X ad F' R' ∧ g_ok LK_wX F' ∧ g_okR LA_wX R' ∧ g_fr md_X3_comparison_c5 F F' ∧ g_fr mr_X3_comparison_c5 R R') := by
  refine g_mv (by decide +kernel) (Nat.le_of_ble_eq_true rfl) (fun E cx hret => ?_)
  refine g_aload_n cx 0 rfl e_X3_comparison_0 ?_
  refine g_iload_n cx 1 rfl e_X3_comparison_1 ?_
  refine g_cVvW cx [.int 5] [] (w_X3_sum_c5 l X ad F R hI hA) ml_X3_63 yV_X3_sum e_X3_comparison_2 (by unfold g_rr; decide) (by decide) 33 rfl rfl rfl (Nat.le_of_ble_eq_true rfl) (fun w2 h3 => ?_)
  obtain ⟨F4, R5, rfl, oF4, oR5, cF4, cR5⟩ := h3
  have fF4 : g_fr md_X3_comparison_c5 F F4 := g_fr_c (g_fr_rf F) cF4 rfl
  have fR5 : g_fr mr_X3_comparison_c5 R R5 := g_fr_c (g_fr_rf R) cR5 rfl
  refine g_iconst cx (-1) (by decide) e_X3_comparison_5 ?_
  refine g_istore_n cx [(2, .int (-1)), (0, .ref (ad 33)), (1, .int 5)] e_X3_comparison_6 (by decide) rfl ?_
  refine g_aload_n cx 1 rfl e_X3_comparison_7 ?_
  refine g_cViW cx [] [] (w_X3_sign l X ad F4 R5 oF4 oR5) ml_X3_42 yV_X3_sign e_X3_comparison_8 (by unfold g_rr; decide) (by decide) 33 rfl rfl rfl (Nat.le_of_ble_eq_true rfl) (fun r6 w7 h8 => ?_)
  obtain ⟨rfl, pr6⟩ := h8
  refine g_bipush cx 60 (by decide) e_X3_comparison_11 ?_
  have J49 : ∀ (y9 : Int32), (jv (-1) 13 y9) → G X E 3 0 0 (wX X ad F4 R5) [(0, .ref (ad 33)), (1, .int 5), (2, .int y9)] 49 [] := by
    intro y9 py9
    refine g_iload_n cx 2 rfl e_X3_comparison_49 ?_
    refine g_iconst cx (-1) (by decide) e_X3_comparison_50 ?_
    refine g_icmp_ne cx 60 e_X3_comparison_51 (by decide) (fun zc10 => ?_) (fun zc10 => ?_)
    · have p11 := gn_neL 0 13 (gc_ne zc10) py9 (jv_k (x := (-1)) (-1) (by decide)) (by decide)
      refine g_aload_n cx 0 rfl e_X3_comparison_60 ?_
      refine g_dup cx rfl e_X3_comparison_61 ?_
      refine g_get cx cl_X3 fl_X3_19 33 (.int (F4 531)) e_X3_comparison_62 rfl rfl ?_
      refine g_iconst cx 1 (by decide) e_X3_comparison_65 ?_
      refine g_iadd cx e_X3_comparison_66 ?_
      refine g_topi (fun x12 ex12 => ?_)
      refine g_put cx cl_X3 fl_X3_19 33 (wX X ad (upd F4 531 x12) R5) e_X3_comparison_67 rfl rfl rfl rfl (Nat.le_of_ble_eq_true rfl) rfl ?_
      obtain ⟨F13, hF13⟩ : ∃ z, z = upd F4 531 x12 := ⟨_, rfl⟩
      rw [← hF13]
      have oF13 : g_ok LK_wX F13 := by rw [hF13]; exact g_ok_u oF4 rfl
      have fF13 : g_fr md_X3_comparison_c5 F F13 := by rw [hF13]; exact g_fr_u fF4 rfl
      refine g_aload_n cx 0 rfl e_X3_comparison_70 ?_
      refine g_iload_n cx 1 rfl e_X3_comparison_71 ?_
      refine g_cVvW cx [.int 5] [] (w_X3_sum_c5 l X ad F13 R5 oF13 oR5) ml_X3_63 yV_X3_sum e_X3_comparison_72 (by unfold g_rr; decide) (by decide) 33 rfl rfl rfl (Nat.le_of_ble_eq_true rfl) (fun w15 h16 => ?_)
      obtain ⟨F17, R18, rfl, oF17, oR18, cF17, cR18⟩ := h16
      have fF17 : g_fr md_X3_comparison_c5 F F17 := g_fr_c fF13 cF17 rfl
      have fR18 : g_fr mr_X3_comparison_c5 R R18 := g_fr_c fR5 cR18 rfl
      refine g_aload_n cx 0 rfl e_X3_comparison_75 ?_
      refine g_get cx cl_X3 fl_X3_25 33 (.ref (ad 25)) e_X3_comparison_76 rfl rfl ?_
      refine g_iload_n cx 2 rfl e_X3_comparison_79 ?_
      refine g_iconst cx 0 (by decide) e_X3_comparison_80 ?_
      refine g_cViW cx [.int y9, .int 0] [] (w_X2_emit_25 l X ad F17 R18 oF17 oR18 y9 0) ml_X3_66 yV_X2_emit e_X3_comparison_81 (by unfold g_rr; decide) (by decide) 25 rfl rfl rfl (Nat.le_of_ble_eq_true rfl) (fun r19 w20 h21 => ?_)
      obtain ⟨F22, R23, rfl, oF22, oR23, cF22, cR23, pr19⟩ := h21
      have fF22 : g_fr md_X3_comparison_c5 F F22 := g_fr_c fF17 cF22 rfl
      have fR23 : g_fr mr_X3_comparison_c5 R R23 := g_fr_c fR18 cR23 rfl
      refine g_pop cx rfl e_X3_comparison_84 ?_
      exact hret e_X3_comparison_85 (Nat.le_of_ble_eq_true rfl) (Nat.le_of_ble_eq_true rfl) ⟨F22, R23, rfl, oF22, oR23, fF22, fR23⟩
    · have p24 := gn_eq (-1) (-1) (gc_eq zc10) py9 (jv_k (x := (-1)) (-1) (by decide)) (by decide)
      refine g_aload_n cx 0 rfl e_X3_comparison_54 ?_
      refine g_iconst cx 1 (by decide) e_X3_comparison_55 ?_
      refine g_cVvW cx [.int 1] [] (w_X3_fail l X ad F4 R5 oF4 oR5 1) ml_X3_46 yV_X3_fail e_X3_comparison_56 (by unfold g_rr; decide) (by decide) 33 rfl rfl rfl (Nat.le_of_ble_eq_true rfl) (fun w26 h27 => ?_)
      obtain ⟨F28, R29, rfl, oF28, oR29, cF28, cR29⟩ := h27
      have fF28 : g_fr md_X3_comparison_c5 F F28 := g_fr_c fF4 cF28 rfl
      have fR29 : g_fr mr_X3_comparison_c5 R R29 := g_fr_c fR5 cR29 rfl
      exact hret e_X3_comparison_59 (Nat.le_of_ble_eq_true rfl) (Nat.le_of_ble_eq_true rfl) ⟨F28, R29, rfl, oF28, oR29, fF28, fR29⟩
  refine g_icmp_ne cx 22 e_X3_comparison_13 (by decide) (fun zc30 => ?_) (fun zc30 => ?_)
  · refine g_aload_n cx 1 rfl e_X3_comparison_22 ?_
    refine g_cViW cx [] [] (w_X3_sign l X ad F4 R5 oF4 oR5) ml_X3_42 yV_X3_sign e_X3_comparison_23 (by unfold g_rr; decide) (by decide) 33 rfl rfl rfl (Nat.le_of_ble_eq_true rfl) (fun r31 w32 h33 => ?_)
    obtain ⟨rfl, pr31⟩ := h33
    refine g_bipush cx 62 (by decide) e_X3_comparison_26 ?_
    refine g_icmp_ne cx 37 e_X3_comparison_28 (by decide) (fun zc34 => ?_) (fun zc34 => ?_)
    · refine g_aload_n cx 1 rfl e_X3_comparison_37 ?_
      refine g_cViW cx [] [] (w_X3_sign l X ad F4 R5 oF4 oR5) ml_X3_42 yV_X3_sign e_X3_comparison_38 (by unfold g_rr; decide) (by decide) 33 rfl rfl rfl (Nat.le_of_ble_eq_true rfl) (fun r35 w36 h37 => ?_)
      obtain ⟨rfl, pr35⟩ := h37
      refine g_bipush cx 61 (by decide) e_X3_comparison_41 ?_
      refine g_icmp_ne cx 49 e_X3_comparison_43 (by decide) (fun zc38 => ?_) (fun zc38 => ?_)
      · refine g_lsub [1, 2, 0] [(0, .ref (ad 33)), (1, .int 5), (2, .int (-1))] rfl ?_
        exact J49 (-1) (jv_w (jv_k (x := (-1)) (-1) (by decide)) (by decide))
      · have p39 := gn_eq 61 61 (gc_eq zc38) pr35 (jv_k (x := 61) 61 (by decide)) (by decide)
        refine g_bipush cx 13 (by decide) e_X3_comparison_46 ?_
        refine g_istore_n cx [(2, .int 13), (0, .ref (ad 33)), (1, .int 5)] e_X3_comparison_48 (by decide) rfl ?_
        refine g_lsub [1, 2, 0] [(0, .ref (ad 33)), (1, .int 5), (2, .int 13)] rfl ?_
        exact J49 13 (jv_w (jv_k (x := 13) 13 (by decide)) (by decide))
    · have p40 := gn_eq 62 62 (gc_eq zc34) pr31 (jv_k (x := 62) 62 (by decide)) (by decide)
      refine g_bipush cx 12 (by decide) e_X3_comparison_31 ?_
      refine g_istore_n cx [(2, .int 12), (0, .ref (ad 33)), (1, .int 5)] e_X3_comparison_33 (by decide) rfl ?_
      refine g_goto cx 49 e_X3_comparison_34 (by decide) ?_
      refine g_lsub [1, 2, 0] [(0, .ref (ad 33)), (1, .int 5), (2, .int 12)] rfl ?_
      exact J49 12 (jv_w (jv_k (x := 12) 12 (by decide)) (by decide))
  · have p41 := gn_eq 60 60 (gc_eq zc30) pr6 (jv_k (x := 60) 60 (by decide)) (by decide)
    refine g_bipush cx 11 (by decide) e_X3_comparison_16 ?_
    refine g_istore_n cx [(2, .int 11), (0, .ref (ad 33)), (1, .int 5)] e_X3_comparison_18 (by decide) rfl ?_
    refine g_goto cx 49 e_X3_comparison_19 (by decide) ?_
    refine g_lsub [1, 2, 0] [(0, .ref (ad 33)), (1, .int 5), (2, .int 11)] rfl ?_
    exact J49 11 (jv_w (jv_k (x := 11) 11 (by decide)) (by decide))
def md_X3_comparison_c6 : List Nat := [402, 531, 532]
def mr_X3_comparison_c6 : List Nat := [26, 27]
set_option maxHeartbeats 4000000 in
set_option maxRecDepth 100000 in
theorem w_X3_comparison_c6 (l : Launch) (X : gX) (ad : Nat → Nat) (F : Nat → Int32) (R : Nat → Nat → Int32) (hI : g_ok LK_wX F) (hA : g_okR LA_wX R) : g_Cv l X yX3_comparison cX3_comparison 3 8 0 0 [.ref (ad 33), .int 6] (wX X ad F R) (fun w => ∃ (F' : Nat → Int32) (R' : Nat → Nat → Int32), w = wX X ad F' R' ∧ g_ok LK_wX F' ∧ g_okR LA_wX R' ∧ g_fr md_X3_comparison_c6 F F' ∧ g_fr mr_X3_comparison_c6 R R') := by
  refine g_mv (by decide +kernel) (Nat.le_of_ble_eq_true rfl) (fun E cx hret => ?_)
  refine g_aload_n cx 0 rfl e_X3_comparison_0 ?_
  refine g_iload_n cx 1 rfl e_X3_comparison_1 ?_
  refine g_cVvW cx [.int 6] [] (w_X3_sum_c6 l X ad F R hI hA) ml_X3_63 yV_X3_sum e_X3_comparison_2 (by unfold g_rr; decide) (by decide) 33 rfl rfl rfl (Nat.le_of_ble_eq_true rfl) (fun w2 h3 => ?_)
  obtain ⟨F4, R5, rfl, oF4, oR5, cF4, cR5⟩ := h3
  have fF4 : g_fr md_X3_comparison_c6 F F4 := g_fr_c (g_fr_rf F) cF4 rfl
  have fR5 : g_fr mr_X3_comparison_c6 R R5 := g_fr_c (g_fr_rf R) cR5 rfl
  refine g_iconst cx (-1) (by decide) e_X3_comparison_5 ?_
  refine g_istore_n cx [(2, .int (-1)), (0, .ref (ad 33)), (1, .int 6)] e_X3_comparison_6 (by decide) rfl ?_
  refine g_aload_n cx 1 rfl e_X3_comparison_7 ?_
  refine g_cViW cx [] [] (w_X3_sign l X ad F4 R5 oF4 oR5) ml_X3_42 yV_X3_sign e_X3_comparison_8 (by unfold g_rr; decide) (by decide) 33 rfl rfl rfl (Nat.le_of_ble_eq_true rfl) (fun r6 w7 h8 => ?_)
  obtain ⟨rfl, pr6⟩ := h8
  refine g_bipush cx 60 (by decide) e_X3_comparison_11 ?_
  have J49 : ∀ (y9 : Int32), (jv (-1) 13 y9) → G X E 3 0 0 (wX X ad F4 R5) [(0, .ref (ad 33)), (1, .int 6), (2, .int y9)] 49 [] := by
    intro y9 py9
    refine g_iload_n cx 2 rfl e_X3_comparison_49 ?_
    refine g_iconst cx (-1) (by decide) e_X3_comparison_50 ?_
    refine g_icmp_ne cx 60 e_X3_comparison_51 (by decide) (fun zc10 => ?_) (fun zc10 => ?_)
    · have p11 := gn_neL 0 13 (gc_ne zc10) py9 (jv_k (x := (-1)) (-1) (by decide)) (by decide)
      refine g_aload_n cx 0 rfl e_X3_comparison_60 ?_
      refine g_dup cx rfl e_X3_comparison_61 ?_
      refine g_get cx cl_X3 fl_X3_19 33 (.int (F4 531)) e_X3_comparison_62 rfl rfl ?_
      refine g_iconst cx 1 (by decide) e_X3_comparison_65 ?_
      refine g_iadd cx e_X3_comparison_66 ?_
      refine g_topi (fun x12 ex12 => ?_)
      refine g_put cx cl_X3 fl_X3_19 33 (wX X ad (upd F4 531 x12) R5) e_X3_comparison_67 rfl rfl rfl rfl (Nat.le_of_ble_eq_true rfl) rfl ?_
      obtain ⟨F13, hF13⟩ : ∃ z, z = upd F4 531 x12 := ⟨_, rfl⟩
      rw [← hF13]
      have oF13 : g_ok LK_wX F13 := by rw [hF13]; exact g_ok_u oF4 rfl
      have fF13 : g_fr md_X3_comparison_c6 F F13 := by rw [hF13]; exact g_fr_u fF4 rfl
      refine g_aload_n cx 0 rfl e_X3_comparison_70 ?_
      refine g_iload_n cx 1 rfl e_X3_comparison_71 ?_
      refine g_cVvW cx [.int 6] [] (w_X3_sum_c6 l X ad F13 R5 oF13 oR5) ml_X3_63 yV_X3_sum e_X3_comparison_72 (by unfold g_rr; decide) (by decide) 33 rfl rfl rfl (Nat.le_of_ble_eq_true rfl) (fun w15 h16 => ?_)
      obtain ⟨F17, R18, rfl, oF17, oR18, cF17, cR18⟩ := h16
      have fF17 : g_fr md_X3_comparison_c6 F F17 := g_fr_c fF13 cF17 rfl
      have fR18 : g_fr mr_X3_comparison_c6 R R18 := g_fr_c fR5 cR18 rfl
      refine g_aload_n cx 0 rfl e_X3_comparison_75 ?_
      refine g_get cx cl_X3 fl_X3_25 33 (.ref (ad 25)) e_X3_comparison_76 rfl rfl ?_
      refine g_iload_n cx 2 rfl e_X3_comparison_79 ?_
      refine g_iconst cx 0 (by decide) e_X3_comparison_80 ?_
      refine g_cViW cx [.int y9, .int 0] [] (w_X2_emit_25 l X ad F17 R18 oF17 oR18 y9 0) ml_X3_66 yV_X2_emit e_X3_comparison_81 (by unfold g_rr; decide) (by decide) 25 rfl rfl rfl (Nat.le_of_ble_eq_true rfl) (fun r19 w20 h21 => ?_)
      obtain ⟨F22, R23, rfl, oF22, oR23, cF22, cR23, pr19⟩ := h21
      have fF22 : g_fr md_X3_comparison_c6 F F22 := g_fr_c fF17 cF22 rfl
      have fR23 : g_fr mr_X3_comparison_c6 R R23 := g_fr_c fR18 cR23 rfl
      refine g_pop cx rfl e_X3_comparison_84 ?_
      exact hret e_X3_comparison_85 (Nat.le_of_ble_eq_true rfl) (Nat.le_of_ble_eq_true rfl) ⟨F22, R23, rfl, oF22, oR23, fF22, fR23⟩
    · have p24 := gn_eq (-1) (-1) (gc_eq zc10) py9 (jv_k (x := (-1)) (-1) (by decide)) (by decide)
      refine g_aload_n cx 0 rfl e_X3_comparison_54 ?_
      refine g_iconst cx 1 (by decide) e_X3_comparison_55 ?_
      refine g_cVvW cx [.int 1] [] (w_X3_fail l X ad F4 R5 oF4 oR5 1) ml_X3_46 yV_X3_fail e_X3_comparison_56 (by unfold g_rr; decide) (by decide) 33 rfl rfl rfl (Nat.le_of_ble_eq_true rfl) (fun w26 h27 => ?_)
      obtain ⟨F28, R29, rfl, oF28, oR29, cF28, cR29⟩ := h27
      have fF28 : g_fr md_X3_comparison_c6 F F28 := g_fr_c fF4 cF28 rfl
      have fR29 : g_fr mr_X3_comparison_c6 R R29 := g_fr_c fR5 cR29 rfl
      exact hret e_X3_comparison_59 (Nat.le_of_ble_eq_true rfl) (Nat.le_of_ble_eq_true rfl) ⟨F28, R29, rfl, oF28, oR29, fF28, fR29⟩
  refine g_icmp_ne cx 22 e_X3_comparison_13 (by decide) (fun zc30 => ?_) (fun zc30 => ?_)
  · refine g_aload_n cx 1 rfl e_X3_comparison_22 ?_
    refine g_cViW cx [] [] (w_X3_sign l X ad F4 R5 oF4 oR5) ml_X3_42 yV_X3_sign e_X3_comparison_23 (by unfold g_rr; decide) (by decide) 33 rfl rfl rfl (Nat.le_of_ble_eq_true rfl) (fun r31 w32 h33 => ?_)
    obtain ⟨rfl, pr31⟩ := h33
    refine g_bipush cx 62 (by decide) e_X3_comparison_26 ?_
    refine g_icmp_ne cx 37 e_X3_comparison_28 (by decide) (fun zc34 => ?_) (fun zc34 => ?_)
    · refine g_aload_n cx 1 rfl e_X3_comparison_37 ?_
      refine g_cViW cx [] [] (w_X3_sign l X ad F4 R5 oF4 oR5) ml_X3_42 yV_X3_sign e_X3_comparison_38 (by unfold g_rr; decide) (by decide) 33 rfl rfl rfl (Nat.le_of_ble_eq_true rfl) (fun r35 w36 h37 => ?_)
      obtain ⟨rfl, pr35⟩ := h37
      refine g_bipush cx 61 (by decide) e_X3_comparison_41 ?_
      refine g_icmp_ne cx 49 e_X3_comparison_43 (by decide) (fun zc38 => ?_) (fun zc38 => ?_)
      · refine g_lsub [1, 2, 0] [(0, .ref (ad 33)), (1, .int 6), (2, .int (-1))] rfl ?_
        exact J49 (-1) (jv_w (jv_k (x := (-1)) (-1) (by decide)) (by decide))
      · have p39 := gn_eq 61 61 (gc_eq zc38) pr35 (jv_k (x := 61) 61 (by decide)) (by decide)
        refine g_bipush cx 13 (by decide) e_X3_comparison_46 ?_
        refine g_istore_n cx [(2, .int 13), (0, .ref (ad 33)), (1, .int 6)] e_X3_comparison_48 (by decide) rfl ?_
        refine g_lsub [1, 2, 0] [(0, .ref (ad 33)), (1, .int 6), (2, .int 13)] rfl ?_
        exact J49 13 (jv_w (jv_k (x := 13) 13 (by decide)) (by decide))
    · have p40 := gn_eq 62 62 (gc_eq zc34) pr31 (jv_k (x := 62) 62 (by decide)) (by decide)
      refine g_bipush cx 12 (by decide) e_X3_comparison_31 ?_
      refine g_istore_n cx [(2, .int 12), (0, .ref (ad 33)), (1, .int 6)] e_X3_comparison_33 (by decide) rfl ?_
      refine g_goto cx 49 e_X3_comparison_34 (by decide) ?_
      refine g_lsub [1, 2, 0] [(0, .ref (ad 33)), (1, .int 6), (2, .int 12)] rfl ?_
      exact J49 12 (jv_w (jv_k (x := 12) 12 (by decide)) (by decide))
  · have p41 := gn_eq 60 60 (gc_eq zc30) pr6 (jv_k (x := 60) 60 (by decide)) (by decide)
    refine g_bipush cx 11 (by decide) e_X3_comparison_16 ?_
    refine g_istore_n cx [(2, .int 11), (0, .ref (ad 33)), (1, .int 6)] e_X3_comparison_18 (by decide) rfl ?_
    refine g_goto cx 49 e_X3_comparison_19 (by decide) ?_
    refine g_lsub [1, 2, 0] [(0, .ref (ad 33)), (1, .int 6), (2, .int 11)] rfl ?_
    exact J49 11 (jv_w (jv_k (x := 11) 11 (by decide)) (by decide))
theorem e_X3_piece_0 : g_dc cX3_piece 0 (.aload_n 0) 1 1 := ⟨by decide +kernel, rfl⟩
theorem e_X3_piece_1 : g_dc cX3_piece 1 (.invokevirtual 42) 3 4 := ⟨by decide +kernel, rfl⟩
theorem e_X3_piece_4 : g_dc cX3_piece 4 (.bipush 33) 2 6 := ⟨by decide +kernel, rfl⟩
theorem e_X3_piece_6 : g_dc cX3_piece 6 (.if_icmp .ne 31) 3 9 := ⟨by decide +kernel, rfl⟩
theorem e_X3_piece_9 : g_dc cX3_piece 9 (.aload_n 0) 1 10 := ⟨by decide +kernel, rfl⟩
theorem e_X3_piece_10 : g_dc cX3_piece 10 (.iload_n 1) 1 11 := ⟨by decide +kernel, rfl⟩
theorem e_X3_piece_11 : g_dc cX3_piece 11 (.invokevirtual 89) 3 14 := ⟨by decide +kernel, rfl⟩
theorem e_X3_piece_14 : g_dc cX3_piece 14 (.ifCond .eq 61) 3 17 := ⟨by decide +kernel, rfl⟩
theorem e_X3_piece_37 : g_dc cX3_piece 37 (.aload_n 0) 1 38 := ⟨by decide +kernel, rfl⟩
theorem e_X3_piece_38 : g_dc cX3_piece 38 (.invokevirtual 42) 3 41 := ⟨by decide +kernel, rfl⟩
theorem e_X3_piece_41 : g_dc cX3_piece 41 (.bipush 40) 2 43 := ⟨by decide +kernel, rfl⟩
theorem e_X3_piece_43 : g_dc cX3_piece 43 (.if_icmp .ne 27) 3 46 := ⟨by decide +kernel, rfl⟩
theorem e_X3_piece_46 : g_dc cX3_piece 46 (.aload_n 0) 1 47 := ⟨by decide +kernel, rfl⟩
theorem e_X3_piece_47 : g_dc cX3_piece 47 (.iload_n 1) 1 48 := ⟨by decide +kernel, rfl⟩
theorem e_X3_piece_48 : g_dc cX3_piece 48 (.invokevirtual 89) 3 51 := ⟨by decide +kernel, rfl⟩
theorem e_X3_piece_51 : g_dc cX3_piece 51 (.ifCond .eq 24) 3 54 := ⟨by decide +kernel, rfl⟩
theorem e_X3_piece_70 : g_dc cX3_piece 70 (.aload_n 0) 1 71 := ⟨by decide +kernel, rfl⟩
theorem e_X3_piece_71 : g_dc cX3_piece 71 (.iload_n 1) 1 72 := ⟨by decide +kernel, rfl⟩
theorem e_X3_piece_72 : g_dc cX3_piece 72 (.invokevirtual 93) 3 75 := ⟨by decide +kernel, rfl⟩
theorem e_X3_piece_75 : g_dc cX3_piece 75 (.return_) 1 76 := ⟨by decide +kernel, rfl⟩
def md_X3_piece_c6 : List Nat := [402, 531, 532]
def mr_X3_piece_c6 : List Nat := [26, 27]
set_option maxHeartbeats 4000000 in
set_option maxRecDepth 100000 in
theorem w_X3_piece_c6 (l : Launch) (X : gX) (ad : Nat → Nat) (F : Nat → Int32) (R : Nat → Nat → Int32) (hI : g_ok LK_wX F) (hA : g_okR LA_wX R) : g_Cv l X yX3_piece cX3_piece 2 9 0 0 [.ref (ad 33), .int 6] (wX X ad F R) (fun w => ∃ (F' : Nat → Int32) (R' : Nat → Nat → Int32), w = wX X ad F' R' ∧ g_ok LK_wX F' ∧ g_okR LA_wX R' ∧ g_fr md_X3_piece_c6 F F' ∧ g_fr mr_X3_piece_c6 R R') := by
  refine g_mv (by decide +kernel) (Nat.le_of_ble_eq_true rfl) (fun E cx hret => ?_)
  refine g_aload_n cx 0 rfl e_X3_piece_0 ?_
  refine g_cViW cx [] [] (w_X3_sign l X ad F R hI hA) ml_X3_42 yV_X3_sign e_X3_piece_1 (by unfold g_rr; decide) (by decide) 33 rfl rfl rfl (Nat.le_of_ble_eq_true rfl) (fun r1 w2 h3 => ?_)
  obtain ⟨rfl, pr1⟩ := h3
  refine g_bipush cx 33 (by decide) e_X3_piece_4 ?_
  have J75 : ∀ (F4 : Nat → Int32) (R5 : Nat → Nat → Int32), (g_ok LK_wX F4) → (g_fr md_X3_piece_c6 F F4) → (g_okR LA_wX R5) → (g_fr mr_X3_piece_c6 R R5) → G X E 2 0 0 (wX X ad F4 R5) [] 75 [] := by
    intro F4 R5 oF4 fF4 oR5 fR5
    exact hret e_X3_piece_75 (Nat.le_of_ble_eq_true rfl) (Nat.le_of_ble_eq_true rfl) ⟨F4, R5, rfl, oF4, oR5, fF4, fR5⟩
  refine g_icmp_ne cx 37 e_X3_piece_6 (by decide) (fun zc6 => ?_) (fun zc6 => ?_)
  · refine g_aload_n cx 0 rfl e_X3_piece_37 ?_
    refine g_cViW cx [] [] (w_X3_sign l X ad F R hI hA) ml_X3_42 yV_X3_sign e_X3_piece_38 (by unfold g_rr; decide) (by decide) 33 rfl rfl rfl (Nat.le_of_ble_eq_true rfl) (fun r7 w8 h9 => ?_)
    obtain ⟨rfl, pr7⟩ := h9
    refine g_bipush cx 40 (by decide) e_X3_piece_41 ?_
    refine g_icmp_ne cx 70 e_X3_piece_43 (by decide) (fun zc10 => ?_) (fun zc10 => ?_)
    · refine g_aload_n cx 0 rfl e_X3_piece_70 ?_
      refine g_iload_n cx 1 rfl e_X3_piece_71 ?_
      refine g_cVvW cx [.int 6] [] (w_X3_comparison_c6 l X ad F R hI hA) ml_X3_93 yV_X3_comparison e_X3_piece_72 (by unfold g_rr; decide) (by decide) 33 rfl rfl rfl (Nat.le_of_ble_eq_true rfl) (fun w12 h13 => ?_)
      obtain ⟨F14, R15, rfl, oF14, oR15, cF14, cR15⟩ := h13
      have fF14 : g_fr md_X3_piece_c6 F F14 := g_fr_c (g_fr_rf F) cF14 rfl
      have fR15 : g_fr mr_X3_piece_c6 R R15 := g_fr_c (g_fr_rf R) cR15 rfl
      refine g_lsub [] [] rfl ?_
      exact J75 F14 R15 oF14 fF14 oR15 fR15
    · have p16 := gn_eq 40 40 (gc_eq zc10) pr7 (jv_k (x := 40) 40 (by decide)) (by decide)
      refine g_aload_n cx 0 rfl e_X3_piece_46 ?_
      refine g_iload_n cx 1 rfl e_X3_piece_47 ?_
      refine g_cViW cx [.int 6] [] (w_X3_opens_c6 l X ad F R hI hA) ml_X3_89 yV_X3_opens e_X3_piece_48 (by unfold g_rr; decide) (by decide) 33 rfl rfl rfl (Nat.le_of_ble_eq_true rfl) (fun r17 w18 h19 => ?_)
      obtain ⟨F20, R21, rfl, oF20, oR21, cF20, cR21, pr17⟩ := h19
      have fF20 : g_fr md_X3_piece_c6 F F20 := g_fr_c (g_fr_rf F) cF20 rfl
      have fR21 : g_fr mr_X3_piece_c6 R R21 := g_fr_c (g_fr_rf R) cR21 rfl
      refine g_if_eq cx 75 e_X3_piece_51 (by decide) (fun zc22 => ?_) (fun zc22 => ?_)
      · refine g_lsub [] [] rfl ?_
        exact J75 F20 R21 oF20 fF20 oR21 fR21
      · exact (gf_ne (gc_ne zc22) pr17 (jv_k (x := 0) 0 (by decide)) (by decide)).elim
  · have p23 := gn_eq 33 33 (gc_eq zc6) pr1 (jv_k (x := 33) 33 (by decide)) (by decide)
    refine g_aload_n cx 0 rfl e_X3_piece_9 ?_
    refine g_iload_n cx 1 rfl e_X3_piece_10 ?_
    refine g_cViW cx [.int 6] [] (w_X3_opens_c6 l X ad F R hI hA) ml_X3_89 yV_X3_opens e_X3_piece_11 (by unfold g_rr; decide) (by decide) 33 rfl rfl rfl (Nat.le_of_ble_eq_true rfl) (fun r24 w25 h26 => ?_)
    obtain ⟨F27, R28, rfl, oF27, oR28, cF27, cR28, pr24⟩ := h26
    have fF27 : g_fr md_X3_piece_c6 F F27 := g_fr_c (g_fr_rf F) cF27 rfl
    have fR28 : g_fr mr_X3_piece_c6 R R28 := g_fr_c (g_fr_rf R) cR28 rfl
    refine g_if_eq cx 75 e_X3_piece_14 (by decide) (fun zc29 => ?_) (fun zc29 => ?_)
    · refine g_lsub [] [] rfl ?_
      exact J75 F27 R28 oF27 fF27 oR28 fR28
    · exact (gf_ne (gc_ne zc29) pr24 (jv_k (x := 0) 0 (by decide)) (by decide)).elim
theorem e_X2_landHere_0 : g_dc cX2_landHere 0 (.iload_n 1) 1 1 := ⟨by decide +kernel, rfl⟩
theorem e_X2_landHere_1 : g_dc cX2_landHere 1 (.istore_n 2) 1 2 := ⟨by decide +kernel, rfl⟩
theorem e_X2_landHere_2 : g_dc cX2_landHere 2 (.iconst 0) 1 3 := ⟨by decide +kernel, rfl⟩
theorem e_X2_landHere_3 : g_dc cX2_landHere 3 (.istore_n 3) 1 4 := ⟨by decide +kernel, rfl⟩
theorem e_X2_landHere_4 : g_dc cX2_landHere 4 (.iload_n 3) 1 5 := ⟨by decide +kernel, rfl⟩
theorem e_X2_landHere_5 : g_dc cX2_landHere 5 (.sipush 256) 3 8 := ⟨by decide +kernel, rfl⟩
theorem e_X2_landHere_8 : g_dc cX2_landHere 8 (.if_icmp .ge 41) 3 11 := ⟨by decide +kernel, rfl⟩
theorem e_X2_landHere_11 : g_dc cX2_landHere 11 (.iload_n 2) 1 12 := ⟨by decide +kernel, rfl⟩
theorem e_X2_landHere_12 : g_dc cX2_landHere 12 (.ifCond .lt 37) 3 15 := ⟨by decide +kernel, rfl⟩
theorem e_X2_landHere_15 : g_dc cX2_landHere 15 (.iload_n 2) 1 16 := ⟨by decide +kernel, rfl⟩
theorem e_X2_landHere_16 : g_dc cX2_landHere 16 (.sipush 256) 3 19 := ⟨by decide +kernel, rfl⟩
theorem e_X2_landHere_19 : g_dc cX2_landHere 19 (.if_icmp .ge 30) 3 22 := ⟨by decide +kernel, rfl⟩
theorem e_X2_landHere_22 : g_dc cX2_landHere 22 (.aload_n 0) 1 23 := ⟨by decide +kernel, rfl⟩
theorem e_X2_landHere_23 : g_dc cX2_landHere 23 (.getfield 15) 3 26 := ⟨by decide +kernel, rfl⟩
theorem e_X2_landHere_26 : g_dc cX2_landHere 26 (.iload_n 2) 1 27 := ⟨by decide +kernel, rfl⟩
theorem e_X2_landHere_27 : g_dc cX2_landHere 27 (.iaload) 1 28 := ⟨by decide +kernel, rfl⟩
theorem e_X2_landHere_28 : g_dc cX2_landHere 28 (.istore 4) 2 30 := ⟨by decide +kernel, rfl⟩
theorem e_X2_landHere_30 : g_dc cX2_landHere 30 (.aload_n 0) 1 31 := ⟨by decide +kernel, rfl⟩
theorem e_X2_landHere_31 : g_dc cX2_landHere 31 (.getfield 15) 3 34 := ⟨by decide +kernel, rfl⟩
theorem e_X2_landHere_34 : g_dc cX2_landHere 34 (.iload_n 2) 1 35 := ⟨by decide +kernel, rfl⟩
theorem e_X2_landHere_35 : g_dc cX2_landHere 35 (.aload_n 0) 1 36 := ⟨by decide +kernel, rfl⟩
theorem e_X2_landHere_36 : g_dc cX2_landHere 36 (.getfield 18) 3 39 := ⟨by decide +kernel, rfl⟩
theorem e_X2_landHere_39 : g_dc cX2_landHere 39 (.iastore) 1 40 := ⟨by decide +kernel, rfl⟩
theorem e_X2_landHere_40 : g_dc cX2_landHere 40 (.iload 4) 2 42 := ⟨by decide +kernel, rfl⟩
theorem e_X2_landHere_42 : g_dc cX2_landHere 42 (.istore_n 2) 1 43 := ⟨by decide +kernel, rfl⟩
theorem e_X2_landHere_43 : g_dc cX2_landHere 43 (.iinc 3 1) 3 46 := ⟨by decide +kernel, rfl⟩
theorem e_X2_landHere_46 : g_dc cX2_landHere 46 (.goto (-42)) 3 49 := ⟨by decide +kernel, rfl⟩
theorem e_X2_landHere_49 : g_dc cX2_landHere 49 (.return_) 1 50 := ⟨by decide +kernel, rfl⟩
def md_X2_landHere_25 : List Nat := []
def mr_X2_landHere_25 : List Nat := [27]
set_option maxHeartbeats 4000000 in
set_option maxRecDepth 100000 in
theorem w_X2_landHere_25 (l : Launch) (X : gX) (ad : Nat → Nat) (F : Nat → Int32) (R : Nat → Nat → Int32) (hI : g_ok LK_wX F) (hA : g_okR LA_wX R) (a0 : Int32) : g_Cv l X yX2_landHere cX2_landHere 5 1 0 0 [.ref (ad 25), .int a0] (wX X ad F R) (fun w => ∃ (F' : Nat → Int32) (R' : Nat → Nat → Int32), w = wX X ad F' R' ∧ g_ok LK_wX F' ∧ g_okR LA_wX R' ∧ g_fr md_X2_landHere_25 F F' ∧ g_fr mr_X2_landHere_25 R R') := by
  refine g_mv (by decide +kernel) (Nat.le_of_ble_eq_true rfl) (fun E cx hret => ?_)
  refine g_iload_n cx 1 rfl e_X2_landHere_0 ?_
  refine g_istore_n cx [(2, .int a0), (0, .ref (ad 25)), (1, .int a0)] e_X2_landHere_1 (by decide) rfl ?_
  refine g_iconst cx 0 (by decide) e_X2_landHere_2 ?_
  refine g_istore_n cx [(3, .int 0), (2, .int a0), (0, .ref (ad 25)), (1, .int a0)] e_X2_landHere_3 (by decide) rfl ?_
  have J4 : ∀ (N : Nat) (R3 : Nat → Nat → Int32) (y1 : Int32) (y2 : Int32), (g_okR LA_wX R3) → (g_fr mr_X2_landHere_25 R R3) → (jv (-2147483648) 2147483647 y1) → (jv 0 256 y2) → (2147483647 - y2.toInt).toNat < N → G X E 5 0 0 (wX X ad F R3) [(0, .ref (ad 25)), (2, .int y1), (3, .int y2)] 4 [] := by
    intro N
    induction N with
    | zero => intro R3 y1 y2 oR3 fR3 py1 py2 hm; exact absurd hm (Nat.not_lt_zero _)
    | succ N ih4 =>
      intro R3 y1 y2 oR3 fR3 py1 py2 hm4
      refine g_iload_n cx 2 rfl e_X2_landHere_4 ?_
      refine g_sipush cx 256 (by decide) e_X2_landHere_5 ?_
      have J49 : G X E 5 0 0 (wX X ad F R3) [] 49 [] := by
        exact hret e_X2_landHere_49 (Nat.le_of_ble_eq_true rfl) (Nat.le_of_ble_eq_true rfl) ⟨F, R3, rfl, hI, oR3, (g_fr_rf F), fR3⟩
      refine g_icmp_ge cx 49 e_X2_landHere_8 (by decide) (fun zc4 => ?_) (fun zc4 => ?_)
      · have p5 := gn_ge 256 256 (gc_le zc4) py2 (jv_k (x := 256) 256 (by decide)) (by decide)
        refine g_lsub [] [] rfl ?_
        exact J49  
      · have p6 := gn_lt 0 255 (gc_nle zc4) py2 (jv_k (x := 256) 256 (by decide)) (by decide)
        refine g_iload_n cx 1 rfl e_X2_landHere_11 ?_
        refine g_if_lt cx 49 e_X2_landHere_12 (by decide) (fun zc7 => ?_) (fun zc7 => ?_)
        · have p8 := gn_lt (-2147483648) (-1) (gc_lt zc7) py1 (jv_k (x := 0) 0 (by decide)) (by decide)
          refine g_lsub [] [] rfl ?_
          exact J49  
        · have p9 := gn_ge 0 2147483647 (gc_nlt zc7) py1 (jv_k (x := 0) 0 (by decide)) (by decide)
          refine g_iload_n cx 1 rfl e_X2_landHere_15 ?_
          refine g_sipush cx 256 (by decide) e_X2_landHere_16 ?_
          refine g_icmp_ge cx 49 e_X2_landHere_19 (by decide) (fun zc10 => ?_) (fun zc10 => ?_)
          · have p11 := gn_ge 256 2147483647 (gc_le zc10) p9 (jv_k (x := 256) 256 (by decide)) (by decide)
            refine g_lsub [] [] rfl ?_
            exact J49  
          · have p12 := gn_lt 0 255 (gc_nle zc10) p9 (jv_k (x := 256) 256 (by decide)) (by decide)
            refine g_aload_n cx 0 rfl e_X2_landHere_22 ?_
            refine g_get cx cl_X2 fl_X2_15 25 (.ref (ad 27)) e_X2_landHere_23 rfl rfl ?_
            refine g_iload_n cx 1 rfl e_X2_landHere_26 ?_
            refine g_iald cx 27 e_X2_landHere_27 rfl (jv_ix 256 p12 (by decide)) ?_
            refine g_topi (fun x13 ex13 => ?_)
            refine g_istore cx [(4, .int x13), (0, .ref (ad 25)), (2, .int y1), (3, .int y2)] e_X2_landHere_28 (by decide) rfl ?_
            refine g_aload_n cx 1 rfl e_X2_landHere_30 ?_
            refine g_get cx cl_X2 fl_X2_15 25 (.ref (ad 27)) e_X2_landHere_31 rfl rfl ?_
            refine g_iload_n cx 2 rfl e_X2_landHere_34 ?_
            refine g_aload_n cx 1 rfl e_X2_landHere_35 ?_
            refine g_get cx cl_X2 fl_X2_18 25 (.int (F 402)) e_X2_landHere_36 rfl rfl ?_
            refine g_iast cx 27 (wX X ad F (g_u R3 27 (upd (R3 27) (Int32.toNatClampNeg y1) (F 402)))) e_X2_landHere_39 rfl (jv_ix 256 p12 (by decide)) rfl ?_
            obtain ⟨R14, hR14⟩ : ∃ z, z = g_u R3 27 (upd (R3 27) (Int32.toNatClampNeg y1) (F 402)) := ⟨_, rfl⟩
            rw [← hR14]
            have oR14 : g_okR LA_wX R14 := by rw [hR14]; exact g_okR_u oR3 rfl
            have fR14 : g_fr mr_X2_landHere_25 R R14 := by rw [hR14]; exact g_fr_r fR3 rfl
            refine g_iload cx 0 rfl e_X2_landHere_40 ?_
            refine g_istore_n cx [(2, .int x13), (4, .int x13), (0, .ref (ad 25)), (3, .int y2)] e_X2_landHere_42 (by decide) rfl ?_
            obtain ⟨x15, ex15⟩ : ∃ z : Int32, z = y2 + Int32.ofInt 1 := ⟨_, rfl⟩
            refine g_iinc cx x15 [(3, .int x15), (2, .int x13), (4, .int x13), (0, .ref (ad 25))] 3 e_X2_landHere_43 rfl ex15.symm (by decide) rfl ?_
            have zx15 := jv_add 1 256 (show x15 = y2 + 1 from ex15) p6 (jv_k (x := 1) 1 (by decide)) (by decide)
            refine g_goto cx 4 e_X2_landHere_46 (by decide) ?_
            refine g_lsub [3, 1, 0] [(0, .ref (ad 25)), (2, .int x13), (3, .int x15)] rfl ?_
            exact ih4 R14 x13 x15 oR14 fR14 (jv_t x13) (jv_w zx15.2 (by decide)) (Nat.lt_of_lt_of_le (show (2147483647 - x15.toInt).toNat < (2147483647 - y2.toInt).toNat from by have q0 := (jv_k (x := 0) 0 (by decide)).1; have q1 := (jv_k (x := 0) 0 (by decide)).2; have q2 := (jv_k (x := 1) 1 (by decide)).1; have q3 := (jv_k (x := 1) 1 (by decide)).2; have q4 := (jv_k (x := 256) 256 (by decide)).1; have q5 := (jv_k (x := 256) 256 (by decide)).2; have q6 := zx15.2.1; have q7 := zx15.2.2; have q8 := p12.1; have q9 := p12.2; have q10 := p6.1; have q11 := p6.2; have q12 := (gc_nle zc4); have q13 := (gc_nlt zc7); have q14 := (gc_nle zc10); have q15 := (g_eq0 zx15.1); omega) (Nat.le_of_lt_succ hm4))
  refine g_lsub [2, 1, 0] [(0, .ref (ad 25)), (2, .int a0), (3, .int 0)] rfl ?_
  exact J4 _ R a0 0 hA (g_fr_rf R) (jv_t a0) (jv_w (jv_k (x := 0) 0 (by decide)) (by decide)) (Nat.lt_succ_self _)
theorem e_X3_pieces_0 : g_dc cX3_pieces 0 (.aload_n 0) 1 1 := ⟨by decide +kernel, rfl⟩
theorem e_X3_pieces_1 : g_dc cX3_pieces 1 (.iload_n 1) 1 2 := ⟨by decide +kernel, rfl⟩
theorem e_X3_pieces_2 : g_dc cX3_pieces 2 (.invokevirtual 86) 3 5 := ⟨by decide +kernel, rfl⟩
theorem e_X3_pieces_5 : g_dc cX3_pieces 5 (.iconst (-1)) 1 6 := ⟨by decide +kernel, rfl⟩
theorem e_X3_pieces_6 : g_dc cX3_pieces 6 (.istore_n 2) 1 7 := ⟨by decide +kernel, rfl⟩
theorem e_X3_pieces_7 : g_dc cX3_pieces 7 (.iconst 0) 1 8 := ⟨by decide +kernel, rfl⟩
theorem e_X3_pieces_8 : g_dc cX3_pieces 8 (.istore_n 3) 1 9 := ⟨by decide +kernel, rfl⟩
theorem e_X3_pieces_9 : g_dc cX3_pieces 9 (.iload_n 3) 1 10 := ⟨by decide +kernel, rfl⟩
theorem e_X3_pieces_10 : g_dc cX3_pieces 10 (.sipush 200) 3 13 := ⟨by decide +kernel, rfl⟩
theorem e_X3_pieces_13 : g_dc cX3_pieces 13 (.if_icmp .ge 43) 3 16 := ⟨by decide +kernel, rfl⟩
theorem e_X3_pieces_16 : g_dc cX3_pieces 16 (.aload_n 0) 1 17 := ⟨by decide +kernel, rfl⟩
theorem e_X3_pieces_17 : g_dc cX3_pieces 17 (.invokevirtual 42) 3 20 := ⟨by decide +kernel, rfl⟩
theorem e_X3_pieces_20 : g_dc cX3_pieces 20 (.bipush 38) 2 22 := ⟨by decide +kernel, rfl⟩
theorem e_X3_pieces_22 : g_dc cX3_pieces 22 (.if_icmp .ne 34) 3 25 := ⟨by decide +kernel, rfl⟩
theorem e_X3_pieces_25 : g_dc cX3_pieces 25 (.aload_n 0) 1 26 := ⟨by decide +kernel, rfl⟩
theorem e_X3_pieces_26 : g_dc cX3_pieces 26 (.dup) 1 27 := ⟨by decide +kernel, rfl⟩
theorem e_X3_pieces_27 : g_dc cX3_pieces 27 (.getfield 19) 3 30 := ⟨by decide +kernel, rfl⟩
theorem e_X3_pieces_30 : g_dc cX3_pieces 30 (.iconst 1) 1 31 := ⟨by decide +kernel, rfl⟩
theorem e_X3_pieces_31 : g_dc cX3_pieces 31 (.iadd) 1 32 := ⟨by decide +kernel, rfl⟩
theorem e_X3_pieces_32 : g_dc cX3_pieces 32 (.putfield 19) 3 35 := ⟨by decide +kernel, rfl⟩
theorem e_X3_pieces_35 : g_dc cX3_pieces 35 (.aload_n 0) 1 36 := ⟨by decide +kernel, rfl⟩
theorem e_X3_pieces_36 : g_dc cX3_pieces 36 (.getfield 25) 3 39 := ⟨by decide +kernel, rfl⟩
theorem e_X3_pieces_39 : g_dc cX3_pieces 39 (.iconst 4) 1 40 := ⟨by decide +kernel, rfl⟩
theorem e_X3_pieces_40 : g_dc cX3_pieces 40 (.iload_n 2) 1 41 := ⟨by decide +kernel, rfl⟩
theorem e_X3_pieces_41 : g_dc cX3_pieces 41 (.invokevirtual 66) 3 44 := ⟨by decide +kernel, rfl⟩
theorem e_X3_pieces_44 : g_dc cX3_pieces 44 (.istore_n 2) 1 45 := ⟨by decide +kernel, rfl⟩
theorem e_X3_pieces_45 : g_dc cX3_pieces 45 (.aload_n 0) 1 46 := ⟨by decide +kernel, rfl⟩
theorem e_X3_pieces_46 : g_dc cX3_pieces 46 (.iload_n 1) 1 47 := ⟨by decide +kernel, rfl⟩
theorem e_X3_pieces_47 : g_dc cX3_pieces 47 (.invokevirtual 86) 3 50 := ⟨by decide +kernel, rfl⟩
theorem e_X3_pieces_50 : g_dc cX3_pieces 50 (.iinc 3 1) 3 53 := ⟨by decide +kernel, rfl⟩
theorem e_X3_pieces_53 : g_dc cX3_pieces 53 (.goto (-44)) 3 56 := ⟨by decide +kernel, rfl⟩
theorem e_X3_pieces_56 : g_dc cX3_pieces 56 (.aload_n 0) 1 57 := ⟨by decide +kernel, rfl⟩
theorem e_X3_pieces_57 : g_dc cX3_pieces 57 (.getfield 25) 3 60 := ⟨by decide +kernel, rfl⟩
theorem e_X3_pieces_60 : g_dc cX3_pieces 60 (.iload_n 2) 1 61 := ⟨by decide +kernel, rfl⟩
theorem e_X3_pieces_61 : g_dc cX3_pieces 61 (.invokevirtual 83) 3 64 := ⟨by decide +kernel, rfl⟩
theorem e_X3_pieces_64 : g_dc cX3_pieces 64 (.return_) 1 65 := ⟨by decide +kernel, rfl⟩
def md_X3_pieces_c6 : List Nat := [402, 531, 532]
def mr_X3_pieces_c6 : List Nat := [26, 27]
set_option maxHeartbeats 4000000 in
set_option maxRecDepth 100000 in
theorem w_X3_pieces_c6 (l : Launch) (X : gX) (ad : Nat → Nat) (F : Nat → Int32) (R : Nat → Nat → Int32) (hI : g_ok LK_wX F) (hA : g_okR LA_wX R) : g_Cv l X yX3_pieces cX3_pieces 4 10 0 0 [.ref (ad 33), .int 6] (wX X ad F R) (fun w => ∃ (F' : Nat → Int32) (R' : Nat → Nat → Int32), w = wX X ad F' R' ∧ g_ok LK_wX F' ∧ g_okR LA_wX R' ∧ g_fr md_X3_pieces_c6 F F' ∧ g_fr mr_X3_pieces_c6 R R') := by
  refine g_mv (by decide +kernel) (Nat.le_of_ble_eq_true rfl) (fun E cx hret => ?_)
  refine g_aload_n cx 0 rfl e_X3_pieces_0 ?_
  refine g_iload_n cx 1 rfl e_X3_pieces_1 ?_
  refine g_cVvW cx [.int 6] [] (w_X3_piece_c6 l X ad F R hI hA) ml_X3_86 yV_X3_piece e_X3_pieces_2 (by unfold g_rr; decide) (by decide) 33 rfl rfl rfl (Nat.le_of_ble_eq_true rfl) (fun w2 h3 => ?_)
  obtain ⟨F4, R5, rfl, oF4, oR5, cF4, cR5⟩ := h3
  have fF4 : g_fr md_X3_pieces_c6 F F4 := g_fr_c (g_fr_rf F) cF4 rfl
  have fR5 : g_fr mr_X3_pieces_c6 R R5 := g_fr_c (g_fr_rf R) cR5 rfl
  refine g_iconst cx (-1) (by decide) e_X3_pieces_5 ?_
  refine g_istore_n cx [(2, .int (-1)), (0, .ref (ad 33)), (1, .int 6)] e_X3_pieces_6 (by decide) rfl ?_
  refine g_iconst cx 0 (by decide) e_X3_pieces_7 ?_
  refine g_istore_n cx [(3, .int 0), (2, .int (-1)), (0, .ref (ad 33)), (1, .int 6)] e_X3_pieces_8 (by decide) rfl ?_
  have J9 : ∀ (N : Nat) (F8 : Nat → Int32) (R9 : Nat → Nat → Int32) (y6 : Int32) (y7 : Int32), (g_ok LK_wX F8) → (g_fr md_X3_pieces_c6 F F8) → (g_okR LA_wX R9) → (g_fr mr_X3_pieces_c6 R R9) → (jv (-1) 256 y6) → (jv 0 200 y7) → (2147483647 - y7.toInt).toNat < N → G X E 4 0 0 (wX X ad F8 R9) [(0, .ref (ad 33)), (1, .int 6), (2, .int y6), (3, .int y7)] 9 [] := by
    intro N
    induction N with
    | zero => intro F8 R9 y6 y7 oF8 fF8 oR9 fR9 py6 py7 hm; exact absurd hm (Nat.not_lt_zero _)
    | succ N ih9 =>
      intro F8 R9 y6 y7 oF8 fF8 oR9 fR9 py6 py7 hm9
      refine g_iload_n cx 3 rfl e_X3_pieces_9 ?_
      refine g_sipush cx 200 (by decide) e_X3_pieces_10 ?_
      have J56 : G X E 4 0 0 (wX X ad F8 R9) [(0, .ref (ad 33)), (2, .int y6)] 56 [] := by
        refine g_aload_n cx 0 rfl e_X3_pieces_56 ?_
        refine g_get cx cl_X3 fl_X3_25 33 (.ref (ad 25)) e_X3_pieces_57 rfl rfl ?_
        refine g_iload_n cx 1 rfl e_X3_pieces_60 ?_
        refine g_cVvW cx [.int y6] [] (w_X2_landHere_25 l X ad F8 R9 oF8 oR9 y6) ml_X3_83 yV_X2_landHere e_X3_pieces_61 (by unfold g_rr; decide) (by decide) 25 rfl rfl rfl (Nat.le_of_ble_eq_true rfl) (fun w11 h12 => ?_)
        obtain ⟨F13, R14, rfl, oF13, oR14, cF13, cR14⟩ := h12
        have fF13 : g_fr md_X3_pieces_c6 F F13 := g_fr_c fF8 cF13 rfl
        have fR14 : g_fr mr_X3_pieces_c6 R R14 := g_fr_c fR9 cR14 rfl
        exact hret e_X3_pieces_64 (Nat.le_of_ble_eq_true rfl) (Nat.le_of_ble_eq_true rfl) ⟨F13, R14, rfl, oF13, oR14, fF13, fR14⟩
      refine g_icmp_ge cx 56 e_X3_pieces_13 (by decide) (fun zc15 => ?_) (fun zc15 => ?_)
      · have p16 := gn_ge 200 200 (gc_le zc15) py7 (jv_k (x := 200) 200 (by decide)) (by decide)
        refine g_lsub [0, 2] [(0, .ref (ad 33)), (2, .int y6)] rfl ?_
        exact J56  
      · have p17 := gn_lt 0 199 (gc_nle zc15) py7 (jv_k (x := 200) 200 (by decide)) (by decide)
        refine g_aload_n cx 0 rfl e_X3_pieces_16 ?_
        refine g_cViW cx [] [] (w_X3_sign l X ad F8 R9 oF8 oR9) ml_X3_42 yV_X3_sign e_X3_pieces_17 (by unfold g_rr; decide) (by decide) 33 rfl rfl rfl (Nat.le_of_ble_eq_true rfl) (fun r18 w19 h20 => ?_)
        obtain ⟨rfl, pr18⟩ := h20
        refine g_bipush cx 38 (by decide) e_X3_pieces_20 ?_
        refine g_icmp_ne cx 56 e_X3_pieces_22 (by decide) (fun zc21 => ?_) (fun zc21 => ?_)
        · refine g_lsub [0, 2] [(0, .ref (ad 33)), (2, .int y6)] rfl ?_
          exact J56  
        · have p22 := gn_eq 38 38 (gc_eq zc21) pr18 (jv_k (x := 38) 38 (by decide)) (by decide)
          refine g_aload_n cx 0 rfl e_X3_pieces_25 ?_
          refine g_dup cx rfl e_X3_pieces_26 ?_
          refine g_get cx cl_X3 fl_X3_19 33 (.int (F8 531)) e_X3_pieces_27 rfl rfl ?_
          refine g_iconst cx 1 (by decide) e_X3_pieces_30 ?_
          refine g_iadd cx e_X3_pieces_31 ?_
          refine g_topi (fun x23 ex23 => ?_)
          refine g_put cx cl_X3 fl_X3_19 33 (wX X ad (upd F8 531 x23) R9) e_X3_pieces_32 rfl rfl rfl rfl (Nat.le_of_ble_eq_true rfl) rfl ?_
          obtain ⟨F24, hF24⟩ : ∃ z, z = upd F8 531 x23 := ⟨_, rfl⟩
          rw [← hF24]
          have oF24 : g_ok LK_wX F24 := by rw [hF24]; exact g_ok_u oF8 rfl
          have fF24 : g_fr md_X3_pieces_c6 F F24 := by rw [hF24]; exact g_fr_u fF8 rfl
          refine g_aload_n cx 0 rfl e_X3_pieces_35 ?_
          refine g_get cx cl_X3 fl_X3_25 33 (.ref (ad 25)) e_X3_pieces_36 rfl rfl ?_
          refine g_iconst cx 4 (by decide) e_X3_pieces_39 ?_
          refine g_iload_n cx 2 rfl e_X3_pieces_40 ?_
          refine g_cViW cx [.int 4, .int y6] [] (w_X2_emit_25 l X ad F24 R9 oF24 oR9 4 y6) ml_X3_66 yV_X2_emit e_X3_pieces_41 (by unfold g_rr; decide) (by decide) 25 rfl rfl rfl (Nat.le_of_ble_eq_true rfl) (fun r25 w26 h27 => ?_)
          obtain ⟨F28, R29, rfl, oF28, oR29, cF28, cR29, pr25⟩ := h27
          have fF28 : g_fr md_X3_pieces_c6 F F28 := g_fr_c fF24 cF28 rfl
          have fR29 : g_fr mr_X3_pieces_c6 R R29 := g_fr_c fR9 cR29 rfl
          refine g_istore_n cx [(2, .int r25), (0, .ref (ad 33)), (1, .int 6), (3, .int y7)] e_X3_pieces_44 (by decide) rfl ?_
          refine g_aload_n cx 1 rfl e_X3_pieces_45 ?_
          refine g_iload_n cx 2 rfl e_X3_pieces_46 ?_
          refine g_cVvW cx [.int 6] [] (w_X3_piece_c6 l X ad F28 R29 oF28 oR29) ml_X3_86 yV_X3_piece e_X3_pieces_47 (by unfold g_rr; decide) (by decide) 33 rfl rfl rfl (Nat.le_of_ble_eq_true rfl) (fun w31 h32 => ?_)
          obtain ⟨F33, R34, rfl, oF33, oR34, cF33, cR34⟩ := h32
          have fF33 : g_fr md_X3_pieces_c6 F F33 := g_fr_c fF28 cF33 rfl
          have fR34 : g_fr mr_X3_pieces_c6 R R34 := g_fr_c fR29 cR34 rfl
          obtain ⟨x35, ex35⟩ : ∃ z : Int32, z = y7 + Int32.ofInt 1 := ⟨_, rfl⟩
          refine g_iinc cx x35 [(3, .int x35), (2, .int r25), (0, .ref (ad 33)), (1, .int 6)] 3 e_X3_pieces_50 rfl ex35.symm (by decide) rfl ?_
          have zx35 := jv_add 1 200 (show x35 = y7 + 1 from ex35) p17 (jv_k (x := 1) 1 (by decide)) (by decide)
          refine g_goto cx 9 e_X3_pieces_53 (by decide) ?_
          refine g_lsub [2, 3, 1, 0] [(0, .ref (ad 33)), (1, .int 6), (2, .int r25), (3, .int x35)] rfl ?_
          exact ih9 F33 R34 r25 x35 oF33 fF33 oR34 fR34 (jv_w pr25 (by decide)) (jv_w zx35.2 (by decide)) (Nat.lt_of_lt_of_le (show (2147483647 - x35.toInt).toNat < (2147483647 - y7.toInt).toNat from by have q0 := (jv_k (x := 1) 1 (by decide)).1; have q1 := (jv_k (x := 1) 1 (by decide)).2; have q2 := (jv_k (x := 200) 200 (by decide)).1; have q3 := (jv_k (x := 200) 200 (by decide)).2; have q4 := zx35.2.1; have q5 := zx35.2.2; have q6 := p17.1; have q7 := p17.2; have q8 := (gc_nle zc15); have q9 := (g_eq0 zx35.1); omega) (Nat.le_of_lt_succ hm9))
  refine g_lsub [2, 3, 1, 0] [(0, .ref (ad 33)), (1, .int 6), (2, .int (-1)), (3, .int 0)] rfl ?_
  exact J9 _ F4 R5 (-1) 0 oF4 fF4 oR5 fR5 (jv_w (jv_k (x := (-1)) (-1) (by decide)) (by decide)) (jv_w (jv_k (x := 0) 0 (by decide)) (by decide)) (Nat.lt_succ_self _)
theorem e_X3_parts_0 : g_dc cX3_parts 0 (.aload_n 0) 1 1 := ⟨by decide +kernel, rfl⟩
theorem e_X3_parts_1 : g_dc cX3_parts 1 (.iload_n 1) 1 2 := ⟨by decide +kernel, rfl⟩
theorem e_X3_parts_2 : g_dc cX3_parts 2 (.invokevirtual 80) 3 5 := ⟨by decide +kernel, rfl⟩
theorem e_X3_parts_5 : g_dc cX3_parts 5 (.iconst (-1)) 1 6 := ⟨by decide +kernel, rfl⟩
theorem e_X3_parts_6 : g_dc cX3_parts 6 (.istore_n 2) 1 7 := ⟨by decide +kernel, rfl⟩
theorem e_X3_parts_7 : g_dc cX3_parts 7 (.iconst 0) 1 8 := ⟨by decide +kernel, rfl⟩
theorem e_X3_parts_8 : g_dc cX3_parts 8 (.istore_n 3) 1 9 := ⟨by decide +kernel, rfl⟩
theorem e_X3_parts_9 : g_dc cX3_parts 9 (.iload_n 3) 1 10 := ⟨by decide +kernel, rfl⟩
theorem e_X3_parts_10 : g_dc cX3_parts 10 (.sipush 200) 3 13 := ⟨by decide +kernel, rfl⟩
theorem e_X3_parts_13 : g_dc cX3_parts 13 (.if_icmp .ge 43) 3 16 := ⟨by decide +kernel, rfl⟩
theorem e_X3_parts_16 : g_dc cX3_parts 16 (.aload_n 0) 1 17 := ⟨by decide +kernel, rfl⟩
theorem e_X3_parts_17 : g_dc cX3_parts 17 (.invokevirtual 42) 3 20 := ⟨by decide +kernel, rfl⟩
theorem e_X3_parts_20 : g_dc cX3_parts 20 (.bipush 124) 2 22 := ⟨by decide +kernel, rfl⟩
theorem e_X3_parts_22 : g_dc cX3_parts 22 (.if_icmp .ne 34) 3 25 := ⟨by decide +kernel, rfl⟩
theorem e_X3_parts_25 : g_dc cX3_parts 25 (.aload_n 0) 1 26 := ⟨by decide +kernel, rfl⟩
theorem e_X3_parts_26 : g_dc cX3_parts 26 (.dup) 1 27 := ⟨by decide +kernel, rfl⟩
theorem e_X3_parts_27 : g_dc cX3_parts 27 (.getfield 19) 3 30 := ⟨by decide +kernel, rfl⟩
theorem e_X3_parts_30 : g_dc cX3_parts 30 (.iconst 1) 1 31 := ⟨by decide +kernel, rfl⟩
theorem e_X3_parts_31 : g_dc cX3_parts 31 (.iadd) 1 32 := ⟨by decide +kernel, rfl⟩
theorem e_X3_parts_32 : g_dc cX3_parts 32 (.putfield 19) 3 35 := ⟨by decide +kernel, rfl⟩
theorem e_X3_parts_35 : g_dc cX3_parts 35 (.aload_n 0) 1 36 := ⟨by decide +kernel, rfl⟩
theorem e_X3_parts_36 : g_dc cX3_parts 36 (.getfield 25) 3 39 := ⟨by decide +kernel, rfl⟩
theorem e_X3_parts_39 : g_dc cX3_parts 39 (.iconst 5) 1 40 := ⟨by decide +kernel, rfl⟩
theorem e_X3_parts_40 : g_dc cX3_parts 40 (.iload_n 2) 1 41 := ⟨by decide +kernel, rfl⟩
theorem e_X3_parts_41 : g_dc cX3_parts 41 (.invokevirtual 66) 3 44 := ⟨by decide +kernel, rfl⟩
theorem e_X3_parts_44 : g_dc cX3_parts 44 (.istore_n 2) 1 45 := ⟨by decide +kernel, rfl⟩
theorem e_X3_parts_45 : g_dc cX3_parts 45 (.aload_n 0) 1 46 := ⟨by decide +kernel, rfl⟩
theorem e_X3_parts_46 : g_dc cX3_parts 46 (.iload_n 1) 1 47 := ⟨by decide +kernel, rfl⟩
theorem e_X3_parts_47 : g_dc cX3_parts 47 (.invokevirtual 80) 3 50 := ⟨by decide +kernel, rfl⟩
theorem e_X3_parts_50 : g_dc cX3_parts 50 (.iinc 3 1) 3 53 := ⟨by decide +kernel, rfl⟩
theorem e_X3_parts_53 : g_dc cX3_parts 53 (.goto (-44)) 3 56 := ⟨by decide +kernel, rfl⟩
theorem e_X3_parts_56 : g_dc cX3_parts 56 (.aload_n 0) 1 57 := ⟨by decide +kernel, rfl⟩
theorem e_X3_parts_57 : g_dc cX3_parts 57 (.getfield 25) 3 60 := ⟨by decide +kernel, rfl⟩
theorem e_X3_parts_60 : g_dc cX3_parts 60 (.iload_n 2) 1 61 := ⟨by decide +kernel, rfl⟩
theorem e_X3_parts_61 : g_dc cX3_parts 61 (.invokevirtual 83) 3 64 := ⟨by decide +kernel, rfl⟩
theorem e_X3_parts_64 : g_dc cX3_parts 64 (.return_) 1 65 := ⟨by decide +kernel, rfl⟩
def md_X3_parts_c6 : List Nat := [402, 531, 532]
def mr_X3_parts_c6 : List Nat := [26, 27]
set_option maxHeartbeats 4000000 in
set_option maxRecDepth 100000 in
theorem w_X3_parts_c6 (l : Launch) (X : gX) (ad : Nat → Nat) (F : Nat → Int32) (R : Nat → Nat → Int32) (hI : g_ok LK_wX F) (hA : g_okR LA_wX R) : g_Cv l X yX3_parts cX3_parts 4 11 0 0 [.ref (ad 33), .int 6] (wX X ad F R) (fun w => ∃ (F' : Nat → Int32) (R' : Nat → Nat → Int32), w = wX X ad F' R' ∧ g_ok LK_wX F' ∧ g_okR LA_wX R' ∧ g_fr md_X3_parts_c6 F F' ∧ g_fr mr_X3_parts_c6 R R') := by
  refine g_mv (by decide +kernel) (Nat.le_of_ble_eq_true rfl) (fun E cx hret => ?_)
  refine g_aload_n cx 0 rfl e_X3_parts_0 ?_
  refine g_iload_n cx 1 rfl e_X3_parts_1 ?_
  refine g_cVvW cx [.int 6] [] (w_X3_pieces_c6 l X ad F R hI hA) ml_X3_80 yV_X3_pieces e_X3_parts_2 (by unfold g_rr; decide) (by decide) 33 rfl rfl rfl (Nat.le_of_ble_eq_true rfl) (fun w2 h3 => ?_)
  obtain ⟨F4, R5, rfl, oF4, oR5, cF4, cR5⟩ := h3
  have fF4 : g_fr md_X3_parts_c6 F F4 := g_fr_c (g_fr_rf F) cF4 rfl
  have fR5 : g_fr mr_X3_parts_c6 R R5 := g_fr_c (g_fr_rf R) cR5 rfl
  refine g_iconst cx (-1) (by decide) e_X3_parts_5 ?_
  refine g_istore_n cx [(2, .int (-1)), (0, .ref (ad 33)), (1, .int 6)] e_X3_parts_6 (by decide) rfl ?_
  refine g_iconst cx 0 (by decide) e_X3_parts_7 ?_
  refine g_istore_n cx [(3, .int 0), (2, .int (-1)), (0, .ref (ad 33)), (1, .int 6)] e_X3_parts_8 (by decide) rfl ?_
  have J9 : ∀ (N : Nat) (F8 : Nat → Int32) (R9 : Nat → Nat → Int32) (y6 : Int32) (y7 : Int32), (g_ok LK_wX F8) → (g_fr md_X3_parts_c6 F F8) → (g_okR LA_wX R9) → (g_fr mr_X3_parts_c6 R R9) → (jv (-1) 256 y6) → (jv 0 200 y7) → (2147483647 - y7.toInt).toNat < N → G X E 4 0 0 (wX X ad F8 R9) [(0, .ref (ad 33)), (1, .int 6), (2, .int y6), (3, .int y7)] 9 [] := by
    intro N
    induction N with
    | zero => intro F8 R9 y6 y7 oF8 fF8 oR9 fR9 py6 py7 hm; exact absurd hm (Nat.not_lt_zero _)
    | succ N ih9 =>
      intro F8 R9 y6 y7 oF8 fF8 oR9 fR9 py6 py7 hm9
      refine g_iload_n cx 3 rfl e_X3_parts_9 ?_
      refine g_sipush cx 200 (by decide) e_X3_parts_10 ?_
      have J56 : G X E 4 0 0 (wX X ad F8 R9) [(0, .ref (ad 33)), (2, .int y6)] 56 [] := by
        refine g_aload_n cx 0 rfl e_X3_parts_56 ?_
        refine g_get cx cl_X3 fl_X3_25 33 (.ref (ad 25)) e_X3_parts_57 rfl rfl ?_
        refine g_iload_n cx 1 rfl e_X3_parts_60 ?_
        refine g_cVvW cx [.int y6] [] (w_X2_landHere_25 l X ad F8 R9 oF8 oR9 y6) ml_X3_83 yV_X2_landHere e_X3_parts_61 (by unfold g_rr; decide) (by decide) 25 rfl rfl rfl (Nat.le_of_ble_eq_true rfl) (fun w11 h12 => ?_)
        obtain ⟨F13, R14, rfl, oF13, oR14, cF13, cR14⟩ := h12
        have fF13 : g_fr md_X3_parts_c6 F F13 := g_fr_c fF8 cF13 rfl
        have fR14 : g_fr mr_X3_parts_c6 R R14 := g_fr_c fR9 cR14 rfl
        exact hret e_X3_parts_64 (Nat.le_of_ble_eq_true rfl) (Nat.le_of_ble_eq_true rfl) ⟨F13, R14, rfl, oF13, oR14, fF13, fR14⟩
      refine g_icmp_ge cx 56 e_X3_parts_13 (by decide) (fun zc15 => ?_) (fun zc15 => ?_)
      · have p16 := gn_ge 200 200 (gc_le zc15) py7 (jv_k (x := 200) 200 (by decide)) (by decide)
        refine g_lsub [0, 2] [(0, .ref (ad 33)), (2, .int y6)] rfl ?_
        exact J56  
      · have p17 := gn_lt 0 199 (gc_nle zc15) py7 (jv_k (x := 200) 200 (by decide)) (by decide)
        refine g_aload_n cx 0 rfl e_X3_parts_16 ?_
        refine g_cViW cx [] [] (w_X3_sign l X ad F8 R9 oF8 oR9) ml_X3_42 yV_X3_sign e_X3_parts_17 (by unfold g_rr; decide) (by decide) 33 rfl rfl rfl (Nat.le_of_ble_eq_true rfl) (fun r18 w19 h20 => ?_)
        obtain ⟨rfl, pr18⟩ := h20
        refine g_bipush cx 124 (by decide) e_X3_parts_20 ?_
        refine g_icmp_ne cx 56 e_X3_parts_22 (by decide) (fun zc21 => ?_) (fun zc21 => ?_)
        · refine g_lsub [0, 2] [(0, .ref (ad 33)), (2, .int y6)] rfl ?_
          exact J56  
        · have p22 := gn_eq 124 124 (gc_eq zc21) pr18 (jv_k (x := 124) 124 (by decide)) (by decide)
          refine g_aload_n cx 0 rfl e_X3_parts_25 ?_
          refine g_dup cx rfl e_X3_parts_26 ?_
          refine g_get cx cl_X3 fl_X3_19 33 (.int (F8 531)) e_X3_parts_27 rfl rfl ?_
          refine g_iconst cx 1 (by decide) e_X3_parts_30 ?_
          refine g_iadd cx e_X3_parts_31 ?_
          refine g_topi (fun x23 ex23 => ?_)
          refine g_put cx cl_X3 fl_X3_19 33 (wX X ad (upd F8 531 x23) R9) e_X3_parts_32 rfl rfl rfl rfl (Nat.le_of_ble_eq_true rfl) rfl ?_
          obtain ⟨F24, hF24⟩ : ∃ z, z = upd F8 531 x23 := ⟨_, rfl⟩
          rw [← hF24]
          have oF24 : g_ok LK_wX F24 := by rw [hF24]; exact g_ok_u oF8 rfl
          have fF24 : g_fr md_X3_parts_c6 F F24 := by rw [hF24]; exact g_fr_u fF8 rfl
          refine g_aload_n cx 0 rfl e_X3_parts_35 ?_
          refine g_get cx cl_X3 fl_X3_25 33 (.ref (ad 25)) e_X3_parts_36 rfl rfl ?_
          refine g_iconst cx 5 (by decide) e_X3_parts_39 ?_
          refine g_iload_n cx 2 rfl e_X3_parts_40 ?_
          refine g_cViW cx [.int 5, .int y6] [] (w_X2_emit_25 l X ad F24 R9 oF24 oR9 5 y6) ml_X3_66 yV_X2_emit e_X3_parts_41 (by unfold g_rr; decide) (by decide) 25 rfl rfl rfl (Nat.le_of_ble_eq_true rfl) (fun r25 w26 h27 => ?_)
          obtain ⟨F28, R29, rfl, oF28, oR29, cF28, cR29, pr25⟩ := h27
          have fF28 : g_fr md_X3_parts_c6 F F28 := g_fr_c fF24 cF28 rfl
          have fR29 : g_fr mr_X3_parts_c6 R R29 := g_fr_c fR9 cR29 rfl
          refine g_istore_n cx [(2, .int r25), (0, .ref (ad 33)), (1, .int 6), (3, .int y7)] e_X3_parts_44 (by decide) rfl ?_
          refine g_aload_n cx 1 rfl e_X3_parts_45 ?_
          refine g_iload_n cx 2 rfl e_X3_parts_46 ?_
          refine g_cVvW cx [.int 6] [] (w_X3_pieces_c6 l X ad F28 R29 oF28 oR29) ml_X3_80 yV_X3_pieces e_X3_parts_47 (by unfold g_rr; decide) (by decide) 33 rfl rfl rfl (Nat.le_of_ble_eq_true rfl) (fun w31 h32 => ?_)
          obtain ⟨F33, R34, rfl, oF33, oR34, cF33, cR34⟩ := h32
          have fF33 : g_fr md_X3_parts_c6 F F33 := g_fr_c fF28 cF33 rfl
          have fR34 : g_fr mr_X3_parts_c6 R R34 := g_fr_c fR29 cR34 rfl
          obtain ⟨x35, ex35⟩ : ∃ z : Int32, z = y7 + Int32.ofInt 1 := ⟨_, rfl⟩
          refine g_iinc cx x35 [(3, .int x35), (2, .int r25), (0, .ref (ad 33)), (1, .int 6)] 3 e_X3_parts_50 rfl ex35.symm (by decide) rfl ?_
          have zx35 := jv_add 1 200 (show x35 = y7 + 1 from ex35) p17 (jv_k (x := 1) 1 (by decide)) (by decide)
          refine g_goto cx 9 e_X3_parts_53 (by decide) ?_
          refine g_lsub [2, 3, 1, 0] [(0, .ref (ad 33)), (1, .int 6), (2, .int r25), (3, .int x35)] rfl ?_
          exact ih9 F33 R34 r25 x35 oF33 fF33 oR34 fR34 (jv_w pr25 (by decide)) (jv_w zx35.2 (by decide)) (Nat.lt_of_lt_of_le (show (2147483647 - x35.toInt).toNat < (2147483647 - y7.toInt).toNat from by have q0 := (jv_k (x := 1) 1 (by decide)).1; have q1 := (jv_k (x := 1) 1 (by decide)).2; have q2 := (jv_k (x := 200) 200 (by decide)).1; have q3 := (jv_k (x := 200) 200 (by decide)).2; have q4 := zx35.2.1; have q5 := zx35.2.2; have q6 := p17.1; have q7 := p17.2; have q8 := (gc_nle zc15); have q9 := (g_eq0 zx35.1); omega) (Nat.le_of_lt_succ hm9))
  refine g_lsub [2, 3, 1, 0] [(0, .ref (ad 33)), (1, .int 6), (2, .int (-1)), (3, .int 0)] rfl ?_
  exact J9 _ F4 R5 (-1) 0 oF4 fF4 oR5 fR5 (jv_w (jv_k (x := (-1)) (-1) (by decide)) (by decide)) (jv_w (jv_k (x := 0) 0 (by decide)) (by decide)) (Nat.lt_succ_self _)
theorem e_X3_piece_17 : g_dc cX3_piece 17 (.aload_n 0) 1 18 := ⟨by decide +kernel, rfl⟩
theorem e_X3_piece_18 : g_dc cX3_piece 18 (.iload_n 1) 1 19 := ⟨by decide +kernel, rfl⟩
theorem e_X3_piece_19 : g_dc cX3_piece 19 (.iconst 1) 1 20 := ⟨by decide +kernel, rfl⟩
theorem e_X3_piece_20 : g_dc cX3_piece 20 (.iadd) 1 21 := ⟨by decide +kernel, rfl⟩
theorem e_X3_piece_21 : g_dc cX3_piece 21 (.invokevirtual 86) 3 24 := ⟨by decide +kernel, rfl⟩
theorem e_X3_piece_24 : g_dc cX3_piece 24 (.aload_n 0) 1 25 := ⟨by decide +kernel, rfl⟩
theorem e_X3_piece_25 : g_dc cX3_piece 25 (.getfield 25) 3 28 := ⟨by decide +kernel, rfl⟩
theorem e_X3_piece_28 : g_dc cX3_piece 28 (.iconst 3) 1 29 := ⟨by decide +kernel, rfl⟩
theorem e_X3_piece_29 : g_dc cX3_piece 29 (.iconst 0) 1 30 := ⟨by decide +kernel, rfl⟩
theorem e_X3_piece_30 : g_dc cX3_piece 30 (.invokevirtual 66) 3 33 := ⟨by decide +kernel, rfl⟩
theorem e_X3_piece_33 : g_dc cX3_piece 33 (.pop) 1 34 := ⟨by decide +kernel, rfl⟩
theorem e_X3_piece_34 : g_dc cX3_piece 34 (.goto 41) 3 37 := ⟨by decide +kernel, rfl⟩
theorem e_X3_piece_54 : g_dc cX3_piece 54 (.aload_n 0) 1 55 := ⟨by decide +kernel, rfl⟩
theorem e_X3_piece_55 : g_dc cX3_piece 55 (.iload_n 1) 1 56 := ⟨by decide +kernel, rfl⟩
theorem e_X3_piece_56 : g_dc cX3_piece 56 (.iconst 1) 1 57 := ⟨by decide +kernel, rfl⟩
theorem e_X3_piece_57 : g_dc cX3_piece 57 (.iadd) 1 58 := ⟨by decide +kernel, rfl⟩
theorem e_X3_piece_58 : g_dc cX3_piece 58 (.invokevirtual 73) 3 61 := ⟨by decide +kernel, rfl⟩
theorem e_X3_piece_61 : g_dc cX3_piece 61 (.aload_n 0) 1 62 := ⟨by decide +kernel, rfl⟩
theorem e_X3_piece_62 : g_dc cX3_piece 62 (.bipush 41) 2 64 := ⟨by decide +kernel, rfl⟩
theorem e_X3_piece_64 : g_dc cX3_piece 64 (.invokevirtual 70) 3 67 := ⟨by decide +kernel, rfl⟩
theorem e_X3_piece_67 : g_dc cX3_piece 67 (.goto 8) 3 70 := ⟨by decide +kernel, rfl⟩
def md_X3_piece_c5 : List Nat := [402, 531, 532]
def mr_X3_piece_c5 : List Nat := [26, 27]
set_option maxHeartbeats 4000000 in
set_option maxRecDepth 100000 in
theorem w_X3_piece_c5 (l : Launch) (X : gX) (ad : Nat → Nat) (F : Nat → Int32) (R : Nat → Nat → Int32) (hI : g_ok LK_wX F) (hA : g_okR LA_wX R) : g_Cv l X yX3_piece cX3_piece 2 12 0 0 [.ref (ad 33), .int 5] (wX X ad F R) (fun w => ∃ (F' : Nat → Int32) (R' : Nat → Nat → Int32), w = wX X ad F' R' ∧ g_ok LK_wX F' ∧ g_okR LA_wX R' ∧ g_fr md_X3_piece_c5 F F' ∧ g_fr mr_X3_piece_c5 R R') := by
  refine g_mv (by decide +kernel) (Nat.le_of_ble_eq_true rfl) (fun E cx hret => ?_)
  refine g_aload_n cx 0 rfl e_X3_piece_0 ?_
  refine g_cViW cx [] [] (w_X3_sign l X ad F R hI hA) ml_X3_42 yV_X3_sign e_X3_piece_1 (by unfold g_rr; decide) (by decide) 33 rfl rfl rfl (Nat.le_of_ble_eq_true rfl) (fun r1 w2 h3 => ?_)
  obtain ⟨rfl, pr1⟩ := h3
  refine g_bipush cx 33 (by decide) e_X3_piece_4 ?_
  have J75 : ∀ (F4 : Nat → Int32) (R5 : Nat → Nat → Int32), (g_ok LK_wX F4) → (g_fr md_X3_piece_c5 F F4) → (g_okR LA_wX R5) → (g_fr mr_X3_piece_c5 R R5) → G X E 2 0 0 (wX X ad F4 R5) [] 75 [] := by
    intro F4 R5 oF4 fF4 oR5 fR5
    exact hret e_X3_piece_75 (Nat.le_of_ble_eq_true rfl) (Nat.le_of_ble_eq_true rfl) ⟨F4, R5, rfl, oF4, oR5, fF4, fR5⟩
  refine g_icmp_ne cx 37 e_X3_piece_6 (by decide) (fun zc6 => ?_) (fun zc6 => ?_)
  · refine g_aload_n cx 0 rfl e_X3_piece_37 ?_
    refine g_cViW cx [] [] (w_X3_sign l X ad F R hI hA) ml_X3_42 yV_X3_sign e_X3_piece_38 (by unfold g_rr; decide) (by decide) 33 rfl rfl rfl (Nat.le_of_ble_eq_true rfl) (fun r7 w8 h9 => ?_)
    obtain ⟨rfl, pr7⟩ := h9
    refine g_bipush cx 40 (by decide) e_X3_piece_41 ?_
    refine g_icmp_ne cx 70 e_X3_piece_43 (by decide) (fun zc10 => ?_) (fun zc10 => ?_)
    · refine g_aload_n cx 0 rfl e_X3_piece_70 ?_
      refine g_iload_n cx 1 rfl e_X3_piece_71 ?_
      refine g_cVvW cx [.int 5] [] (w_X3_comparison_c5 l X ad F R hI hA) ml_X3_93 yV_X3_comparison e_X3_piece_72 (by unfold g_rr; decide) (by decide) 33 rfl rfl rfl (Nat.le_of_ble_eq_true rfl) (fun w12 h13 => ?_)
      obtain ⟨F14, R15, rfl, oF14, oR15, cF14, cR15⟩ := h13
      have fF14 : g_fr md_X3_piece_c5 F F14 := g_fr_c (g_fr_rf F) cF14 rfl
      have fR15 : g_fr mr_X3_piece_c5 R R15 := g_fr_c (g_fr_rf R) cR15 rfl
      refine g_lsub [] [] rfl ?_
      exact J75 F14 R15 oF14 fF14 oR15 fR15
    · have p16 := gn_eq 40 40 (gc_eq zc10) pr7 (jv_k (x := 40) 40 (by decide)) (by decide)
      refine g_aload_n cx 0 rfl e_X3_piece_46 ?_
      refine g_iload_n cx 1 rfl e_X3_piece_47 ?_
      refine g_cViW cx [.int 5] [] (w_X3_opens_c5 l X ad F R hI hA) ml_X3_89 yV_X3_opens e_X3_piece_48 (by unfold g_rr; decide) (by decide) 33 rfl rfl rfl (Nat.le_of_ble_eq_true rfl) (fun r17 w18 h19 => ?_)
      obtain ⟨F20, R21, rfl, oF20, oR21, cF20, cR21, pr17⟩ := h19
      have fF20 : g_fr md_X3_piece_c5 F F20 := g_fr_c (g_fr_rf F) cF20 rfl
      have fR21 : g_fr mr_X3_piece_c5 R R21 := g_fr_c (g_fr_rf R) cR21 rfl
      refine g_if_eq cx 75 e_X3_piece_51 (by decide) (fun zc22 => ?_) (fun zc22 => ?_)
      · exact (gf_eq (gc_eq zc22) pr17 (jv_k (x := 0) 0 (by decide)) (by decide)).elim
      · refine g_aload_n cx 0 rfl e_X3_piece_54 ?_
        refine g_iload_n cx 1 rfl e_X3_piece_55 ?_
        refine g_iconst cx 1 (by decide) e_X3_piece_56 ?_
        refine g_iadd cx e_X3_piece_57 ?_
        refine g_toi 6 (by decide) ?_
        refine g_cVvW cx [.int 6] [] (w_X3_parts_c6 l X ad F20 R21 oF20 oR21) ml_X3_73 yV_X3_parts e_X3_piece_58 (by unfold g_rr; decide) (by decide) 33 rfl rfl rfl (Nat.le_of_ble_eq_true rfl) (fun w24 h25 => ?_)
        obtain ⟨F26, R27, rfl, oF26, oR27, cF26, cR27⟩ := h25
        have fF26 : g_fr md_X3_piece_c5 F F26 := g_fr_c fF20 cF26 rfl
        have fR27 : g_fr mr_X3_piece_c5 R R27 := g_fr_c fR21 cR27 rfl
        refine g_aload_n cx 0 rfl e_X3_piece_61 ?_
        refine g_bipush cx 41 (by decide) e_X3_piece_62 ?_
        refine g_cVvW cx [.int 41] [] (w_X3_pass l X ad F26 R27 oF26 oR27 41) ml_X3_70 yV_X3_pass e_X3_piece_64 (by unfold g_rr; decide) (by decide) 33 rfl rfl rfl (Nat.le_of_ble_eq_true rfl) (fun w29 h30 => ?_)
        obtain ⟨F31, R32, rfl, oF31, oR32, cF31, cR32⟩ := h30
        have fF31 : g_fr md_X3_piece_c5 F F31 := g_fr_c fF26 cF31 rfl
        have fR32 : g_fr mr_X3_piece_c5 R R32 := g_fr_c fR27 cR32 rfl
        refine g_goto cx 75 e_X3_piece_67 (by decide) ?_
        refine g_lsub [] [] rfl ?_
        exact J75 F31 R32 oF31 fF31 oR32 fR32
  · have p33 := gn_eq 33 33 (gc_eq zc6) pr1 (jv_k (x := 33) 33 (by decide)) (by decide)
    refine g_aload_n cx 0 rfl e_X3_piece_9 ?_
    refine g_iload_n cx 1 rfl e_X3_piece_10 ?_
    refine g_cViW cx [.int 5] [] (w_X3_opens_c5 l X ad F R hI hA) ml_X3_89 yV_X3_opens e_X3_piece_11 (by unfold g_rr; decide) (by decide) 33 rfl rfl rfl (Nat.le_of_ble_eq_true rfl) (fun r34 w35 h36 => ?_)
    obtain ⟨F37, R38, rfl, oF37, oR38, cF37, cR38, pr34⟩ := h36
    have fF37 : g_fr md_X3_piece_c5 F F37 := g_fr_c (g_fr_rf F) cF37 rfl
    have fR38 : g_fr mr_X3_piece_c5 R R38 := g_fr_c (g_fr_rf R) cR38 rfl
    refine g_if_eq cx 75 e_X3_piece_14 (by decide) (fun zc39 => ?_) (fun zc39 => ?_)
    · exact (gf_eq (gc_eq zc39) pr34 (jv_k (x := 0) 0 (by decide)) (by decide)).elim
    · refine g_aload_n cx 0 rfl e_X3_piece_17 ?_
      refine g_iload_n cx 1 rfl e_X3_piece_18 ?_
      refine g_iconst cx 1 (by decide) e_X3_piece_19 ?_
      refine g_iadd cx e_X3_piece_20 ?_
      refine g_toi 6 (by decide) ?_
      refine g_cVvW cx [.int 6] [] (w_X3_piece_c6 l X ad F37 R38 oF37 oR38) ml_X3_86 yV_X3_piece e_X3_piece_21 (by unfold g_rr; decide) (by decide) 33 rfl rfl rfl (Nat.le_of_ble_eq_true rfl) (fun w41 h42 => ?_)
      obtain ⟨F43, R44, rfl, oF43, oR44, cF43, cR44⟩ := h42
      have fF43 : g_fr md_X3_piece_c5 F F43 := g_fr_c fF37 cF43 rfl
      have fR44 : g_fr mr_X3_piece_c5 R R44 := g_fr_c fR38 cR44 rfl
      refine g_aload_n cx 0 rfl e_X3_piece_24 ?_
      refine g_get cx cl_X3 fl_X3_25 33 (.ref (ad 25)) e_X3_piece_25 rfl rfl ?_
      refine g_iconst cx 3 (by decide) e_X3_piece_28 ?_
      refine g_iconst cx 0 (by decide) e_X3_piece_29 ?_
      refine g_cViW cx [.int 3, .int 0] [] (w_X2_emit_25 l X ad F43 R44 oF43 oR44 3 0) ml_X3_66 yV_X2_emit e_X3_piece_30 (by unfold g_rr; decide) (by decide) 25 rfl rfl rfl (Nat.le_of_ble_eq_true rfl) (fun r45 w46 h47 => ?_)
      obtain ⟨F48, R49, rfl, oF48, oR49, cF48, cR49, pr45⟩ := h47
      have fF48 : g_fr md_X3_piece_c5 F F48 := g_fr_c fF43 cF48 rfl
      have fR49 : g_fr mr_X3_piece_c5 R R49 := g_fr_c fR44 cR49 rfl
      refine g_pop cx rfl e_X3_piece_33 ?_
      refine g_goto cx 75 e_X3_piece_34 (by decide) ?_
      refine g_lsub [] [] rfl ?_
      exact J75 F48 R49 oF48 fF48 oR49 fR49
def md_X3_pieces_c5 : List Nat := [402, 531, 532]
def mr_X3_pieces_c5 : List Nat := [26, 27]
set_option maxHeartbeats 4000000 in
set_option maxRecDepth 100000 in
theorem w_X3_pieces_c5 (l : Launch) (X : gX) (ad : Nat → Nat) (F : Nat → Int32) (R : Nat → Nat → Int32) (hI : g_ok LK_wX F) (hA : g_okR LA_wX R) : g_Cv l X yX3_pieces cX3_pieces 4 13 0 0 [.ref (ad 33), .int 5] (wX X ad F R) (fun w => ∃ (F' : Nat → Int32) (R' : Nat → Nat → Int32), w = wX X ad F' R' ∧ g_ok LK_wX F' ∧ g_okR LA_wX R' ∧ g_fr md_X3_pieces_c5 F F' ∧ g_fr mr_X3_pieces_c5 R R') := by
  refine g_mv (by decide +kernel) (Nat.le_of_ble_eq_true rfl) (fun E cx hret => ?_)
  refine g_aload_n cx 0 rfl e_X3_pieces_0 ?_
  refine g_iload_n cx 1 rfl e_X3_pieces_1 ?_
  refine g_cVvW cx [.int 5] [] (w_X3_piece_c5 l X ad F R hI hA) ml_X3_86 yV_X3_piece e_X3_pieces_2 (by unfold g_rr; decide) (by decide) 33 rfl rfl rfl (Nat.le_of_ble_eq_true rfl) (fun w2 h3 => ?_)
  obtain ⟨F4, R5, rfl, oF4, oR5, cF4, cR5⟩ := h3
  have fF4 : g_fr md_X3_pieces_c5 F F4 := g_fr_c (g_fr_rf F) cF4 rfl
  have fR5 : g_fr mr_X3_pieces_c5 R R5 := g_fr_c (g_fr_rf R) cR5 rfl
  refine g_iconst cx (-1) (by decide) e_X3_pieces_5 ?_
  refine g_istore_n cx [(2, .int (-1)), (0, .ref (ad 33)), (1, .int 5)] e_X3_pieces_6 (by decide) rfl ?_
  refine g_iconst cx 0 (by decide) e_X3_pieces_7 ?_
  refine g_istore_n cx [(3, .int 0), (2, .int (-1)), (0, .ref (ad 33)), (1, .int 5)] e_X3_pieces_8 (by decide) rfl ?_
  have J9 : ∀ (N : Nat) (F8 : Nat → Int32) (R9 : Nat → Nat → Int32) (y6 : Int32) (y7 : Int32), (g_ok LK_wX F8) → (g_fr md_X3_pieces_c5 F F8) → (g_okR LA_wX R9) → (g_fr mr_X3_pieces_c5 R R9) → (jv (-1) 256 y6) → (jv 0 200 y7) → (2147483647 - y7.toInt).toNat < N → G X E 4 0 0 (wX X ad F8 R9) [(0, .ref (ad 33)), (1, .int 5), (2, .int y6), (3, .int y7)] 9 [] := by
    intro N
    induction N with
    | zero => intro F8 R9 y6 y7 oF8 fF8 oR9 fR9 py6 py7 hm; exact absurd hm (Nat.not_lt_zero _)
    | succ N ih9 =>
      intro F8 R9 y6 y7 oF8 fF8 oR9 fR9 py6 py7 hm9
      refine g_iload_n cx 3 rfl e_X3_pieces_9 ?_
      refine g_sipush cx 200 (by decide) e_X3_pieces_10 ?_
      have J56 : G X E 4 0 0 (wX X ad F8 R9) [(0, .ref (ad 33)), (2, .int y6)] 56 [] := by
        refine g_aload_n cx 0 rfl e_X3_pieces_56 ?_
        refine g_get cx cl_X3 fl_X3_25 33 (.ref (ad 25)) e_X3_pieces_57 rfl rfl ?_
        refine g_iload_n cx 1 rfl e_X3_pieces_60 ?_
        refine g_cVvW cx [.int y6] [] (w_X2_landHere_25 l X ad F8 R9 oF8 oR9 y6) ml_X3_83 yV_X2_landHere e_X3_pieces_61 (by unfold g_rr; decide) (by decide) 25 rfl rfl rfl (Nat.le_of_ble_eq_true rfl) (fun w11 h12 => ?_)
        obtain ⟨F13, R14, rfl, oF13, oR14, cF13, cR14⟩ := h12
        have fF13 : g_fr md_X3_pieces_c5 F F13 := g_fr_c fF8 cF13 rfl
        have fR14 : g_fr mr_X3_pieces_c5 R R14 := g_fr_c fR9 cR14 rfl
        exact hret e_X3_pieces_64 (Nat.le_of_ble_eq_true rfl) (Nat.le_of_ble_eq_true rfl) ⟨F13, R14, rfl, oF13, oR14, fF13, fR14⟩
      refine g_icmp_ge cx 56 e_X3_pieces_13 (by decide) (fun zc15 => ?_) (fun zc15 => ?_)
      · have p16 := gn_ge 200 200 (gc_le zc15) py7 (jv_k (x := 200) 200 (by decide)) (by decide)
        refine g_lsub [0, 2] [(0, .ref (ad 33)), (2, .int y6)] rfl ?_
        exact J56  
      · have p17 := gn_lt 0 199 (gc_nle zc15) py7 (jv_k (x := 200) 200 (by decide)) (by decide)
        refine g_aload_n cx 0 rfl e_X3_pieces_16 ?_
        refine g_cViW cx [] [] (w_X3_sign l X ad F8 R9 oF8 oR9) ml_X3_42 yV_X3_sign e_X3_pieces_17 (by unfold g_rr; decide) (by decide) 33 rfl rfl rfl (Nat.le_of_ble_eq_true rfl) (fun r18 w19 h20 => ?_)
        obtain ⟨rfl, pr18⟩ := h20
        refine g_bipush cx 38 (by decide) e_X3_pieces_20 ?_
        refine g_icmp_ne cx 56 e_X3_pieces_22 (by decide) (fun zc21 => ?_) (fun zc21 => ?_)
        · refine g_lsub [0, 2] [(0, .ref (ad 33)), (2, .int y6)] rfl ?_
          exact J56  
        · have p22 := gn_eq 38 38 (gc_eq zc21) pr18 (jv_k (x := 38) 38 (by decide)) (by decide)
          refine g_aload_n cx 0 rfl e_X3_pieces_25 ?_
          refine g_dup cx rfl e_X3_pieces_26 ?_
          refine g_get cx cl_X3 fl_X3_19 33 (.int (F8 531)) e_X3_pieces_27 rfl rfl ?_
          refine g_iconst cx 1 (by decide) e_X3_pieces_30 ?_
          refine g_iadd cx e_X3_pieces_31 ?_
          refine g_topi (fun x23 ex23 => ?_)
          refine g_put cx cl_X3 fl_X3_19 33 (wX X ad (upd F8 531 x23) R9) e_X3_pieces_32 rfl rfl rfl rfl (Nat.le_of_ble_eq_true rfl) rfl ?_
          obtain ⟨F24, hF24⟩ : ∃ z, z = upd F8 531 x23 := ⟨_, rfl⟩
          rw [← hF24]
          have oF24 : g_ok LK_wX F24 := by rw [hF24]; exact g_ok_u oF8 rfl
          have fF24 : g_fr md_X3_pieces_c5 F F24 := by rw [hF24]; exact g_fr_u fF8 rfl
          refine g_aload_n cx 0 rfl e_X3_pieces_35 ?_
          refine g_get cx cl_X3 fl_X3_25 33 (.ref (ad 25)) e_X3_pieces_36 rfl rfl ?_
          refine g_iconst cx 4 (by decide) e_X3_pieces_39 ?_
          refine g_iload_n cx 2 rfl e_X3_pieces_40 ?_
          refine g_cViW cx [.int 4, .int y6] [] (w_X2_emit_25 l X ad F24 R9 oF24 oR9 4 y6) ml_X3_66 yV_X2_emit e_X3_pieces_41 (by unfold g_rr; decide) (by decide) 25 rfl rfl rfl (Nat.le_of_ble_eq_true rfl) (fun r25 w26 h27 => ?_)
          obtain ⟨F28, R29, rfl, oF28, oR29, cF28, cR29, pr25⟩ := h27
          have fF28 : g_fr md_X3_pieces_c5 F F28 := g_fr_c fF24 cF28 rfl
          have fR29 : g_fr mr_X3_pieces_c5 R R29 := g_fr_c fR9 cR29 rfl
          refine g_istore_n cx [(2, .int r25), (0, .ref (ad 33)), (1, .int 5), (3, .int y7)] e_X3_pieces_44 (by decide) rfl ?_
          refine g_aload_n cx 1 rfl e_X3_pieces_45 ?_
          refine g_iload_n cx 2 rfl e_X3_pieces_46 ?_
          refine g_cVvW cx [.int 5] [] (w_X3_piece_c5 l X ad F28 R29 oF28 oR29) ml_X3_86 yV_X3_piece e_X3_pieces_47 (by unfold g_rr; decide) (by decide) 33 rfl rfl rfl (Nat.le_of_ble_eq_true rfl) (fun w31 h32 => ?_)
          obtain ⟨F33, R34, rfl, oF33, oR34, cF33, cR34⟩ := h32
          have fF33 : g_fr md_X3_pieces_c5 F F33 := g_fr_c fF28 cF33 rfl
          have fR34 : g_fr mr_X3_pieces_c5 R R34 := g_fr_c fR29 cR34 rfl
          obtain ⟨x35, ex35⟩ : ∃ z : Int32, z = y7 + Int32.ofInt 1 := ⟨_, rfl⟩
          refine g_iinc cx x35 [(3, .int x35), (2, .int r25), (0, .ref (ad 33)), (1, .int 5)] 3 e_X3_pieces_50 rfl ex35.symm (by decide) rfl ?_
          have zx35 := jv_add 1 200 (show x35 = y7 + 1 from ex35) p17 (jv_k (x := 1) 1 (by decide)) (by decide)
          refine g_goto cx 9 e_X3_pieces_53 (by decide) ?_
          refine g_lsub [2, 3, 1, 0] [(0, .ref (ad 33)), (1, .int 5), (2, .int r25), (3, .int x35)] rfl ?_
          exact ih9 F33 R34 r25 x35 oF33 fF33 oR34 fR34 (jv_w pr25 (by decide)) (jv_w zx35.2 (by decide)) (Nat.lt_of_lt_of_le (show (2147483647 - x35.toInt).toNat < (2147483647 - y7.toInt).toNat from by have q0 := (jv_k (x := 1) 1 (by decide)).1; have q1 := (jv_k (x := 1) 1 (by decide)).2; have q2 := (jv_k (x := 200) 200 (by decide)).1; have q3 := (jv_k (x := 200) 200 (by decide)).2; have q4 := zx35.2.1; have q5 := zx35.2.2; have q6 := p17.1; have q7 := p17.2; have q8 := (gc_nle zc15); have q9 := (g_eq0 zx35.1); omega) (Nat.le_of_lt_succ hm9))
  refine g_lsub [2, 3, 1, 0] [(0, .ref (ad 33)), (1, .int 5), (2, .int (-1)), (3, .int 0)] rfl ?_
  exact J9 _ F4 R5 (-1) 0 oF4 fF4 oR5 fR5 (jv_w (jv_k (x := (-1)) (-1) (by decide)) (by decide)) (jv_w (jv_k (x := 0) 0 (by decide)) (by decide)) (Nat.lt_succ_self _)
def md_X3_parts_c5 : List Nat := [402, 531, 532]
def mr_X3_parts_c5 : List Nat := [26, 27]
set_option maxHeartbeats 4000000 in
set_option maxRecDepth 100000 in
theorem w_X3_parts_c5 (l : Launch) (X : gX) (ad : Nat → Nat) (F : Nat → Int32) (R : Nat → Nat → Int32) (hI : g_ok LK_wX F) (hA : g_okR LA_wX R) : g_Cv l X yX3_parts cX3_parts 4 14 0 0 [.ref (ad 33), .int 5] (wX X ad F R) (fun w => ∃ (F' : Nat → Int32) (R' : Nat → Nat → Int32), w = wX X ad F' R' ∧ g_ok LK_wX F' ∧ g_okR LA_wX R' ∧ g_fr md_X3_parts_c5 F F' ∧ g_fr mr_X3_parts_c5 R R') := by
  refine g_mv (by decide +kernel) (Nat.le_of_ble_eq_true rfl) (fun E cx hret => ?_)
  refine g_aload_n cx 0 rfl e_X3_parts_0 ?_
  refine g_iload_n cx 1 rfl e_X3_parts_1 ?_
  refine g_cVvW cx [.int 5] [] (w_X3_pieces_c5 l X ad F R hI hA) ml_X3_80 yV_X3_pieces e_X3_parts_2 (by unfold g_rr; decide) (by decide) 33 rfl rfl rfl (Nat.le_of_ble_eq_true rfl) (fun w2 h3 => ?_)
  obtain ⟨F4, R5, rfl, oF4, oR5, cF4, cR5⟩ := h3
  have fF4 : g_fr md_X3_parts_c5 F F4 := g_fr_c (g_fr_rf F) cF4 rfl
  have fR5 : g_fr mr_X3_parts_c5 R R5 := g_fr_c (g_fr_rf R) cR5 rfl
  refine g_iconst cx (-1) (by decide) e_X3_parts_5 ?_
  refine g_istore_n cx [(2, .int (-1)), (0, .ref (ad 33)), (1, .int 5)] e_X3_parts_6 (by decide) rfl ?_
  refine g_iconst cx 0 (by decide) e_X3_parts_7 ?_
  refine g_istore_n cx [(3, .int 0), (2, .int (-1)), (0, .ref (ad 33)), (1, .int 5)] e_X3_parts_8 (by decide) rfl ?_
  have J9 : ∀ (N : Nat) (F8 : Nat → Int32) (R9 : Nat → Nat → Int32) (y6 : Int32) (y7 : Int32), (g_ok LK_wX F8) → (g_fr md_X3_parts_c5 F F8) → (g_okR LA_wX R9) → (g_fr mr_X3_parts_c5 R R9) → (jv (-1) 256 y6) → (jv 0 200 y7) → (2147483647 - y7.toInt).toNat < N → G X E 4 0 0 (wX X ad F8 R9) [(0, .ref (ad 33)), (1, .int 5), (2, .int y6), (3, .int y7)] 9 [] := by
    intro N
    induction N with
    | zero => intro F8 R9 y6 y7 oF8 fF8 oR9 fR9 py6 py7 hm; exact absurd hm (Nat.not_lt_zero _)
    | succ N ih9 =>
      intro F8 R9 y6 y7 oF8 fF8 oR9 fR9 py6 py7 hm9
      refine g_iload_n cx 3 rfl e_X3_parts_9 ?_
      refine g_sipush cx 200 (by decide) e_X3_parts_10 ?_
      have J56 : G X E 4 0 0 (wX X ad F8 R9) [(0, .ref (ad 33)), (2, .int y6)] 56 [] := by
        refine g_aload_n cx 0 rfl e_X3_parts_56 ?_
        refine g_get cx cl_X3 fl_X3_25 33 (.ref (ad 25)) e_X3_parts_57 rfl rfl ?_
        refine g_iload_n cx 1 rfl e_X3_parts_60 ?_
        refine g_cVvW cx [.int y6] [] (w_X2_landHere_25 l X ad F8 R9 oF8 oR9 y6) ml_X3_83 yV_X2_landHere e_X3_parts_61 (by unfold g_rr; decide) (by decide) 25 rfl rfl rfl (Nat.le_of_ble_eq_true rfl) (fun w11 h12 => ?_)
        obtain ⟨F13, R14, rfl, oF13, oR14, cF13, cR14⟩ := h12
        have fF13 : g_fr md_X3_parts_c5 F F13 := g_fr_c fF8 cF13 rfl
        have fR14 : g_fr mr_X3_parts_c5 R R14 := g_fr_c fR9 cR14 rfl
        exact hret e_X3_parts_64 (Nat.le_of_ble_eq_true rfl) (Nat.le_of_ble_eq_true rfl) ⟨F13, R14, rfl, oF13, oR14, fF13, fR14⟩
      refine g_icmp_ge cx 56 e_X3_parts_13 (by decide) (fun zc15 => ?_) (fun zc15 => ?_)
      · have p16 := gn_ge 200 200 (gc_le zc15) py7 (jv_k (x := 200) 200 (by decide)) (by decide)
        refine g_lsub [0, 2] [(0, .ref (ad 33)), (2, .int y6)] rfl ?_
        exact J56  
      · have p17 := gn_lt 0 199 (gc_nle zc15) py7 (jv_k (x := 200) 200 (by decide)) (by decide)
        refine g_aload_n cx 0 rfl e_X3_parts_16 ?_
        refine g_cViW cx [] [] (w_X3_sign l X ad F8 R9 oF8 oR9) ml_X3_42 yV_X3_sign e_X3_parts_17 (by unfold g_rr; decide) (by decide) 33 rfl rfl rfl (Nat.le_of_ble_eq_true rfl) (fun r18 w19 h20 => ?_)
        obtain ⟨rfl, pr18⟩ := h20
        refine g_bipush cx 124 (by decide) e_X3_parts_20 ?_
        refine g_icmp_ne cx 56 e_X3_parts_22 (by decide) (fun zc21 => ?_) (fun zc21 => ?_)
        · refine g_lsub [0, 2] [(0, .ref (ad 33)), (2, .int y6)] rfl ?_
          exact J56  
        · have p22 := gn_eq 124 124 (gc_eq zc21) pr18 (jv_k (x := 124) 124 (by decide)) (by decide)
          refine g_aload_n cx 0 rfl e_X3_parts_25 ?_
          refine g_dup cx rfl e_X3_parts_26 ?_
          refine g_get cx cl_X3 fl_X3_19 33 (.int (F8 531)) e_X3_parts_27 rfl rfl ?_
          refine g_iconst cx 1 (by decide) e_X3_parts_30 ?_
          refine g_iadd cx e_X3_parts_31 ?_
          refine g_topi (fun x23 ex23 => ?_)
          refine g_put cx cl_X3 fl_X3_19 33 (wX X ad (upd F8 531 x23) R9) e_X3_parts_32 rfl rfl rfl rfl (Nat.le_of_ble_eq_true rfl) rfl ?_
          obtain ⟨F24, hF24⟩ : ∃ z, z = upd F8 531 x23 := ⟨_, rfl⟩
          rw [← hF24]
          have oF24 : g_ok LK_wX F24 := by rw [hF24]; exact g_ok_u oF8 rfl
          have fF24 : g_fr md_X3_parts_c5 F F24 := by rw [hF24]; exact g_fr_u fF8 rfl
          refine g_aload_n cx 0 rfl e_X3_parts_35 ?_
          refine g_get cx cl_X3 fl_X3_25 33 (.ref (ad 25)) e_X3_parts_36 rfl rfl ?_
          refine g_iconst cx 5 (by decide) e_X3_parts_39 ?_
          refine g_iload_n cx 2 rfl e_X3_parts_40 ?_
          refine g_cViW cx [.int 5, .int y6] [] (w_X2_emit_25 l X ad F24 R9 oF24 oR9 5 y6) ml_X3_66 yV_X2_emit e_X3_parts_41 (by unfold g_rr; decide) (by decide) 25 rfl rfl rfl (Nat.le_of_ble_eq_true rfl) (fun r25 w26 h27 => ?_)
          obtain ⟨F28, R29, rfl, oF28, oR29, cF28, cR29, pr25⟩ := h27
          have fF28 : g_fr md_X3_parts_c5 F F28 := g_fr_c fF24 cF28 rfl
          have fR29 : g_fr mr_X3_parts_c5 R R29 := g_fr_c fR9 cR29 rfl
          refine g_istore_n cx [(2, .int r25), (0, .ref (ad 33)), (1, .int 5), (3, .int y7)] e_X3_parts_44 (by decide) rfl ?_
          refine g_aload_n cx 1 rfl e_X3_parts_45 ?_
          refine g_iload_n cx 2 rfl e_X3_parts_46 ?_
          refine g_cVvW cx [.int 5] [] (w_X3_pieces_c5 l X ad F28 R29 oF28 oR29) ml_X3_80 yV_X3_pieces e_X3_parts_47 (by unfold g_rr; decide) (by decide) 33 rfl rfl rfl (Nat.le_of_ble_eq_true rfl) (fun w31 h32 => ?_)
          obtain ⟨F33, R34, rfl, oF33, oR34, cF33, cR34⟩ := h32
          have fF33 : g_fr md_X3_parts_c5 F F33 := g_fr_c fF28 cF33 rfl
          have fR34 : g_fr mr_X3_parts_c5 R R34 := g_fr_c fR29 cR34 rfl
          obtain ⟨x35, ex35⟩ : ∃ z : Int32, z = y7 + Int32.ofInt 1 := ⟨_, rfl⟩
          refine g_iinc cx x35 [(3, .int x35), (2, .int r25), (0, .ref (ad 33)), (1, .int 5)] 3 e_X3_parts_50 rfl ex35.symm (by decide) rfl ?_
          have zx35 := jv_add 1 200 (show x35 = y7 + 1 from ex35) p17 (jv_k (x := 1) 1 (by decide)) (by decide)
          refine g_goto cx 9 e_X3_parts_53 (by decide) ?_
          refine g_lsub [2, 3, 1, 0] [(0, .ref (ad 33)), (1, .int 5), (2, .int r25), (3, .int x35)] rfl ?_
          exact ih9 F33 R34 r25 x35 oF33 fF33 oR34 fR34 (jv_w pr25 (by decide)) (jv_w zx35.2 (by decide)) (Nat.lt_of_lt_of_le (show (2147483647 - x35.toInt).toNat < (2147483647 - y7.toInt).toNat from by have q0 := (jv_k (x := 1) 1 (by decide)).1; have q1 := (jv_k (x := 1) 1 (by decide)).2; have q2 := (jv_k (x := 200) 200 (by decide)).1; have q3 := (jv_k (x := 200) 200 (by decide)).2; have q4 := zx35.2.1; have q5 := zx35.2.2; have q6 := p17.1; have q7 := p17.2; have q8 := (gc_nle zc15); have q9 := (g_eq0 zx35.1); omega) (Nat.le_of_lt_succ hm9))
  refine g_lsub [2, 3, 1, 0] [(0, .ref (ad 33)), (1, .int 5), (2, .int (-1)), (3, .int 0)] rfl ?_
  exact J9 _ F4 R5 (-1) 0 oF4 fF4 oR5 fR5 (jv_w (jv_k (x := (-1)) (-1) (by decide)) (by decide)) (jv_w (jv_k (x := 0) 0 (by decide)) (by decide)) (Nat.lt_succ_self _)
def md_X3_piece_c4 : List Nat := [402, 531, 532]
def mr_X3_piece_c4 : List Nat := [26, 27]
set_option maxHeartbeats 4000000 in
set_option maxRecDepth 100000 in
theorem w_X3_piece_c4 (l : Launch) (X : gX) (ad : Nat → Nat) (F : Nat → Int32) (R : Nat → Nat → Int32) (hI : g_ok LK_wX F) (hA : g_okR LA_wX R) : g_Cv l X yX3_piece cX3_piece 2 15 0 0 [.ref (ad 33), .int 4] (wX X ad F R) (fun w => ∃ (F' : Nat → Int32) (R' : Nat → Nat → Int32), w = wX X ad F' R' ∧ g_ok LK_wX F' ∧ g_okR LA_wX R' ∧ g_fr md_X3_piece_c4 F F' ∧ g_fr mr_X3_piece_c4 R R') := by
  refine g_mv (by decide +kernel) (Nat.le_of_ble_eq_true rfl) (fun E cx hret => ?_)
  refine g_aload_n cx 0 rfl e_X3_piece_0 ?_
  refine g_cViW cx [] [] (w_X3_sign l X ad F R hI hA) ml_X3_42 yV_X3_sign e_X3_piece_1 (by unfold g_rr; decide) (by decide) 33 rfl rfl rfl (Nat.le_of_ble_eq_true rfl) (fun r1 w2 h3 => ?_)
  obtain ⟨rfl, pr1⟩ := h3
  refine g_bipush cx 33 (by decide) e_X3_piece_4 ?_
  have J75 : ∀ (F4 : Nat → Int32) (R5 : Nat → Nat → Int32), (g_ok LK_wX F4) → (g_fr md_X3_piece_c4 F F4) → (g_okR LA_wX R5) → (g_fr mr_X3_piece_c4 R R5) → G X E 2 0 0 (wX X ad F4 R5) [] 75 [] := by
    intro F4 R5 oF4 fF4 oR5 fR5
    exact hret e_X3_piece_75 (Nat.le_of_ble_eq_true rfl) (Nat.le_of_ble_eq_true rfl) ⟨F4, R5, rfl, oF4, oR5, fF4, fR5⟩
  refine g_icmp_ne cx 37 e_X3_piece_6 (by decide) (fun zc6 => ?_) (fun zc6 => ?_)
  · refine g_aload_n cx 0 rfl e_X3_piece_37 ?_
    refine g_cViW cx [] [] (w_X3_sign l X ad F R hI hA) ml_X3_42 yV_X3_sign e_X3_piece_38 (by unfold g_rr; decide) (by decide) 33 rfl rfl rfl (Nat.le_of_ble_eq_true rfl) (fun r7 w8 h9 => ?_)
    obtain ⟨rfl, pr7⟩ := h9
    refine g_bipush cx 40 (by decide) e_X3_piece_41 ?_
    refine g_icmp_ne cx 70 e_X3_piece_43 (by decide) (fun zc10 => ?_) (fun zc10 => ?_)
    · refine g_aload_n cx 0 rfl e_X3_piece_70 ?_
      refine g_iload_n cx 1 rfl e_X3_piece_71 ?_
      refine g_cVvW cx [.int 4] [] (w_X3_comparison_c4 l X ad F R hI hA) ml_X3_93 yV_X3_comparison e_X3_piece_72 (by unfold g_rr; decide) (by decide) 33 rfl rfl rfl (Nat.le_of_ble_eq_true rfl) (fun w12 h13 => ?_)
      obtain ⟨F14, R15, rfl, oF14, oR15, cF14, cR15⟩ := h13
      have fF14 : g_fr md_X3_piece_c4 F F14 := g_fr_c (g_fr_rf F) cF14 rfl
      have fR15 : g_fr mr_X3_piece_c4 R R15 := g_fr_c (g_fr_rf R) cR15 rfl
      refine g_lsub [] [] rfl ?_
      exact J75 F14 R15 oF14 fF14 oR15 fR15
    · have p16 := gn_eq 40 40 (gc_eq zc10) pr7 (jv_k (x := 40) 40 (by decide)) (by decide)
      refine g_aload_n cx 0 rfl e_X3_piece_46 ?_
      refine g_iload_n cx 1 rfl e_X3_piece_47 ?_
      refine g_cViW cx [.int 4] [] (w_X3_opens_c4 l X ad F R hI hA) ml_X3_89 yV_X3_opens e_X3_piece_48 (by unfold g_rr; decide) (by decide) 33 rfl rfl rfl (Nat.le_of_ble_eq_true rfl) (fun r17 w18 h19 => ?_)
      obtain ⟨F20, R21, rfl, oF20, oR21, cF20, cR21, pr17⟩ := h19
      have fF20 : g_fr md_X3_piece_c4 F F20 := g_fr_c (g_fr_rf F) cF20 rfl
      have fR21 : g_fr mr_X3_piece_c4 R R21 := g_fr_c (g_fr_rf R) cR21 rfl
      refine g_if_eq cx 75 e_X3_piece_51 (by decide) (fun zc22 => ?_) (fun zc22 => ?_)
      · exact (gf_eq (gc_eq zc22) pr17 (jv_k (x := 0) 0 (by decide)) (by decide)).elim
      · refine g_aload_n cx 0 rfl e_X3_piece_54 ?_
        refine g_iload_n cx 1 rfl e_X3_piece_55 ?_
        refine g_iconst cx 1 (by decide) e_X3_piece_56 ?_
        refine g_iadd cx e_X3_piece_57 ?_
        refine g_toi 5 (by decide) ?_
        refine g_cVvW cx [.int 5] [] (w_X3_parts_c5 l X ad F20 R21 oF20 oR21) ml_X3_73 yV_X3_parts e_X3_piece_58 (by unfold g_rr; decide) (by decide) 33 rfl rfl rfl (Nat.le_of_ble_eq_true rfl) (fun w24 h25 => ?_)
        obtain ⟨F26, R27, rfl, oF26, oR27, cF26, cR27⟩ := h25
        have fF26 : g_fr md_X3_piece_c4 F F26 := g_fr_c fF20 cF26 rfl
        have fR27 : g_fr mr_X3_piece_c4 R R27 := g_fr_c fR21 cR27 rfl
        refine g_aload_n cx 0 rfl e_X3_piece_61 ?_
        refine g_bipush cx 41 (by decide) e_X3_piece_62 ?_
        refine g_cVvW cx [.int 41] [] (w_X3_pass l X ad F26 R27 oF26 oR27 41) ml_X3_70 yV_X3_pass e_X3_piece_64 (by unfold g_rr; decide) (by decide) 33 rfl rfl rfl (Nat.le_of_ble_eq_true rfl) (fun w29 h30 => ?_)
        obtain ⟨F31, R32, rfl, oF31, oR32, cF31, cR32⟩ := h30
        have fF31 : g_fr md_X3_piece_c4 F F31 := g_fr_c fF26 cF31 rfl
        have fR32 : g_fr mr_X3_piece_c4 R R32 := g_fr_c fR27 cR32 rfl
        refine g_goto cx 75 e_X3_piece_67 (by decide) ?_
        refine g_lsub [] [] rfl ?_
        exact J75 F31 R32 oF31 fF31 oR32 fR32
  · have p33 := gn_eq 33 33 (gc_eq zc6) pr1 (jv_k (x := 33) 33 (by decide)) (by decide)
    refine g_aload_n cx 0 rfl e_X3_piece_9 ?_
    refine g_iload_n cx 1 rfl e_X3_piece_10 ?_
    refine g_cViW cx [.int 4] [] (w_X3_opens_c4 l X ad F R hI hA) ml_X3_89 yV_X3_opens e_X3_piece_11 (by unfold g_rr; decide) (by decide) 33 rfl rfl rfl (Nat.le_of_ble_eq_true rfl) (fun r34 w35 h36 => ?_)
    obtain ⟨F37, R38, rfl, oF37, oR38, cF37, cR38, pr34⟩ := h36
    have fF37 : g_fr md_X3_piece_c4 F F37 := g_fr_c (g_fr_rf F) cF37 rfl
    have fR38 : g_fr mr_X3_piece_c4 R R38 := g_fr_c (g_fr_rf R) cR38 rfl
    refine g_if_eq cx 75 e_X3_piece_14 (by decide) (fun zc39 => ?_) (fun zc39 => ?_)
    · exact (gf_eq (gc_eq zc39) pr34 (jv_k (x := 0) 0 (by decide)) (by decide)).elim
    · refine g_aload_n cx 0 rfl e_X3_piece_17 ?_
      refine g_iload_n cx 1 rfl e_X3_piece_18 ?_
      refine g_iconst cx 1 (by decide) e_X3_piece_19 ?_
      refine g_iadd cx e_X3_piece_20 ?_
      refine g_toi 5 (by decide) ?_
      refine g_cVvW cx [.int 5] [] (w_X3_piece_c5 l X ad F37 R38 oF37 oR38) ml_X3_86 yV_X3_piece e_X3_piece_21 (by unfold g_rr; decide) (by decide) 33 rfl rfl rfl (Nat.le_of_ble_eq_true rfl) (fun w41 h42 => ?_)
      obtain ⟨F43, R44, rfl, oF43, oR44, cF43, cR44⟩ := h42
      have fF43 : g_fr md_X3_piece_c4 F F43 := g_fr_c fF37 cF43 rfl
      have fR44 : g_fr mr_X3_piece_c4 R R44 := g_fr_c fR38 cR44 rfl
      refine g_aload_n cx 0 rfl e_X3_piece_24 ?_
      refine g_get cx cl_X3 fl_X3_25 33 (.ref (ad 25)) e_X3_piece_25 rfl rfl ?_
      refine g_iconst cx 3 (by decide) e_X3_piece_28 ?_
      refine g_iconst cx 0 (by decide) e_X3_piece_29 ?_
      refine g_cViW cx [.int 3, .int 0] [] (w_X2_emit_25 l X ad F43 R44 oF43 oR44 3 0) ml_X3_66 yV_X2_emit e_X3_piece_30 (by unfold g_rr; decide) (by decide) 25 rfl rfl rfl (Nat.le_of_ble_eq_true rfl) (fun r45 w46 h47 => ?_)
      obtain ⟨F48, R49, rfl, oF48, oR49, cF48, cR49, pr45⟩ := h47
      have fF48 : g_fr md_X3_piece_c4 F F48 := g_fr_c fF43 cF48 rfl
      have fR49 : g_fr mr_X3_piece_c4 R R49 := g_fr_c fR44 cR49 rfl
      refine g_pop cx rfl e_X3_piece_33 ?_
      refine g_goto cx 75 e_X3_piece_34 (by decide) ?_
      refine g_lsub [] [] rfl ?_
      exact J75 F48 R49 oF48 fF48 oR49 fR49
def md_X3_pieces_c4 : List Nat := [402, 531, 532]
def mr_X3_pieces_c4 : List Nat := [26, 27]
set_option maxHeartbeats 4000000 in
set_option maxRecDepth 100000 in
theorem w_X3_pieces_c4 (l : Launch) (X : gX) (ad : Nat → Nat) (F : Nat → Int32) (R : Nat → Nat → Int32) (hI : g_ok LK_wX F) (hA : g_okR LA_wX R) : g_Cv l X yX3_pieces cX3_pieces 4 16 0 0 [.ref (ad 33), .int 4] (wX X ad F R) (fun w => ∃ (F' : Nat → Int32) (R' : Nat → Nat → Int32), w = wX X ad F' R' ∧ g_ok LK_wX F' ∧ g_okR LA_wX R' ∧ g_fr md_X3_pieces_c4 F F' ∧ g_fr mr_X3_pieces_c4 R R') := by
  refine g_mv (by decide +kernel) (Nat.le_of_ble_eq_true rfl) (fun E cx hret => ?_)
  refine g_aload_n cx 0 rfl e_X3_pieces_0 ?_
  refine g_iload_n cx 1 rfl e_X3_pieces_1 ?_
  refine g_cVvW cx [.int 4] [] (w_X3_piece_c4 l X ad F R hI hA) ml_X3_86 yV_X3_piece e_X3_pieces_2 (by unfold g_rr; decide) (by decide) 33 rfl rfl rfl (Nat.le_of_ble_eq_true rfl) (fun w2 h3 => ?_)
  obtain ⟨F4, R5, rfl, oF4, oR5, cF4, cR5⟩ := h3
  have fF4 : g_fr md_X3_pieces_c4 F F4 := g_fr_c (g_fr_rf F) cF4 rfl
  have fR5 : g_fr mr_X3_pieces_c4 R R5 := g_fr_c (g_fr_rf R) cR5 rfl
  refine g_iconst cx (-1) (by decide) e_X3_pieces_5 ?_
  refine g_istore_n cx [(2, .int (-1)), (0, .ref (ad 33)), (1, .int 4)] e_X3_pieces_6 (by decide) rfl ?_
  refine g_iconst cx 0 (by decide) e_X3_pieces_7 ?_
  refine g_istore_n cx [(3, .int 0), (2, .int (-1)), (0, .ref (ad 33)), (1, .int 4)] e_X3_pieces_8 (by decide) rfl ?_
  have J9 : ∀ (N : Nat) (F8 : Nat → Int32) (R9 : Nat → Nat → Int32) (y6 : Int32) (y7 : Int32), (g_ok LK_wX F8) → (g_fr md_X3_pieces_c4 F F8) → (g_okR LA_wX R9) → (g_fr mr_X3_pieces_c4 R R9) → (jv (-1) 256 y6) → (jv 0 200 y7) → (2147483647 - y7.toInt).toNat < N → G X E 4 0 0 (wX X ad F8 R9) [(0, .ref (ad 33)), (1, .int 4), (2, .int y6), (3, .int y7)] 9 [] := by
    intro N
    induction N with
    | zero => intro F8 R9 y6 y7 oF8 fF8 oR9 fR9 py6 py7 hm; exact absurd hm (Nat.not_lt_zero _)
    | succ N ih9 =>
      intro F8 R9 y6 y7 oF8 fF8 oR9 fR9 py6 py7 hm9
      refine g_iload_n cx 3 rfl e_X3_pieces_9 ?_
      refine g_sipush cx 200 (by decide) e_X3_pieces_10 ?_
      have J56 : G X E 4 0 0 (wX X ad F8 R9) [(0, .ref (ad 33)), (2, .int y6)] 56 [] := by
        refine g_aload_n cx 0 rfl e_X3_pieces_56 ?_
        refine g_get cx cl_X3 fl_X3_25 33 (.ref (ad 25)) e_X3_pieces_57 rfl rfl ?_
        refine g_iload_n cx 1 rfl e_X3_pieces_60 ?_
        refine g_cVvW cx [.int y6] [] (w_X2_landHere_25 l X ad F8 R9 oF8 oR9 y6) ml_X3_83 yV_X2_landHere e_X3_pieces_61 (by unfold g_rr; decide) (by decide) 25 rfl rfl rfl (Nat.le_of_ble_eq_true rfl) (fun w11 h12 => ?_)
        obtain ⟨F13, R14, rfl, oF13, oR14, cF13, cR14⟩ := h12
        have fF13 : g_fr md_X3_pieces_c4 F F13 := g_fr_c fF8 cF13 rfl
        have fR14 : g_fr mr_X3_pieces_c4 R R14 := g_fr_c fR9 cR14 rfl
        exact hret e_X3_pieces_64 (Nat.le_of_ble_eq_true rfl) (Nat.le_of_ble_eq_true rfl) ⟨F13, R14, rfl, oF13, oR14, fF13, fR14⟩
      refine g_icmp_ge cx 56 e_X3_pieces_13 (by decide) (fun zc15 => ?_) (fun zc15 => ?_)
      · have p16 := gn_ge 200 200 (gc_le zc15) py7 (jv_k (x := 200) 200 (by decide)) (by decide)
        refine g_lsub [0, 2] [(0, .ref (ad 33)), (2, .int y6)] rfl ?_
        exact J56  
      · have p17 := gn_lt 0 199 (gc_nle zc15) py7 (jv_k (x := 200) 200 (by decide)) (by decide)
        refine g_aload_n cx 0 rfl e_X3_pieces_16 ?_
        refine g_cViW cx [] [] (w_X3_sign l X ad F8 R9 oF8 oR9) ml_X3_42 yV_X3_sign e_X3_pieces_17 (by unfold g_rr; decide) (by decide) 33 rfl rfl rfl (Nat.le_of_ble_eq_true rfl) (fun r18 w19 h20 => ?_)
        obtain ⟨rfl, pr18⟩ := h20
        refine g_bipush cx 38 (by decide) e_X3_pieces_20 ?_
        refine g_icmp_ne cx 56 e_X3_pieces_22 (by decide) (fun zc21 => ?_) (fun zc21 => ?_)
        · refine g_lsub [0, 2] [(0, .ref (ad 33)), (2, .int y6)] rfl ?_
          exact J56  
        · have p22 := gn_eq 38 38 (gc_eq zc21) pr18 (jv_k (x := 38) 38 (by decide)) (by decide)
          refine g_aload_n cx 0 rfl e_X3_pieces_25 ?_
          refine g_dup cx rfl e_X3_pieces_26 ?_
          refine g_get cx cl_X3 fl_X3_19 33 (.int (F8 531)) e_X3_pieces_27 rfl rfl ?_
          refine g_iconst cx 1 (by decide) e_X3_pieces_30 ?_
          refine g_iadd cx e_X3_pieces_31 ?_
          refine g_topi (fun x23 ex23 => ?_)
          refine g_put cx cl_X3 fl_X3_19 33 (wX X ad (upd F8 531 x23) R9) e_X3_pieces_32 rfl rfl rfl rfl (Nat.le_of_ble_eq_true rfl) rfl ?_
          obtain ⟨F24, hF24⟩ : ∃ z, z = upd F8 531 x23 := ⟨_, rfl⟩
          rw [← hF24]
          have oF24 : g_ok LK_wX F24 := by rw [hF24]; exact g_ok_u oF8 rfl
          have fF24 : g_fr md_X3_pieces_c4 F F24 := by rw [hF24]; exact g_fr_u fF8 rfl
          refine g_aload_n cx 0 rfl e_X3_pieces_35 ?_
          refine g_get cx cl_X3 fl_X3_25 33 (.ref (ad 25)) e_X3_pieces_36 rfl rfl ?_
          refine g_iconst cx 4 (by decide) e_X3_pieces_39 ?_
          refine g_iload_n cx 2 rfl e_X3_pieces_40 ?_
          refine g_cViW cx [.int 4, .int y6] [] (w_X2_emit_25 l X ad F24 R9 oF24 oR9 4 y6) ml_X3_66 yV_X2_emit e_X3_pieces_41 (by unfold g_rr; decide) (by decide) 25 rfl rfl rfl (Nat.le_of_ble_eq_true rfl) (fun r25 w26 h27 => ?_)
          obtain ⟨F28, R29, rfl, oF28, oR29, cF28, cR29, pr25⟩ := h27
          have fF28 : g_fr md_X3_pieces_c4 F F28 := g_fr_c fF24 cF28 rfl
          have fR29 : g_fr mr_X3_pieces_c4 R R29 := g_fr_c fR9 cR29 rfl
          refine g_istore_n cx [(2, .int r25), (0, .ref (ad 33)), (1, .int 4), (3, .int y7)] e_X3_pieces_44 (by decide) rfl ?_
          refine g_aload_n cx 1 rfl e_X3_pieces_45 ?_
          refine g_iload_n cx 2 rfl e_X3_pieces_46 ?_
          refine g_cVvW cx [.int 4] [] (w_X3_piece_c4 l X ad F28 R29 oF28 oR29) ml_X3_86 yV_X3_piece e_X3_pieces_47 (by unfold g_rr; decide) (by decide) 33 rfl rfl rfl (Nat.le_of_ble_eq_true rfl) (fun w31 h32 => ?_)
          obtain ⟨F33, R34, rfl, oF33, oR34, cF33, cR34⟩ := h32
          have fF33 : g_fr md_X3_pieces_c4 F F33 := g_fr_c fF28 cF33 rfl
          have fR34 : g_fr mr_X3_pieces_c4 R R34 := g_fr_c fR29 cR34 rfl
          obtain ⟨x35, ex35⟩ : ∃ z : Int32, z = y7 + Int32.ofInt 1 := ⟨_, rfl⟩
          refine g_iinc cx x35 [(3, .int x35), (2, .int r25), (0, .ref (ad 33)), (1, .int 4)] 3 e_X3_pieces_50 rfl ex35.symm (by decide) rfl ?_
          have zx35 := jv_add 1 200 (show x35 = y7 + 1 from ex35) p17 (jv_k (x := 1) 1 (by decide)) (by decide)
          refine g_goto cx 9 e_X3_pieces_53 (by decide) ?_
          refine g_lsub [2, 3, 1, 0] [(0, .ref (ad 33)), (1, .int 4), (2, .int r25), (3, .int x35)] rfl ?_
          exact ih9 F33 R34 r25 x35 oF33 fF33 oR34 fR34 (jv_w pr25 (by decide)) (jv_w zx35.2 (by decide)) (Nat.lt_of_lt_of_le (show (2147483647 - x35.toInt).toNat < (2147483647 - y7.toInt).toNat from by have q0 := (jv_k (x := 1) 1 (by decide)).1; have q1 := (jv_k (x := 1) 1 (by decide)).2; have q2 := (jv_k (x := 200) 200 (by decide)).1; have q3 := (jv_k (x := 200) 200 (by decide)).2; have q4 := zx35.2.1; have q5 := zx35.2.2; have q6 := p17.1; have q7 := p17.2; have q8 := (gc_nle zc15); have q9 := (g_eq0 zx35.1); omega) (Nat.le_of_lt_succ hm9))
  refine g_lsub [2, 3, 1, 0] [(0, .ref (ad 33)), (1, .int 4), (2, .int (-1)), (3, .int 0)] rfl ?_
  exact J9 _ F4 R5 (-1) 0 oF4 fF4 oR5 fR5 (jv_w (jv_k (x := (-1)) (-1) (by decide)) (by decide)) (jv_w (jv_k (x := 0) 0 (by decide)) (by decide)) (Nat.lt_succ_self _)
def md_X3_parts_c4 : List Nat := [402, 531, 532]
def mr_X3_parts_c4 : List Nat := [26, 27]
set_option maxHeartbeats 4000000 in
set_option maxRecDepth 100000 in
theorem w_X3_parts_c4 (l : Launch) (X : gX) (ad : Nat → Nat) (F : Nat → Int32) (R : Nat → Nat → Int32) (hI : g_ok LK_wX F) (hA : g_okR LA_wX R) : g_Cv l X yX3_parts cX3_parts 4 17 0 0 [.ref (ad 33), .int 4] (wX X ad F R) (fun w => ∃ (F' : Nat → Int32) (R' : Nat → Nat → Int32), w = wX X ad F' R' ∧ g_ok LK_wX F' ∧ g_okR LA_wX R' ∧ g_fr md_X3_parts_c4 F F' ∧ g_fr mr_X3_parts_c4 R R') := by
  refine g_mv (by decide +kernel) (Nat.le_of_ble_eq_true rfl) (fun E cx hret => ?_)
  refine g_aload_n cx 0 rfl e_X3_parts_0 ?_
  refine g_iload_n cx 1 rfl e_X3_parts_1 ?_
  refine g_cVvW cx [.int 4] [] (w_X3_pieces_c4 l X ad F R hI hA) ml_X3_80 yV_X3_pieces e_X3_parts_2 (by unfold g_rr; decide) (by decide) 33 rfl rfl rfl (Nat.le_of_ble_eq_true rfl) (fun w2 h3 => ?_)
  obtain ⟨F4, R5, rfl, oF4, oR5, cF4, cR5⟩ := h3
  have fF4 : g_fr md_X3_parts_c4 F F4 := g_fr_c (g_fr_rf F) cF4 rfl
  have fR5 : g_fr mr_X3_parts_c4 R R5 := g_fr_c (g_fr_rf R) cR5 rfl
  refine g_iconst cx (-1) (by decide) e_X3_parts_5 ?_
  refine g_istore_n cx [(2, .int (-1)), (0, .ref (ad 33)), (1, .int 4)] e_X3_parts_6 (by decide) rfl ?_
  refine g_iconst cx 0 (by decide) e_X3_parts_7 ?_
  refine g_istore_n cx [(3, .int 0), (2, .int (-1)), (0, .ref (ad 33)), (1, .int 4)] e_X3_parts_8 (by decide) rfl ?_
  have J9 : ∀ (N : Nat) (F8 : Nat → Int32) (R9 : Nat → Nat → Int32) (y6 : Int32) (y7 : Int32), (g_ok LK_wX F8) → (g_fr md_X3_parts_c4 F F8) → (g_okR LA_wX R9) → (g_fr mr_X3_parts_c4 R R9) → (jv (-1) 256 y6) → (jv 0 200 y7) → (2147483647 - y7.toInt).toNat < N → G X E 4 0 0 (wX X ad F8 R9) [(0, .ref (ad 33)), (1, .int 4), (2, .int y6), (3, .int y7)] 9 [] := by
    intro N
    induction N with
    | zero => intro F8 R9 y6 y7 oF8 fF8 oR9 fR9 py6 py7 hm; exact absurd hm (Nat.not_lt_zero _)
    | succ N ih9 =>
      intro F8 R9 y6 y7 oF8 fF8 oR9 fR9 py6 py7 hm9
      refine g_iload_n cx 3 rfl e_X3_parts_9 ?_
      refine g_sipush cx 200 (by decide) e_X3_parts_10 ?_
      have J56 : G X E 4 0 0 (wX X ad F8 R9) [(0, .ref (ad 33)), (2, .int y6)] 56 [] := by
        refine g_aload_n cx 0 rfl e_X3_parts_56 ?_
        refine g_get cx cl_X3 fl_X3_25 33 (.ref (ad 25)) e_X3_parts_57 rfl rfl ?_
        refine g_iload_n cx 1 rfl e_X3_parts_60 ?_
        refine g_cVvW cx [.int y6] [] (w_X2_landHere_25 l X ad F8 R9 oF8 oR9 y6) ml_X3_83 yV_X2_landHere e_X3_parts_61 (by unfold g_rr; decide) (by decide) 25 rfl rfl rfl (Nat.le_of_ble_eq_true rfl) (fun w11 h12 => ?_)
        obtain ⟨F13, R14, rfl, oF13, oR14, cF13, cR14⟩ := h12
        have fF13 : g_fr md_X3_parts_c4 F F13 := g_fr_c fF8 cF13 rfl
        have fR14 : g_fr mr_X3_parts_c4 R R14 := g_fr_c fR9 cR14 rfl
        exact hret e_X3_parts_64 (Nat.le_of_ble_eq_true rfl) (Nat.le_of_ble_eq_true rfl) ⟨F13, R14, rfl, oF13, oR14, fF13, fR14⟩
      refine g_icmp_ge cx 56 e_X3_parts_13 (by decide) (fun zc15 => ?_) (fun zc15 => ?_)
      · have p16 := gn_ge 200 200 (gc_le zc15) py7 (jv_k (x := 200) 200 (by decide)) (by decide)
        refine g_lsub [0, 2] [(0, .ref (ad 33)), (2, .int y6)] rfl ?_
        exact J56  
      · have p17 := gn_lt 0 199 (gc_nle zc15) py7 (jv_k (x := 200) 200 (by decide)) (by decide)
        refine g_aload_n cx 0 rfl e_X3_parts_16 ?_
        refine g_cViW cx [] [] (w_X3_sign l X ad F8 R9 oF8 oR9) ml_X3_42 yV_X3_sign e_X3_parts_17 (by unfold g_rr; decide) (by decide) 33 rfl rfl rfl (Nat.le_of_ble_eq_true rfl) (fun r18 w19 h20 => ?_)
        obtain ⟨rfl, pr18⟩ := h20
        refine g_bipush cx 124 (by decide) e_X3_parts_20 ?_
        refine g_icmp_ne cx 56 e_X3_parts_22 (by decide) (fun zc21 => ?_) (fun zc21 => ?_)
        · refine g_lsub [0, 2] [(0, .ref (ad 33)), (2, .int y6)] rfl ?_
          exact J56  
        · have p22 := gn_eq 124 124 (gc_eq zc21) pr18 (jv_k (x := 124) 124 (by decide)) (by decide)
          refine g_aload_n cx 0 rfl e_X3_parts_25 ?_
          refine g_dup cx rfl e_X3_parts_26 ?_
          refine g_get cx cl_X3 fl_X3_19 33 (.int (F8 531)) e_X3_parts_27 rfl rfl ?_
          refine g_iconst cx 1 (by decide) e_X3_parts_30 ?_
          refine g_iadd cx e_X3_parts_31 ?_
          refine g_topi (fun x23 ex23 => ?_)
          refine g_put cx cl_X3 fl_X3_19 33 (wX X ad (upd F8 531 x23) R9) e_X3_parts_32 rfl rfl rfl rfl (Nat.le_of_ble_eq_true rfl) rfl ?_
          obtain ⟨F24, hF24⟩ : ∃ z, z = upd F8 531 x23 := ⟨_, rfl⟩
          rw [← hF24]
          have oF24 : g_ok LK_wX F24 := by rw [hF24]; exact g_ok_u oF8 rfl
          have fF24 : g_fr md_X3_parts_c4 F F24 := by rw [hF24]; exact g_fr_u fF8 rfl
          refine g_aload_n cx 0 rfl e_X3_parts_35 ?_
          refine g_get cx cl_X3 fl_X3_25 33 (.ref (ad 25)) e_X3_parts_36 rfl rfl ?_
          refine g_iconst cx 5 (by decide) e_X3_parts_39 ?_
          refine g_iload_n cx 2 rfl e_X3_parts_40 ?_
          refine g_cViW cx [.int 5, .int y6] [] (w_X2_emit_25 l X ad F24 R9 oF24 oR9 5 y6) ml_X3_66 yV_X2_emit e_X3_parts_41 (by unfold g_rr; decide) (by decide) 25 rfl rfl rfl (Nat.le_of_ble_eq_true rfl) (fun r25 w26 h27 => ?_)
          obtain ⟨F28, R29, rfl, oF28, oR29, cF28, cR29, pr25⟩ := h27
          have fF28 : g_fr md_X3_parts_c4 F F28 := g_fr_c fF24 cF28 rfl
          have fR29 : g_fr mr_X3_parts_c4 R R29 := g_fr_c fR9 cR29 rfl
          refine g_istore_n cx [(2, .int r25), (0, .ref (ad 33)), (1, .int 4), (3, .int y7)] e_X3_parts_44 (by decide) rfl ?_
          refine g_aload_n cx 1 rfl e_X3_parts_45 ?_
          refine g_iload_n cx 2 rfl e_X3_parts_46 ?_
          refine g_cVvW cx [.int 4] [] (w_X3_pieces_c4 l X ad F28 R29 oF28 oR29) ml_X3_80 yV_X3_pieces e_X3_parts_47 (by unfold g_rr; decide) (by decide) 33 rfl rfl rfl (Nat.le_of_ble_eq_true rfl) (fun w31 h32 => ?_)
          obtain ⟨F33, R34, rfl, oF33, oR34, cF33, cR34⟩ := h32
          have fF33 : g_fr md_X3_parts_c4 F F33 := g_fr_c fF28 cF33 rfl
          have fR34 : g_fr mr_X3_parts_c4 R R34 := g_fr_c fR29 cR34 rfl
          obtain ⟨x35, ex35⟩ : ∃ z : Int32, z = y7 + Int32.ofInt 1 := ⟨_, rfl⟩
          refine g_iinc cx x35 [(3, .int x35), (2, .int r25), (0, .ref (ad 33)), (1, .int 4)] 3 e_X3_parts_50 rfl ex35.symm (by decide) rfl ?_
          have zx35 := jv_add 1 200 (show x35 = y7 + 1 from ex35) p17 (jv_k (x := 1) 1 (by decide)) (by decide)
          refine g_goto cx 9 e_X3_parts_53 (by decide) ?_
          refine g_lsub [2, 3, 1, 0] [(0, .ref (ad 33)), (1, .int 4), (2, .int r25), (3, .int x35)] rfl ?_
          exact ih9 F33 R34 r25 x35 oF33 fF33 oR34 fR34 (jv_w pr25 (by decide)) (jv_w zx35.2 (by decide)) (Nat.lt_of_lt_of_le (show (2147483647 - x35.toInt).toNat < (2147483647 - y7.toInt).toNat from by have q0 := (jv_k (x := 1) 1 (by decide)).1; have q1 := (jv_k (x := 1) 1 (by decide)).2; have q2 := (jv_k (x := 200) 200 (by decide)).1; have q3 := (jv_k (x := 200) 200 (by decide)).2; have q4 := zx35.2.1; have q5 := zx35.2.2; have q6 := p17.1; have q7 := p17.2; have q8 := (gc_nle zc15); have q9 := (g_eq0 zx35.1); omega) (Nat.le_of_lt_succ hm9))
  refine g_lsub [2, 3, 1, 0] [(0, .ref (ad 33)), (1, .int 4), (2, .int (-1)), (3, .int 0)] rfl ?_
  exact J9 _ F4 R5 (-1) 0 oF4 fF4 oR5 fR5 (jv_w (jv_k (x := (-1)) (-1) (by decide)) (by decide)) (jv_w (jv_k (x := 0) 0 (by decide)) (by decide)) (Nat.lt_succ_self _)
def md_X3_piece_c3 : List Nat := [402, 531, 532]
def mr_X3_piece_c3 : List Nat := [26, 27]
set_option maxHeartbeats 4000000 in
set_option maxRecDepth 100000 in
theorem w_X3_piece_c3 (l : Launch) (X : gX) (ad : Nat → Nat) (F : Nat → Int32) (R : Nat → Nat → Int32) (hI : g_ok LK_wX F) (hA : g_okR LA_wX R) : g_Cv l X yX3_piece cX3_piece 2 18 0 0 [.ref (ad 33), .int 3] (wX X ad F R) (fun w => ∃ (F' : Nat → Int32) (R' : Nat → Nat → Int32), w = wX X ad F' R' ∧ g_ok LK_wX F' ∧ g_okR LA_wX R' ∧ g_fr md_X3_piece_c3 F F' ∧ g_fr mr_X3_piece_c3 R R') := by
  refine g_mv (by decide +kernel) (Nat.le_of_ble_eq_true rfl) (fun E cx hret => ?_)
  refine g_aload_n cx 0 rfl e_X3_piece_0 ?_
  refine g_cViW cx [] [] (w_X3_sign l X ad F R hI hA) ml_X3_42 yV_X3_sign e_X3_piece_1 (by unfold g_rr; decide) (by decide) 33 rfl rfl rfl (Nat.le_of_ble_eq_true rfl) (fun r1 w2 h3 => ?_)
  obtain ⟨rfl, pr1⟩ := h3
  refine g_bipush cx 33 (by decide) e_X3_piece_4 ?_
  have J75 : ∀ (F4 : Nat → Int32) (R5 : Nat → Nat → Int32), (g_ok LK_wX F4) → (g_fr md_X3_piece_c3 F F4) → (g_okR LA_wX R5) → (g_fr mr_X3_piece_c3 R R5) → G X E 2 0 0 (wX X ad F4 R5) [] 75 [] := by
    intro F4 R5 oF4 fF4 oR5 fR5
    exact hret e_X3_piece_75 (Nat.le_of_ble_eq_true rfl) (Nat.le_of_ble_eq_true rfl) ⟨F4, R5, rfl, oF4, oR5, fF4, fR5⟩
  refine g_icmp_ne cx 37 e_X3_piece_6 (by decide) (fun zc6 => ?_) (fun zc6 => ?_)
  · refine g_aload_n cx 0 rfl e_X3_piece_37 ?_
    refine g_cViW cx [] [] (w_X3_sign l X ad F R hI hA) ml_X3_42 yV_X3_sign e_X3_piece_38 (by unfold g_rr; decide) (by decide) 33 rfl rfl rfl (Nat.le_of_ble_eq_true rfl) (fun r7 w8 h9 => ?_)
    obtain ⟨rfl, pr7⟩ := h9
    refine g_bipush cx 40 (by decide) e_X3_piece_41 ?_
    refine g_icmp_ne cx 70 e_X3_piece_43 (by decide) (fun zc10 => ?_) (fun zc10 => ?_)
    · refine g_aload_n cx 0 rfl e_X3_piece_70 ?_
      refine g_iload_n cx 1 rfl e_X3_piece_71 ?_
      refine g_cVvW cx [.int 3] [] (w_X3_comparison_c3 l X ad F R hI hA) ml_X3_93 yV_X3_comparison e_X3_piece_72 (by unfold g_rr; decide) (by decide) 33 rfl rfl rfl (Nat.le_of_ble_eq_true rfl) (fun w12 h13 => ?_)
      obtain ⟨F14, R15, rfl, oF14, oR15, cF14, cR15⟩ := h13
      have fF14 : g_fr md_X3_piece_c3 F F14 := g_fr_c (g_fr_rf F) cF14 rfl
      have fR15 : g_fr mr_X3_piece_c3 R R15 := g_fr_c (g_fr_rf R) cR15 rfl
      refine g_lsub [] [] rfl ?_
      exact J75 F14 R15 oF14 fF14 oR15 fR15
    · have p16 := gn_eq 40 40 (gc_eq zc10) pr7 (jv_k (x := 40) 40 (by decide)) (by decide)
      refine g_aload_n cx 0 rfl e_X3_piece_46 ?_
      refine g_iload_n cx 1 rfl e_X3_piece_47 ?_
      refine g_cViW cx [.int 3] [] (w_X3_opens_c3 l X ad F R hI hA) ml_X3_89 yV_X3_opens e_X3_piece_48 (by unfold g_rr; decide) (by decide) 33 rfl rfl rfl (Nat.le_of_ble_eq_true rfl) (fun r17 w18 h19 => ?_)
      obtain ⟨F20, R21, rfl, oF20, oR21, cF20, cR21, pr17⟩ := h19
      have fF20 : g_fr md_X3_piece_c3 F F20 := g_fr_c (g_fr_rf F) cF20 rfl
      have fR21 : g_fr mr_X3_piece_c3 R R21 := g_fr_c (g_fr_rf R) cR21 rfl
      refine g_if_eq cx 75 e_X3_piece_51 (by decide) (fun zc22 => ?_) (fun zc22 => ?_)
      · exact (gf_eq (gc_eq zc22) pr17 (jv_k (x := 0) 0 (by decide)) (by decide)).elim
      · refine g_aload_n cx 0 rfl e_X3_piece_54 ?_
        refine g_iload_n cx 1 rfl e_X3_piece_55 ?_
        refine g_iconst cx 1 (by decide) e_X3_piece_56 ?_
        refine g_iadd cx e_X3_piece_57 ?_
        refine g_toi 4 (by decide) ?_
        refine g_cVvW cx [.int 4] [] (w_X3_parts_c4 l X ad F20 R21 oF20 oR21) ml_X3_73 yV_X3_parts e_X3_piece_58 (by unfold g_rr; decide) (by decide) 33 rfl rfl rfl (Nat.le_of_ble_eq_true rfl) (fun w24 h25 => ?_)
        obtain ⟨F26, R27, rfl, oF26, oR27, cF26, cR27⟩ := h25
        have fF26 : g_fr md_X3_piece_c3 F F26 := g_fr_c fF20 cF26 rfl
        have fR27 : g_fr mr_X3_piece_c3 R R27 := g_fr_c fR21 cR27 rfl
        refine g_aload_n cx 0 rfl e_X3_piece_61 ?_
        refine g_bipush cx 41 (by decide) e_X3_piece_62 ?_
        refine g_cVvW cx [.int 41] [] (w_X3_pass l X ad F26 R27 oF26 oR27 41) ml_X3_70 yV_X3_pass e_X3_piece_64 (by unfold g_rr; decide) (by decide) 33 rfl rfl rfl (Nat.le_of_ble_eq_true rfl) (fun w29 h30 => ?_)
        obtain ⟨F31, R32, rfl, oF31, oR32, cF31, cR32⟩ := h30
        have fF31 : g_fr md_X3_piece_c3 F F31 := g_fr_c fF26 cF31 rfl
        have fR32 : g_fr mr_X3_piece_c3 R R32 := g_fr_c fR27 cR32 rfl
        refine g_goto cx 75 e_X3_piece_67 (by decide) ?_
        refine g_lsub [] [] rfl ?_
        exact J75 F31 R32 oF31 fF31 oR32 fR32
  · have p33 := gn_eq 33 33 (gc_eq zc6) pr1 (jv_k (x := 33) 33 (by decide)) (by decide)
    refine g_aload_n cx 0 rfl e_X3_piece_9 ?_
    refine g_iload_n cx 1 rfl e_X3_piece_10 ?_
    refine g_cViW cx [.int 3] [] (w_X3_opens_c3 l X ad F R hI hA) ml_X3_89 yV_X3_opens e_X3_piece_11 (by unfold g_rr; decide) (by decide) 33 rfl rfl rfl (Nat.le_of_ble_eq_true rfl) (fun r34 w35 h36 => ?_)
    obtain ⟨F37, R38, rfl, oF37, oR38, cF37, cR38, pr34⟩ := h36
    have fF37 : g_fr md_X3_piece_c3 F F37 := g_fr_c (g_fr_rf F) cF37 rfl
    have fR38 : g_fr mr_X3_piece_c3 R R38 := g_fr_c (g_fr_rf R) cR38 rfl
    refine g_if_eq cx 75 e_X3_piece_14 (by decide) (fun zc39 => ?_) (fun zc39 => ?_)
    · exact (gf_eq (gc_eq zc39) pr34 (jv_k (x := 0) 0 (by decide)) (by decide)).elim
    · refine g_aload_n cx 0 rfl e_X3_piece_17 ?_
      refine g_iload_n cx 1 rfl e_X3_piece_18 ?_
      refine g_iconst cx 1 (by decide) e_X3_piece_19 ?_
      refine g_iadd cx e_X3_piece_20 ?_
      refine g_toi 4 (by decide) ?_
      refine g_cVvW cx [.int 4] [] (w_X3_piece_c4 l X ad F37 R38 oF37 oR38) ml_X3_86 yV_X3_piece e_X3_piece_21 (by unfold g_rr; decide) (by decide) 33 rfl rfl rfl (Nat.le_of_ble_eq_true rfl) (fun w41 h42 => ?_)
      obtain ⟨F43, R44, rfl, oF43, oR44, cF43, cR44⟩ := h42
      have fF43 : g_fr md_X3_piece_c3 F F43 := g_fr_c fF37 cF43 rfl
      have fR44 : g_fr mr_X3_piece_c3 R R44 := g_fr_c fR38 cR44 rfl
      refine g_aload_n cx 0 rfl e_X3_piece_24 ?_
      refine g_get cx cl_X3 fl_X3_25 33 (.ref (ad 25)) e_X3_piece_25 rfl rfl ?_
      refine g_iconst cx 3 (by decide) e_X3_piece_28 ?_
      refine g_iconst cx 0 (by decide) e_X3_piece_29 ?_
      refine g_cViW cx [.int 3, .int 0] [] (w_X2_emit_25 l X ad F43 R44 oF43 oR44 3 0) ml_X3_66 yV_X2_emit e_X3_piece_30 (by unfold g_rr; decide) (by decide) 25 rfl rfl rfl (Nat.le_of_ble_eq_true rfl) (fun r45 w46 h47 => ?_)
      obtain ⟨F48, R49, rfl, oF48, oR49, cF48, cR49, pr45⟩ := h47
      have fF48 : g_fr md_X3_piece_c3 F F48 := g_fr_c fF43 cF48 rfl
      have fR49 : g_fr mr_X3_piece_c3 R R49 := g_fr_c fR44 cR49 rfl
      refine g_pop cx rfl e_X3_piece_33 ?_
      refine g_goto cx 75 e_X3_piece_34 (by decide) ?_
      refine g_lsub [] [] rfl ?_
      exact J75 F48 R49 oF48 fF48 oR49 fR49
def md_X3_pieces_c3 : List Nat := [402, 531, 532]
def mr_X3_pieces_c3 : List Nat := [26, 27]
set_option maxHeartbeats 4000000 in
set_option maxRecDepth 100000 in
theorem w_X3_pieces_c3 (l : Launch) (X : gX) (ad : Nat → Nat) (F : Nat → Int32) (R : Nat → Nat → Int32) (hI : g_ok LK_wX F) (hA : g_okR LA_wX R) : g_Cv l X yX3_pieces cX3_pieces 4 19 0 0 [.ref (ad 33), .int 3] (wX X ad F R) (fun w => ∃ (F' : Nat → Int32) (R' : Nat → Nat → Int32), w = wX X ad F' R' ∧ g_ok LK_wX F' ∧ g_okR LA_wX R' ∧ g_fr md_X3_pieces_c3 F F' ∧ g_fr mr_X3_pieces_c3 R R') := by
  refine g_mv (by decide +kernel) (Nat.le_of_ble_eq_true rfl) (fun E cx hret => ?_)
  refine g_aload_n cx 0 rfl e_X3_pieces_0 ?_
  refine g_iload_n cx 1 rfl e_X3_pieces_1 ?_
  refine g_cVvW cx [.int 3] [] (w_X3_piece_c3 l X ad F R hI hA) ml_X3_86 yV_X3_piece e_X3_pieces_2 (by unfold g_rr; decide) (by decide) 33 rfl rfl rfl (Nat.le_of_ble_eq_true rfl) (fun w2 h3 => ?_)
  obtain ⟨F4, R5, rfl, oF4, oR5, cF4, cR5⟩ := h3
  have fF4 : g_fr md_X3_pieces_c3 F F4 := g_fr_c (g_fr_rf F) cF4 rfl
  have fR5 : g_fr mr_X3_pieces_c3 R R5 := g_fr_c (g_fr_rf R) cR5 rfl
  refine g_iconst cx (-1) (by decide) e_X3_pieces_5 ?_
  refine g_istore_n cx [(2, .int (-1)), (0, .ref (ad 33)), (1, .int 3)] e_X3_pieces_6 (by decide) rfl ?_
  refine g_iconst cx 0 (by decide) e_X3_pieces_7 ?_
  refine g_istore_n cx [(3, .int 0), (2, .int (-1)), (0, .ref (ad 33)), (1, .int 3)] e_X3_pieces_8 (by decide) rfl ?_
  have J9 : ∀ (N : Nat) (F8 : Nat → Int32) (R9 : Nat → Nat → Int32) (y6 : Int32) (y7 : Int32), (g_ok LK_wX F8) → (g_fr md_X3_pieces_c3 F F8) → (g_okR LA_wX R9) → (g_fr mr_X3_pieces_c3 R R9) → (jv (-1) 256 y6) → (jv 0 200 y7) → (2147483647 - y7.toInt).toNat < N → G X E 4 0 0 (wX X ad F8 R9) [(0, .ref (ad 33)), (1, .int 3), (2, .int y6), (3, .int y7)] 9 [] := by
    intro N
    induction N with
    | zero => intro F8 R9 y6 y7 oF8 fF8 oR9 fR9 py6 py7 hm; exact absurd hm (Nat.not_lt_zero _)
    | succ N ih9 =>
      intro F8 R9 y6 y7 oF8 fF8 oR9 fR9 py6 py7 hm9
      refine g_iload_n cx 3 rfl e_X3_pieces_9 ?_
      refine g_sipush cx 200 (by decide) e_X3_pieces_10 ?_
      have J56 : G X E 4 0 0 (wX X ad F8 R9) [(0, .ref (ad 33)), (2, .int y6)] 56 [] := by
        refine g_aload_n cx 0 rfl e_X3_pieces_56 ?_
        refine g_get cx cl_X3 fl_X3_25 33 (.ref (ad 25)) e_X3_pieces_57 rfl rfl ?_
        refine g_iload_n cx 1 rfl e_X3_pieces_60 ?_
        refine g_cVvW cx [.int y6] [] (w_X2_landHere_25 l X ad F8 R9 oF8 oR9 y6) ml_X3_83 yV_X2_landHere e_X3_pieces_61 (by unfold g_rr; decide) (by decide) 25 rfl rfl rfl (Nat.le_of_ble_eq_true rfl) (fun w11 h12 => ?_)
        obtain ⟨F13, R14, rfl, oF13, oR14, cF13, cR14⟩ := h12
        have fF13 : g_fr md_X3_pieces_c3 F F13 := g_fr_c fF8 cF13 rfl
        have fR14 : g_fr mr_X3_pieces_c3 R R14 := g_fr_c fR9 cR14 rfl
        exact hret e_X3_pieces_64 (Nat.le_of_ble_eq_true rfl) (Nat.le_of_ble_eq_true rfl) ⟨F13, R14, rfl, oF13, oR14, fF13, fR14⟩
      refine g_icmp_ge cx 56 e_X3_pieces_13 (by decide) (fun zc15 => ?_) (fun zc15 => ?_)
      · have p16 := gn_ge 200 200 (gc_le zc15) py7 (jv_k (x := 200) 200 (by decide)) (by decide)
        refine g_lsub [0, 2] [(0, .ref (ad 33)), (2, .int y6)] rfl ?_
        exact J56  
      · have p17 := gn_lt 0 199 (gc_nle zc15) py7 (jv_k (x := 200) 200 (by decide)) (by decide)
        refine g_aload_n cx 0 rfl e_X3_pieces_16 ?_
        refine g_cViW cx [] [] (w_X3_sign l X ad F8 R9 oF8 oR9) ml_X3_42 yV_X3_sign e_X3_pieces_17 (by unfold g_rr; decide) (by decide) 33 rfl rfl rfl (Nat.le_of_ble_eq_true rfl) (fun r18 w19 h20 => ?_)
        obtain ⟨rfl, pr18⟩ := h20
        refine g_bipush cx 38 (by decide) e_X3_pieces_20 ?_
        refine g_icmp_ne cx 56 e_X3_pieces_22 (by decide) (fun zc21 => ?_) (fun zc21 => ?_)
        · refine g_lsub [0, 2] [(0, .ref (ad 33)), (2, .int y6)] rfl ?_
          exact J56  
        · have p22 := gn_eq 38 38 (gc_eq zc21) pr18 (jv_k (x := 38) 38 (by decide)) (by decide)
          refine g_aload_n cx 0 rfl e_X3_pieces_25 ?_
          refine g_dup cx rfl e_X3_pieces_26 ?_
          refine g_get cx cl_X3 fl_X3_19 33 (.int (F8 531)) e_X3_pieces_27 rfl rfl ?_
          refine g_iconst cx 1 (by decide) e_X3_pieces_30 ?_
          refine g_iadd cx e_X3_pieces_31 ?_
          refine g_topi (fun x23 ex23 => ?_)
          refine g_put cx cl_X3 fl_X3_19 33 (wX X ad (upd F8 531 x23) R9) e_X3_pieces_32 rfl rfl rfl rfl (Nat.le_of_ble_eq_true rfl) rfl ?_
          obtain ⟨F24, hF24⟩ : ∃ z, z = upd F8 531 x23 := ⟨_, rfl⟩
          rw [← hF24]
          have oF24 : g_ok LK_wX F24 := by rw [hF24]; exact g_ok_u oF8 rfl
          have fF24 : g_fr md_X3_pieces_c3 F F24 := by rw [hF24]; exact g_fr_u fF8 rfl
          refine g_aload_n cx 0 rfl e_X3_pieces_35 ?_
          refine g_get cx cl_X3 fl_X3_25 33 (.ref (ad 25)) e_X3_pieces_36 rfl rfl ?_
          refine g_iconst cx 4 (by decide) e_X3_pieces_39 ?_
          refine g_iload_n cx 2 rfl e_X3_pieces_40 ?_
          refine g_cViW cx [.int 4, .int y6] [] (w_X2_emit_25 l X ad F24 R9 oF24 oR9 4 y6) ml_X3_66 yV_X2_emit e_X3_pieces_41 (by unfold g_rr; decide) (by decide) 25 rfl rfl rfl (Nat.le_of_ble_eq_true rfl) (fun r25 w26 h27 => ?_)
          obtain ⟨F28, R29, rfl, oF28, oR29, cF28, cR29, pr25⟩ := h27
          have fF28 : g_fr md_X3_pieces_c3 F F28 := g_fr_c fF24 cF28 rfl
          have fR29 : g_fr mr_X3_pieces_c3 R R29 := g_fr_c fR9 cR29 rfl
          refine g_istore_n cx [(2, .int r25), (0, .ref (ad 33)), (1, .int 3), (3, .int y7)] e_X3_pieces_44 (by decide) rfl ?_
          refine g_aload_n cx 1 rfl e_X3_pieces_45 ?_
          refine g_iload_n cx 2 rfl e_X3_pieces_46 ?_
          refine g_cVvW cx [.int 3] [] (w_X3_piece_c3 l X ad F28 R29 oF28 oR29) ml_X3_86 yV_X3_piece e_X3_pieces_47 (by unfold g_rr; decide) (by decide) 33 rfl rfl rfl (Nat.le_of_ble_eq_true rfl) (fun w31 h32 => ?_)
          obtain ⟨F33, R34, rfl, oF33, oR34, cF33, cR34⟩ := h32
          have fF33 : g_fr md_X3_pieces_c3 F F33 := g_fr_c fF28 cF33 rfl
          have fR34 : g_fr mr_X3_pieces_c3 R R34 := g_fr_c fR29 cR34 rfl
          obtain ⟨x35, ex35⟩ : ∃ z : Int32, z = y7 + Int32.ofInt 1 := ⟨_, rfl⟩
          refine g_iinc cx x35 [(3, .int x35), (2, .int r25), (0, .ref (ad 33)), (1, .int 3)] 3 e_X3_pieces_50 rfl ex35.symm (by decide) rfl ?_
          have zx35 := jv_add 1 200 (show x35 = y7 + 1 from ex35) p17 (jv_k (x := 1) 1 (by decide)) (by decide)
          refine g_goto cx 9 e_X3_pieces_53 (by decide) ?_
          refine g_lsub [2, 3, 1, 0] [(0, .ref (ad 33)), (1, .int 3), (2, .int r25), (3, .int x35)] rfl ?_
          exact ih9 F33 R34 r25 x35 oF33 fF33 oR34 fR34 (jv_w pr25 (by decide)) (jv_w zx35.2 (by decide)) (Nat.lt_of_lt_of_le (show (2147483647 - x35.toInt).toNat < (2147483647 - y7.toInt).toNat from by have q0 := (jv_k (x := 1) 1 (by decide)).1; have q1 := (jv_k (x := 1) 1 (by decide)).2; have q2 := (jv_k (x := 200) 200 (by decide)).1; have q3 := (jv_k (x := 200) 200 (by decide)).2; have q4 := zx35.2.1; have q5 := zx35.2.2; have q6 := p17.1; have q7 := p17.2; have q8 := (gc_nle zc15); have q9 := (g_eq0 zx35.1); omega) (Nat.le_of_lt_succ hm9))
  refine g_lsub [2, 3, 1, 0] [(0, .ref (ad 33)), (1, .int 3), (2, .int (-1)), (3, .int 0)] rfl ?_
  exact J9 _ F4 R5 (-1) 0 oF4 fF4 oR5 fR5 (jv_w (jv_k (x := (-1)) (-1) (by decide)) (by decide)) (jv_w (jv_k (x := 0) 0 (by decide)) (by decide)) (Nat.lt_succ_self _)
def md_X3_parts_c3 : List Nat := [402, 531, 532]
def mr_X3_parts_c3 : List Nat := [26, 27]
set_option maxHeartbeats 4000000 in
set_option maxRecDepth 100000 in
theorem w_X3_parts_c3 (l : Launch) (X : gX) (ad : Nat → Nat) (F : Nat → Int32) (R : Nat → Nat → Int32) (hI : g_ok LK_wX F) (hA : g_okR LA_wX R) : g_Cv l X yX3_parts cX3_parts 4 20 0 0 [.ref (ad 33), .int 3] (wX X ad F R) (fun w => ∃ (F' : Nat → Int32) (R' : Nat → Nat → Int32), w = wX X ad F' R' ∧ g_ok LK_wX F' ∧ g_okR LA_wX R' ∧ g_fr md_X3_parts_c3 F F' ∧ g_fr mr_X3_parts_c3 R R') := by
  refine g_mv (by decide +kernel) (Nat.le_of_ble_eq_true rfl) (fun E cx hret => ?_)
  refine g_aload_n cx 0 rfl e_X3_parts_0 ?_
  refine g_iload_n cx 1 rfl e_X3_parts_1 ?_
  refine g_cVvW cx [.int 3] [] (w_X3_pieces_c3 l X ad F R hI hA) ml_X3_80 yV_X3_pieces e_X3_parts_2 (by unfold g_rr; decide) (by decide) 33 rfl rfl rfl (Nat.le_of_ble_eq_true rfl) (fun w2 h3 => ?_)
  obtain ⟨F4, R5, rfl, oF4, oR5, cF4, cR5⟩ := h3
  have fF4 : g_fr md_X3_parts_c3 F F4 := g_fr_c (g_fr_rf F) cF4 rfl
  have fR5 : g_fr mr_X3_parts_c3 R R5 := g_fr_c (g_fr_rf R) cR5 rfl
  refine g_iconst cx (-1) (by decide) e_X3_parts_5 ?_
  refine g_istore_n cx [(2, .int (-1)), (0, .ref (ad 33)), (1, .int 3)] e_X3_parts_6 (by decide) rfl ?_
  refine g_iconst cx 0 (by decide) e_X3_parts_7 ?_
  refine g_istore_n cx [(3, .int 0), (2, .int (-1)), (0, .ref (ad 33)), (1, .int 3)] e_X3_parts_8 (by decide) rfl ?_
  have J9 : ∀ (N : Nat) (F8 : Nat → Int32) (R9 : Nat → Nat → Int32) (y6 : Int32) (y7 : Int32), (g_ok LK_wX F8) → (g_fr md_X3_parts_c3 F F8) → (g_okR LA_wX R9) → (g_fr mr_X3_parts_c3 R R9) → (jv (-1) 256 y6) → (jv 0 200 y7) → (2147483647 - y7.toInt).toNat < N → G X E 4 0 0 (wX X ad F8 R9) [(0, .ref (ad 33)), (1, .int 3), (2, .int y6), (3, .int y7)] 9 [] := by
    intro N
    induction N with
    | zero => intro F8 R9 y6 y7 oF8 fF8 oR9 fR9 py6 py7 hm; exact absurd hm (Nat.not_lt_zero _)
    | succ N ih9 =>
      intro F8 R9 y6 y7 oF8 fF8 oR9 fR9 py6 py7 hm9
      refine g_iload_n cx 3 rfl e_X3_parts_9 ?_
      refine g_sipush cx 200 (by decide) e_X3_parts_10 ?_
      have J56 : G X E 4 0 0 (wX X ad F8 R9) [(0, .ref (ad 33)), (2, .int y6)] 56 [] := by
        refine g_aload_n cx 0 rfl e_X3_parts_56 ?_
        refine g_get cx cl_X3 fl_X3_25 33 (.ref (ad 25)) e_X3_parts_57 rfl rfl ?_
        refine g_iload_n cx 1 rfl e_X3_parts_60 ?_
        refine g_cVvW cx [.int y6] [] (w_X2_landHere_25 l X ad F8 R9 oF8 oR9 y6) ml_X3_83 yV_X2_landHere e_X3_parts_61 (by unfold g_rr; decide) (by decide) 25 rfl rfl rfl (Nat.le_of_ble_eq_true rfl) (fun w11 h12 => ?_)
        obtain ⟨F13, R14, rfl, oF13, oR14, cF13, cR14⟩ := h12
        have fF13 : g_fr md_X3_parts_c3 F F13 := g_fr_c fF8 cF13 rfl
        have fR14 : g_fr mr_X3_parts_c3 R R14 := g_fr_c fR9 cR14 rfl
        exact hret e_X3_parts_64 (Nat.le_of_ble_eq_true rfl) (Nat.le_of_ble_eq_true rfl) ⟨F13, R14, rfl, oF13, oR14, fF13, fR14⟩
      refine g_icmp_ge cx 56 e_X3_parts_13 (by decide) (fun zc15 => ?_) (fun zc15 => ?_)
      · have p16 := gn_ge 200 200 (gc_le zc15) py7 (jv_k (x := 200) 200 (by decide)) (by decide)
        refine g_lsub [0, 2] [(0, .ref (ad 33)), (2, .int y6)] rfl ?_
        exact J56  
      · have p17 := gn_lt 0 199 (gc_nle zc15) py7 (jv_k (x := 200) 200 (by decide)) (by decide)
        refine g_aload_n cx 0 rfl e_X3_parts_16 ?_
        refine g_cViW cx [] [] (w_X3_sign l X ad F8 R9 oF8 oR9) ml_X3_42 yV_X3_sign e_X3_parts_17 (by unfold g_rr; decide) (by decide) 33 rfl rfl rfl (Nat.le_of_ble_eq_true rfl) (fun r18 w19 h20 => ?_)
        obtain ⟨rfl, pr18⟩ := h20
        refine g_bipush cx 124 (by decide) e_X3_parts_20 ?_
        refine g_icmp_ne cx 56 e_X3_parts_22 (by decide) (fun zc21 => ?_) (fun zc21 => ?_)
        · refine g_lsub [0, 2] [(0, .ref (ad 33)), (2, .int y6)] rfl ?_
          exact J56  
        · have p22 := gn_eq 124 124 (gc_eq zc21) pr18 (jv_k (x := 124) 124 (by decide)) (by decide)
          refine g_aload_n cx 0 rfl e_X3_parts_25 ?_
          refine g_dup cx rfl e_X3_parts_26 ?_
          refine g_get cx cl_X3 fl_X3_19 33 (.int (F8 531)) e_X3_parts_27 rfl rfl ?_
          refine g_iconst cx 1 (by decide) e_X3_parts_30 ?_
          refine g_iadd cx e_X3_parts_31 ?_
          refine g_topi (fun x23 ex23 => ?_)
          refine g_put cx cl_X3 fl_X3_19 33 (wX X ad (upd F8 531 x23) R9) e_X3_parts_32 rfl rfl rfl rfl (Nat.le_of_ble_eq_true rfl) rfl ?_
          obtain ⟨F24, hF24⟩ : ∃ z, z = upd F8 531 x23 := ⟨_, rfl⟩
          rw [← hF24]
          have oF24 : g_ok LK_wX F24 := by rw [hF24]; exact g_ok_u oF8 rfl
          have fF24 : g_fr md_X3_parts_c3 F F24 := by rw [hF24]; exact g_fr_u fF8 rfl
          refine g_aload_n cx 0 rfl e_X3_parts_35 ?_
          refine g_get cx cl_X3 fl_X3_25 33 (.ref (ad 25)) e_X3_parts_36 rfl rfl ?_
          refine g_iconst cx 5 (by decide) e_X3_parts_39 ?_
          refine g_iload_n cx 2 rfl e_X3_parts_40 ?_
          refine g_cViW cx [.int 5, .int y6] [] (w_X2_emit_25 l X ad F24 R9 oF24 oR9 5 y6) ml_X3_66 yV_X2_emit e_X3_parts_41 (by unfold g_rr; decide) (by decide) 25 rfl rfl rfl (Nat.le_of_ble_eq_true rfl) (fun r25 w26 h27 => ?_)
          obtain ⟨F28, R29, rfl, oF28, oR29, cF28, cR29, pr25⟩ := h27
          have fF28 : g_fr md_X3_parts_c3 F F28 := g_fr_c fF24 cF28 rfl
          have fR29 : g_fr mr_X3_parts_c3 R R29 := g_fr_c fR9 cR29 rfl
          refine g_istore_n cx [(2, .int r25), (0, .ref (ad 33)), (1, .int 3), (3, .int y7)] e_X3_parts_44 (by decide) rfl ?_
          refine g_aload_n cx 1 rfl e_X3_parts_45 ?_
          refine g_iload_n cx 2 rfl e_X3_parts_46 ?_
          refine g_cVvW cx [.int 3] [] (w_X3_pieces_c3 l X ad F28 R29 oF28 oR29) ml_X3_80 yV_X3_pieces e_X3_parts_47 (by unfold g_rr; decide) (by decide) 33 rfl rfl rfl (Nat.le_of_ble_eq_true rfl) (fun w31 h32 => ?_)
          obtain ⟨F33, R34, rfl, oF33, oR34, cF33, cR34⟩ := h32
          have fF33 : g_fr md_X3_parts_c3 F F33 := g_fr_c fF28 cF33 rfl
          have fR34 : g_fr mr_X3_parts_c3 R R34 := g_fr_c fR29 cR34 rfl
          obtain ⟨x35, ex35⟩ : ∃ z : Int32, z = y7 + Int32.ofInt 1 := ⟨_, rfl⟩
          refine g_iinc cx x35 [(3, .int x35), (2, .int r25), (0, .ref (ad 33)), (1, .int 3)] 3 e_X3_parts_50 rfl ex35.symm (by decide) rfl ?_
          have zx35 := jv_add 1 200 (show x35 = y7 + 1 from ex35) p17 (jv_k (x := 1) 1 (by decide)) (by decide)
          refine g_goto cx 9 e_X3_parts_53 (by decide) ?_
          refine g_lsub [2, 3, 1, 0] [(0, .ref (ad 33)), (1, .int 3), (2, .int r25), (3, .int x35)] rfl ?_
          exact ih9 F33 R34 r25 x35 oF33 fF33 oR34 fR34 (jv_w pr25 (by decide)) (jv_w zx35.2 (by decide)) (Nat.lt_of_lt_of_le (show (2147483647 - x35.toInt).toNat < (2147483647 - y7.toInt).toNat from by have q0 := (jv_k (x := 1) 1 (by decide)).1; have q1 := (jv_k (x := 1) 1 (by decide)).2; have q2 := (jv_k (x := 200) 200 (by decide)).1; have q3 := (jv_k (x := 200) 200 (by decide)).2; have q4 := zx35.2.1; have q5 := zx35.2.2; have q6 := p17.1; have q7 := p17.2; have q8 := (gc_nle zc15); have q9 := (g_eq0 zx35.1); omega) (Nat.le_of_lt_succ hm9))
  refine g_lsub [2, 3, 1, 0] [(0, .ref (ad 33)), (1, .int 3), (2, .int (-1)), (3, .int 0)] rfl ?_
  exact J9 _ F4 R5 (-1) 0 oF4 fF4 oR5 fR5 (jv_w (jv_k (x := (-1)) (-1) (by decide)) (by decide)) (jv_w (jv_k (x := 0) 0 (by decide)) (by decide)) (Nat.lt_succ_self _)
def md_X3_piece_c2 : List Nat := [402, 531, 532]
def mr_X3_piece_c2 : List Nat := [26, 27]
set_option maxHeartbeats 4000000 in
set_option maxRecDepth 100000 in
theorem w_X3_piece_c2 (l : Launch) (X : gX) (ad : Nat → Nat) (F : Nat → Int32) (R : Nat → Nat → Int32) (hI : g_ok LK_wX F) (hA : g_okR LA_wX R) : g_Cv l X yX3_piece cX3_piece 2 21 0 0 [.ref (ad 33), .int 2] (wX X ad F R) (fun w => ∃ (F' : Nat → Int32) (R' : Nat → Nat → Int32), w = wX X ad F' R' ∧ g_ok LK_wX F' ∧ g_okR LA_wX R' ∧ g_fr md_X3_piece_c2 F F' ∧ g_fr mr_X3_piece_c2 R R') := by
  refine g_mv (by decide +kernel) (Nat.le_of_ble_eq_true rfl) (fun E cx hret => ?_)
  refine g_aload_n cx 0 rfl e_X3_piece_0 ?_
  refine g_cViW cx [] [] (w_X3_sign l X ad F R hI hA) ml_X3_42 yV_X3_sign e_X3_piece_1 (by unfold g_rr; decide) (by decide) 33 rfl rfl rfl (Nat.le_of_ble_eq_true rfl) (fun r1 w2 h3 => ?_)
  obtain ⟨rfl, pr1⟩ := h3
  refine g_bipush cx 33 (by decide) e_X3_piece_4 ?_
  have J75 : ∀ (F4 : Nat → Int32) (R5 : Nat → Nat → Int32), (g_ok LK_wX F4) → (g_fr md_X3_piece_c2 F F4) → (g_okR LA_wX R5) → (g_fr mr_X3_piece_c2 R R5) → G X E 2 0 0 (wX X ad F4 R5) [] 75 [] := by
    intro F4 R5 oF4 fF4 oR5 fR5
    exact hret e_X3_piece_75 (Nat.le_of_ble_eq_true rfl) (Nat.le_of_ble_eq_true rfl) ⟨F4, R5, rfl, oF4, oR5, fF4, fR5⟩
  refine g_icmp_ne cx 37 e_X3_piece_6 (by decide) (fun zc6 => ?_) (fun zc6 => ?_)
  · refine g_aload_n cx 0 rfl e_X3_piece_37 ?_
    refine g_cViW cx [] [] (w_X3_sign l X ad F R hI hA) ml_X3_42 yV_X3_sign e_X3_piece_38 (by unfold g_rr; decide) (by decide) 33 rfl rfl rfl (Nat.le_of_ble_eq_true rfl) (fun r7 w8 h9 => ?_)
    obtain ⟨rfl, pr7⟩ := h9
    refine g_bipush cx 40 (by decide) e_X3_piece_41 ?_
    refine g_icmp_ne cx 70 e_X3_piece_43 (by decide) (fun zc10 => ?_) (fun zc10 => ?_)
    · refine g_aload_n cx 0 rfl e_X3_piece_70 ?_
      refine g_iload_n cx 1 rfl e_X3_piece_71 ?_
      refine g_cVvW cx [.int 2] [] (w_X3_comparison_c2 l X ad F R hI hA) ml_X3_93 yV_X3_comparison e_X3_piece_72 (by unfold g_rr; decide) (by decide) 33 rfl rfl rfl (Nat.le_of_ble_eq_true rfl) (fun w12 h13 => ?_)
      obtain ⟨F14, R15, rfl, oF14, oR15, cF14, cR15⟩ := h13
      have fF14 : g_fr md_X3_piece_c2 F F14 := g_fr_c (g_fr_rf F) cF14 rfl
      have fR15 : g_fr mr_X3_piece_c2 R R15 := g_fr_c (g_fr_rf R) cR15 rfl
      refine g_lsub [] [] rfl ?_
      exact J75 F14 R15 oF14 fF14 oR15 fR15
    · have p16 := gn_eq 40 40 (gc_eq zc10) pr7 (jv_k (x := 40) 40 (by decide)) (by decide)
      refine g_aload_n cx 0 rfl e_X3_piece_46 ?_
      refine g_iload_n cx 1 rfl e_X3_piece_47 ?_
      refine g_cViW cx [.int 2] [] (w_X3_opens_c2 l X ad F R hI hA) ml_X3_89 yV_X3_opens e_X3_piece_48 (by unfold g_rr; decide) (by decide) 33 rfl rfl rfl (Nat.le_of_ble_eq_true rfl) (fun r17 w18 h19 => ?_)
      obtain ⟨F20, R21, rfl, oF20, oR21, cF20, cR21, pr17⟩ := h19
      have fF20 : g_fr md_X3_piece_c2 F F20 := g_fr_c (g_fr_rf F) cF20 rfl
      have fR21 : g_fr mr_X3_piece_c2 R R21 := g_fr_c (g_fr_rf R) cR21 rfl
      refine g_if_eq cx 75 e_X3_piece_51 (by decide) (fun zc22 => ?_) (fun zc22 => ?_)
      · exact (gf_eq (gc_eq zc22) pr17 (jv_k (x := 0) 0 (by decide)) (by decide)).elim
      · refine g_aload_n cx 0 rfl e_X3_piece_54 ?_
        refine g_iload_n cx 1 rfl e_X3_piece_55 ?_
        refine g_iconst cx 1 (by decide) e_X3_piece_56 ?_
        refine g_iadd cx e_X3_piece_57 ?_
        refine g_toi 3 (by decide) ?_
        refine g_cVvW cx [.int 3] [] (w_X3_parts_c3 l X ad F20 R21 oF20 oR21) ml_X3_73 yV_X3_parts e_X3_piece_58 (by unfold g_rr; decide) (by decide) 33 rfl rfl rfl (Nat.le_of_ble_eq_true rfl) (fun w24 h25 => ?_)
        obtain ⟨F26, R27, rfl, oF26, oR27, cF26, cR27⟩ := h25
        have fF26 : g_fr md_X3_piece_c2 F F26 := g_fr_c fF20 cF26 rfl
        have fR27 : g_fr mr_X3_piece_c2 R R27 := g_fr_c fR21 cR27 rfl
        refine g_aload_n cx 0 rfl e_X3_piece_61 ?_
        refine g_bipush cx 41 (by decide) e_X3_piece_62 ?_
        refine g_cVvW cx [.int 41] [] (w_X3_pass l X ad F26 R27 oF26 oR27 41) ml_X3_70 yV_X3_pass e_X3_piece_64 (by unfold g_rr; decide) (by decide) 33 rfl rfl rfl (Nat.le_of_ble_eq_true rfl) (fun w29 h30 => ?_)
        obtain ⟨F31, R32, rfl, oF31, oR32, cF31, cR32⟩ := h30
        have fF31 : g_fr md_X3_piece_c2 F F31 := g_fr_c fF26 cF31 rfl
        have fR32 : g_fr mr_X3_piece_c2 R R32 := g_fr_c fR27 cR32 rfl
        refine g_goto cx 75 e_X3_piece_67 (by decide) ?_
        refine g_lsub [] [] rfl ?_
        exact J75 F31 R32 oF31 fF31 oR32 fR32
  · have p33 := gn_eq 33 33 (gc_eq zc6) pr1 (jv_k (x := 33) 33 (by decide)) (by decide)
    refine g_aload_n cx 0 rfl e_X3_piece_9 ?_
    refine g_iload_n cx 1 rfl e_X3_piece_10 ?_
    refine g_cViW cx [.int 2] [] (w_X3_opens_c2 l X ad F R hI hA) ml_X3_89 yV_X3_opens e_X3_piece_11 (by unfold g_rr; decide) (by decide) 33 rfl rfl rfl (Nat.le_of_ble_eq_true rfl) (fun r34 w35 h36 => ?_)
    obtain ⟨F37, R38, rfl, oF37, oR38, cF37, cR38, pr34⟩ := h36
    have fF37 : g_fr md_X3_piece_c2 F F37 := g_fr_c (g_fr_rf F) cF37 rfl
    have fR38 : g_fr mr_X3_piece_c2 R R38 := g_fr_c (g_fr_rf R) cR38 rfl
    refine g_if_eq cx 75 e_X3_piece_14 (by decide) (fun zc39 => ?_) (fun zc39 => ?_)
    · exact (gf_eq (gc_eq zc39) pr34 (jv_k (x := 0) 0 (by decide)) (by decide)).elim
    · refine g_aload_n cx 0 rfl e_X3_piece_17 ?_
      refine g_iload_n cx 1 rfl e_X3_piece_18 ?_
      refine g_iconst cx 1 (by decide) e_X3_piece_19 ?_
      refine g_iadd cx e_X3_piece_20 ?_
      refine g_toi 3 (by decide) ?_
      refine g_cVvW cx [.int 3] [] (w_X3_piece_c3 l X ad F37 R38 oF37 oR38) ml_X3_86 yV_X3_piece e_X3_piece_21 (by unfold g_rr; decide) (by decide) 33 rfl rfl rfl (Nat.le_of_ble_eq_true rfl) (fun w41 h42 => ?_)
      obtain ⟨F43, R44, rfl, oF43, oR44, cF43, cR44⟩ := h42
      have fF43 : g_fr md_X3_piece_c2 F F43 := g_fr_c fF37 cF43 rfl
      have fR44 : g_fr mr_X3_piece_c2 R R44 := g_fr_c fR38 cR44 rfl
      refine g_aload_n cx 0 rfl e_X3_piece_24 ?_
      refine g_get cx cl_X3 fl_X3_25 33 (.ref (ad 25)) e_X3_piece_25 rfl rfl ?_
      refine g_iconst cx 3 (by decide) e_X3_piece_28 ?_
      refine g_iconst cx 0 (by decide) e_X3_piece_29 ?_
      refine g_cViW cx [.int 3, .int 0] [] (w_X2_emit_25 l X ad F43 R44 oF43 oR44 3 0) ml_X3_66 yV_X2_emit e_X3_piece_30 (by unfold g_rr; decide) (by decide) 25 rfl rfl rfl (Nat.le_of_ble_eq_true rfl) (fun r45 w46 h47 => ?_)
      obtain ⟨F48, R49, rfl, oF48, oR49, cF48, cR49, pr45⟩ := h47
      have fF48 : g_fr md_X3_piece_c2 F F48 := g_fr_c fF43 cF48 rfl
      have fR49 : g_fr mr_X3_piece_c2 R R49 := g_fr_c fR44 cR49 rfl
      refine g_pop cx rfl e_X3_piece_33 ?_
      refine g_goto cx 75 e_X3_piece_34 (by decide) ?_
      refine g_lsub [] [] rfl ?_
      exact J75 F48 R49 oF48 fF48 oR49 fR49
def md_X3_pieces_c2 : List Nat := [402, 531, 532]
def mr_X3_pieces_c2 : List Nat := [26, 27]
set_option maxHeartbeats 4000000 in
set_option maxRecDepth 100000 in
theorem w_X3_pieces_c2 (l : Launch) (X : gX) (ad : Nat → Nat) (F : Nat → Int32) (R : Nat → Nat → Int32) (hI : g_ok LK_wX F) (hA : g_okR LA_wX R) : g_Cv l X yX3_pieces cX3_pieces 4 22 0 0 [.ref (ad 33), .int 2] (wX X ad F R) (fun w => ∃ (F' : Nat → Int32) (R' : Nat → Nat → Int32), w = wX X ad F' R' ∧ g_ok LK_wX F' ∧ g_okR LA_wX R' ∧ g_fr md_X3_pieces_c2 F F' ∧ g_fr mr_X3_pieces_c2 R R') := by
  refine g_mv (by decide +kernel) (Nat.le_of_ble_eq_true rfl) (fun E cx hret => ?_)
  refine g_aload_n cx 0 rfl e_X3_pieces_0 ?_
  refine g_iload_n cx 1 rfl e_X3_pieces_1 ?_
  refine g_cVvW cx [.int 2] [] (w_X3_piece_c2 l X ad F R hI hA) ml_X3_86 yV_X3_piece e_X3_pieces_2 (by unfold g_rr; decide) (by decide) 33 rfl rfl rfl (Nat.le_of_ble_eq_true rfl) (fun w2 h3 => ?_)
  obtain ⟨F4, R5, rfl, oF4, oR5, cF4, cR5⟩ := h3
  have fF4 : g_fr md_X3_pieces_c2 F F4 := g_fr_c (g_fr_rf F) cF4 rfl
  have fR5 : g_fr mr_X3_pieces_c2 R R5 := g_fr_c (g_fr_rf R) cR5 rfl
  refine g_iconst cx (-1) (by decide) e_X3_pieces_5 ?_
  refine g_istore_n cx [(2, .int (-1)), (0, .ref (ad 33)), (1, .int 2)] e_X3_pieces_6 (by decide) rfl ?_
  refine g_iconst cx 0 (by decide) e_X3_pieces_7 ?_
  refine g_istore_n cx [(3, .int 0), (2, .int (-1)), (0, .ref (ad 33)), (1, .int 2)] e_X3_pieces_8 (by decide) rfl ?_
  have J9 : ∀ (N : Nat) (F8 : Nat → Int32) (R9 : Nat → Nat → Int32) (y6 : Int32) (y7 : Int32), (g_ok LK_wX F8) → (g_fr md_X3_pieces_c2 F F8) → (g_okR LA_wX R9) → (g_fr mr_X3_pieces_c2 R R9) → (jv (-1) 256 y6) → (jv 0 200 y7) → (2147483647 - y7.toInt).toNat < N → G X E 4 0 0 (wX X ad F8 R9) [(0, .ref (ad 33)), (1, .int 2), (2, .int y6), (3, .int y7)] 9 [] := by
    intro N
    induction N with
    | zero => intro F8 R9 y6 y7 oF8 fF8 oR9 fR9 py6 py7 hm; exact absurd hm (Nat.not_lt_zero _)
    | succ N ih9 =>
      intro F8 R9 y6 y7 oF8 fF8 oR9 fR9 py6 py7 hm9
      refine g_iload_n cx 3 rfl e_X3_pieces_9 ?_
      refine g_sipush cx 200 (by decide) e_X3_pieces_10 ?_
      have J56 : G X E 4 0 0 (wX X ad F8 R9) [(0, .ref (ad 33)), (2, .int y6)] 56 [] := by
        refine g_aload_n cx 0 rfl e_X3_pieces_56 ?_
        refine g_get cx cl_X3 fl_X3_25 33 (.ref (ad 25)) e_X3_pieces_57 rfl rfl ?_
        refine g_iload_n cx 1 rfl e_X3_pieces_60 ?_
        refine g_cVvW cx [.int y6] [] (w_X2_landHere_25 l X ad F8 R9 oF8 oR9 y6) ml_X3_83 yV_X2_landHere e_X3_pieces_61 (by unfold g_rr; decide) (by decide) 25 rfl rfl rfl (Nat.le_of_ble_eq_true rfl) (fun w11 h12 => ?_)
        obtain ⟨F13, R14, rfl, oF13, oR14, cF13, cR14⟩ := h12
        have fF13 : g_fr md_X3_pieces_c2 F F13 := g_fr_c fF8 cF13 rfl
        have fR14 : g_fr mr_X3_pieces_c2 R R14 := g_fr_c fR9 cR14 rfl
        exact hret e_X3_pieces_64 (Nat.le_of_ble_eq_true rfl) (Nat.le_of_ble_eq_true rfl) ⟨F13, R14, rfl, oF13, oR14, fF13, fR14⟩
      refine g_icmp_ge cx 56 e_X3_pieces_13 (by decide) (fun zc15 => ?_) (fun zc15 => ?_)
      · have p16 := gn_ge 200 200 (gc_le zc15) py7 (jv_k (x := 200) 200 (by decide)) (by decide)
        refine g_lsub [0, 2] [(0, .ref (ad 33)), (2, .int y6)] rfl ?_
        exact J56  
      · have p17 := gn_lt 0 199 (gc_nle zc15) py7 (jv_k (x := 200) 200 (by decide)) (by decide)
        refine g_aload_n cx 0 rfl e_X3_pieces_16 ?_
        refine g_cViW cx [] [] (w_X3_sign l X ad F8 R9 oF8 oR9) ml_X3_42 yV_X3_sign e_X3_pieces_17 (by unfold g_rr; decide) (by decide) 33 rfl rfl rfl (Nat.le_of_ble_eq_true rfl) (fun r18 w19 h20 => ?_)
        obtain ⟨rfl, pr18⟩ := h20
        refine g_bipush cx 38 (by decide) e_X3_pieces_20 ?_
        refine g_icmp_ne cx 56 e_X3_pieces_22 (by decide) (fun zc21 => ?_) (fun zc21 => ?_)
        · refine g_lsub [0, 2] [(0, .ref (ad 33)), (2, .int y6)] rfl ?_
          exact J56  
        · have p22 := gn_eq 38 38 (gc_eq zc21) pr18 (jv_k (x := 38) 38 (by decide)) (by decide)
          refine g_aload_n cx 0 rfl e_X3_pieces_25 ?_
          refine g_dup cx rfl e_X3_pieces_26 ?_
          refine g_get cx cl_X3 fl_X3_19 33 (.int (F8 531)) e_X3_pieces_27 rfl rfl ?_
          refine g_iconst cx 1 (by decide) e_X3_pieces_30 ?_
          refine g_iadd cx e_X3_pieces_31 ?_
          refine g_topi (fun x23 ex23 => ?_)
          refine g_put cx cl_X3 fl_X3_19 33 (wX X ad (upd F8 531 x23) R9) e_X3_pieces_32 rfl rfl rfl rfl (Nat.le_of_ble_eq_true rfl) rfl ?_
          obtain ⟨F24, hF24⟩ : ∃ z, z = upd F8 531 x23 := ⟨_, rfl⟩
          rw [← hF24]
          have oF24 : g_ok LK_wX F24 := by rw [hF24]; exact g_ok_u oF8 rfl
          have fF24 : g_fr md_X3_pieces_c2 F F24 := by rw [hF24]; exact g_fr_u fF8 rfl
          refine g_aload_n cx 0 rfl e_X3_pieces_35 ?_
          refine g_get cx cl_X3 fl_X3_25 33 (.ref (ad 25)) e_X3_pieces_36 rfl rfl ?_
          refine g_iconst cx 4 (by decide) e_X3_pieces_39 ?_
          refine g_iload_n cx 2 rfl e_X3_pieces_40 ?_
          refine g_cViW cx [.int 4, .int y6] [] (w_X2_emit_25 l X ad F24 R9 oF24 oR9 4 y6) ml_X3_66 yV_X2_emit e_X3_pieces_41 (by unfold g_rr; decide) (by decide) 25 rfl rfl rfl (Nat.le_of_ble_eq_true rfl) (fun r25 w26 h27 => ?_)
          obtain ⟨F28, R29, rfl, oF28, oR29, cF28, cR29, pr25⟩ := h27
          have fF28 : g_fr md_X3_pieces_c2 F F28 := g_fr_c fF24 cF28 rfl
          have fR29 : g_fr mr_X3_pieces_c2 R R29 := g_fr_c fR9 cR29 rfl
          refine g_istore_n cx [(2, .int r25), (0, .ref (ad 33)), (1, .int 2), (3, .int y7)] e_X3_pieces_44 (by decide) rfl ?_
          refine g_aload_n cx 1 rfl e_X3_pieces_45 ?_
          refine g_iload_n cx 2 rfl e_X3_pieces_46 ?_
          refine g_cVvW cx [.int 2] [] (w_X3_piece_c2 l X ad F28 R29 oF28 oR29) ml_X3_86 yV_X3_piece e_X3_pieces_47 (by unfold g_rr; decide) (by decide) 33 rfl rfl rfl (Nat.le_of_ble_eq_true rfl) (fun w31 h32 => ?_)
          obtain ⟨F33, R34, rfl, oF33, oR34, cF33, cR34⟩ := h32
          have fF33 : g_fr md_X3_pieces_c2 F F33 := g_fr_c fF28 cF33 rfl
          have fR34 : g_fr mr_X3_pieces_c2 R R34 := g_fr_c fR29 cR34 rfl
          obtain ⟨x35, ex35⟩ : ∃ z : Int32, z = y7 + Int32.ofInt 1 := ⟨_, rfl⟩
          refine g_iinc cx x35 [(3, .int x35), (2, .int r25), (0, .ref (ad 33)), (1, .int 2)] 3 e_X3_pieces_50 rfl ex35.symm (by decide) rfl ?_
          have zx35 := jv_add 1 200 (show x35 = y7 + 1 from ex35) p17 (jv_k (x := 1) 1 (by decide)) (by decide)
          refine g_goto cx 9 e_X3_pieces_53 (by decide) ?_
          refine g_lsub [2, 3, 1, 0] [(0, .ref (ad 33)), (1, .int 2), (2, .int r25), (3, .int x35)] rfl ?_
          exact ih9 F33 R34 r25 x35 oF33 fF33 oR34 fR34 (jv_w pr25 (by decide)) (jv_w zx35.2 (by decide)) (Nat.lt_of_lt_of_le (show (2147483647 - x35.toInt).toNat < (2147483647 - y7.toInt).toNat from by have q0 := (jv_k (x := 1) 1 (by decide)).1; have q1 := (jv_k (x := 1) 1 (by decide)).2; have q2 := (jv_k (x := 200) 200 (by decide)).1; have q3 := (jv_k (x := 200) 200 (by decide)).2; have q4 := zx35.2.1; have q5 := zx35.2.2; have q6 := p17.1; have q7 := p17.2; have q8 := (gc_nle zc15); have q9 := (g_eq0 zx35.1); omega) (Nat.le_of_lt_succ hm9))
  refine g_lsub [2, 3, 1, 0] [(0, .ref (ad 33)), (1, .int 2), (2, .int (-1)), (3, .int 0)] rfl ?_
  exact J9 _ F4 R5 (-1) 0 oF4 fF4 oR5 fR5 (jv_w (jv_k (x := (-1)) (-1) (by decide)) (by decide)) (jv_w (jv_k (x := 0) 0 (by decide)) (by decide)) (Nat.lt_succ_self _)
def md_X3_parts_c2 : List Nat := [402, 531, 532]
def mr_X3_parts_c2 : List Nat := [26, 27]
set_option maxHeartbeats 4000000 in
set_option maxRecDepth 100000 in
theorem w_X3_parts_c2 (l : Launch) (X : gX) (ad : Nat → Nat) (F : Nat → Int32) (R : Nat → Nat → Int32) (hI : g_ok LK_wX F) (hA : g_okR LA_wX R) : g_Cv l X yX3_parts cX3_parts 4 23 0 0 [.ref (ad 33), .int 2] (wX X ad F R) (fun w => ∃ (F' : Nat → Int32) (R' : Nat → Nat → Int32), w = wX X ad F' R' ∧ g_ok LK_wX F' ∧ g_okR LA_wX R' ∧ g_fr md_X3_parts_c2 F F' ∧ g_fr mr_X3_parts_c2 R R') := by
  refine g_mv (by decide +kernel) (Nat.le_of_ble_eq_true rfl) (fun E cx hret => ?_)
  refine g_aload_n cx 0 rfl e_X3_parts_0 ?_
  refine g_iload_n cx 1 rfl e_X3_parts_1 ?_
  refine g_cVvW cx [.int 2] [] (w_X3_pieces_c2 l X ad F R hI hA) ml_X3_80 yV_X3_pieces e_X3_parts_2 (by unfold g_rr; decide) (by decide) 33 rfl rfl rfl (Nat.le_of_ble_eq_true rfl) (fun w2 h3 => ?_)
  obtain ⟨F4, R5, rfl, oF4, oR5, cF4, cR5⟩ := h3
  have fF4 : g_fr md_X3_parts_c2 F F4 := g_fr_c (g_fr_rf F) cF4 rfl
  have fR5 : g_fr mr_X3_parts_c2 R R5 := g_fr_c (g_fr_rf R) cR5 rfl
  refine g_iconst cx (-1) (by decide) e_X3_parts_5 ?_
  refine g_istore_n cx [(2, .int (-1)), (0, .ref (ad 33)), (1, .int 2)] e_X3_parts_6 (by decide) rfl ?_
  refine g_iconst cx 0 (by decide) e_X3_parts_7 ?_
  refine g_istore_n cx [(3, .int 0), (2, .int (-1)), (0, .ref (ad 33)), (1, .int 2)] e_X3_parts_8 (by decide) rfl ?_
  have J9 : ∀ (N : Nat) (F8 : Nat → Int32) (R9 : Nat → Nat → Int32) (y6 : Int32) (y7 : Int32), (g_ok LK_wX F8) → (g_fr md_X3_parts_c2 F F8) → (g_okR LA_wX R9) → (g_fr mr_X3_parts_c2 R R9) → (jv (-1) 256 y6) → (jv 0 200 y7) → (2147483647 - y7.toInt).toNat < N → G X E 4 0 0 (wX X ad F8 R9) [(0, .ref (ad 33)), (1, .int 2), (2, .int y6), (3, .int y7)] 9 [] := by
    intro N
    induction N with
    | zero => intro F8 R9 y6 y7 oF8 fF8 oR9 fR9 py6 py7 hm; exact absurd hm (Nat.not_lt_zero _)
    | succ N ih9 =>
      intro F8 R9 y6 y7 oF8 fF8 oR9 fR9 py6 py7 hm9
      refine g_iload_n cx 3 rfl e_X3_parts_9 ?_
      refine g_sipush cx 200 (by decide) e_X3_parts_10 ?_
      have J56 : G X E 4 0 0 (wX X ad F8 R9) [(0, .ref (ad 33)), (2, .int y6)] 56 [] := by
        refine g_aload_n cx 0 rfl e_X3_parts_56 ?_
        refine g_get cx cl_X3 fl_X3_25 33 (.ref (ad 25)) e_X3_parts_57 rfl rfl ?_
        refine g_iload_n cx 1 rfl e_X3_parts_60 ?_
        refine g_cVvW cx [.int y6] [] (w_X2_landHere_25 l X ad F8 R9 oF8 oR9 y6) ml_X3_83 yV_X2_landHere e_X3_parts_61 (by unfold g_rr; decide) (by decide) 25 rfl rfl rfl (Nat.le_of_ble_eq_true rfl) (fun w11 h12 => ?_)
        obtain ⟨F13, R14, rfl, oF13, oR14, cF13, cR14⟩ := h12
        have fF13 : g_fr md_X3_parts_c2 F F13 := g_fr_c fF8 cF13 rfl
        have fR14 : g_fr mr_X3_parts_c2 R R14 := g_fr_c fR9 cR14 rfl
        exact hret e_X3_parts_64 (Nat.le_of_ble_eq_true rfl) (Nat.le_of_ble_eq_true rfl) ⟨F13, R14, rfl, oF13, oR14, fF13, fR14⟩
      refine g_icmp_ge cx 56 e_X3_parts_13 (by decide) (fun zc15 => ?_) (fun zc15 => ?_)
      · have p16 := gn_ge 200 200 (gc_le zc15) py7 (jv_k (x := 200) 200 (by decide)) (by decide)
        refine g_lsub [0, 2] [(0, .ref (ad 33)), (2, .int y6)] rfl ?_
        exact J56  
      · have p17 := gn_lt 0 199 (gc_nle zc15) py7 (jv_k (x := 200) 200 (by decide)) (by decide)
        refine g_aload_n cx 0 rfl e_X3_parts_16 ?_
        refine g_cViW cx [] [] (w_X3_sign l X ad F8 R9 oF8 oR9) ml_X3_42 yV_X3_sign e_X3_parts_17 (by unfold g_rr; decide) (by decide) 33 rfl rfl rfl (Nat.le_of_ble_eq_true rfl) (fun r18 w19 h20 => ?_)
        obtain ⟨rfl, pr18⟩ := h20
        refine g_bipush cx 124 (by decide) e_X3_parts_20 ?_
        refine g_icmp_ne cx 56 e_X3_parts_22 (by decide) (fun zc21 => ?_) (fun zc21 => ?_)
        · refine g_lsub [0, 2] [(0, .ref (ad 33)), (2, .int y6)] rfl ?_
          exact J56  
        · have p22 := gn_eq 124 124 (gc_eq zc21) pr18 (jv_k (x := 124) 124 (by decide)) (by decide)
          refine g_aload_n cx 0 rfl e_X3_parts_25 ?_
          refine g_dup cx rfl e_X3_parts_26 ?_
          refine g_get cx cl_X3 fl_X3_19 33 (.int (F8 531)) e_X3_parts_27 rfl rfl ?_
          refine g_iconst cx 1 (by decide) e_X3_parts_30 ?_
          refine g_iadd cx e_X3_parts_31 ?_
          refine g_topi (fun x23 ex23 => ?_)
          refine g_put cx cl_X3 fl_X3_19 33 (wX X ad (upd F8 531 x23) R9) e_X3_parts_32 rfl rfl rfl rfl (Nat.le_of_ble_eq_true rfl) rfl ?_
          obtain ⟨F24, hF24⟩ : ∃ z, z = upd F8 531 x23 := ⟨_, rfl⟩
          rw [← hF24]
          have oF24 : g_ok LK_wX F24 := by rw [hF24]; exact g_ok_u oF8 rfl
          have fF24 : g_fr md_X3_parts_c2 F F24 := by rw [hF24]; exact g_fr_u fF8 rfl
          refine g_aload_n cx 0 rfl e_X3_parts_35 ?_
          refine g_get cx cl_X3 fl_X3_25 33 (.ref (ad 25)) e_X3_parts_36 rfl rfl ?_
          refine g_iconst cx 5 (by decide) e_X3_parts_39 ?_
          refine g_iload_n cx 2 rfl e_X3_parts_40 ?_
          refine g_cViW cx [.int 5, .int y6] [] (w_X2_emit_25 l X ad F24 R9 oF24 oR9 5 y6) ml_X3_66 yV_X2_emit e_X3_parts_41 (by unfold g_rr; decide) (by decide) 25 rfl rfl rfl (Nat.le_of_ble_eq_true rfl) (fun r25 w26 h27 => ?_)
          obtain ⟨F28, R29, rfl, oF28, oR29, cF28, cR29, pr25⟩ := h27
          have fF28 : g_fr md_X3_parts_c2 F F28 := g_fr_c fF24 cF28 rfl
          have fR29 : g_fr mr_X3_parts_c2 R R29 := g_fr_c fR9 cR29 rfl
          refine g_istore_n cx [(2, .int r25), (0, .ref (ad 33)), (1, .int 2), (3, .int y7)] e_X3_parts_44 (by decide) rfl ?_
          refine g_aload_n cx 1 rfl e_X3_parts_45 ?_
          refine g_iload_n cx 2 rfl e_X3_parts_46 ?_
          refine g_cVvW cx [.int 2] [] (w_X3_pieces_c2 l X ad F28 R29 oF28 oR29) ml_X3_80 yV_X3_pieces e_X3_parts_47 (by unfold g_rr; decide) (by decide) 33 rfl rfl rfl (Nat.le_of_ble_eq_true rfl) (fun w31 h32 => ?_)
          obtain ⟨F33, R34, rfl, oF33, oR34, cF33, cR34⟩ := h32
          have fF33 : g_fr md_X3_parts_c2 F F33 := g_fr_c fF28 cF33 rfl
          have fR34 : g_fr mr_X3_parts_c2 R R34 := g_fr_c fR29 cR34 rfl
          obtain ⟨x35, ex35⟩ : ∃ z : Int32, z = y7 + Int32.ofInt 1 := ⟨_, rfl⟩
          refine g_iinc cx x35 [(3, .int x35), (2, .int r25), (0, .ref (ad 33)), (1, .int 2)] 3 e_X3_parts_50 rfl ex35.symm (by decide) rfl ?_
          have zx35 := jv_add 1 200 (show x35 = y7 + 1 from ex35) p17 (jv_k (x := 1) 1 (by decide)) (by decide)
          refine g_goto cx 9 e_X3_parts_53 (by decide) ?_
          refine g_lsub [2, 3, 1, 0] [(0, .ref (ad 33)), (1, .int 2), (2, .int r25), (3, .int x35)] rfl ?_
          exact ih9 F33 R34 r25 x35 oF33 fF33 oR34 fR34 (jv_w pr25 (by decide)) (jv_w zx35.2 (by decide)) (Nat.lt_of_lt_of_le (show (2147483647 - x35.toInt).toNat < (2147483647 - y7.toInt).toNat from by have q0 := (jv_k (x := 1) 1 (by decide)).1; have q1 := (jv_k (x := 1) 1 (by decide)).2; have q2 := (jv_k (x := 200) 200 (by decide)).1; have q3 := (jv_k (x := 200) 200 (by decide)).2; have q4 := zx35.2.1; have q5 := zx35.2.2; have q6 := p17.1; have q7 := p17.2; have q8 := (gc_nle zc15); have q9 := (g_eq0 zx35.1); omega) (Nat.le_of_lt_succ hm9))
  refine g_lsub [2, 3, 1, 0] [(0, .ref (ad 33)), (1, .int 2), (2, .int (-1)), (3, .int 0)] rfl ?_
  exact J9 _ F4 R5 (-1) 0 oF4 fF4 oR5 fR5 (jv_w (jv_k (x := (-1)) (-1) (by decide)) (by decide)) (jv_w (jv_k (x := 0) 0 (by decide)) (by decide)) (Nat.lt_succ_self _)
def md_X3_piece_c1 : List Nat := [402, 531, 532]
def mr_X3_piece_c1 : List Nat := [26, 27]
set_option maxHeartbeats 4000000 in
set_option maxRecDepth 100000 in
theorem w_X3_piece_c1 (l : Launch) (X : gX) (ad : Nat → Nat) (F : Nat → Int32) (R : Nat → Nat → Int32) (hI : g_ok LK_wX F) (hA : g_okR LA_wX R) : g_Cv l X yX3_piece cX3_piece 2 24 0 0 [.ref (ad 33), .int 1] (wX X ad F R) (fun w => ∃ (F' : Nat → Int32) (R' : Nat → Nat → Int32), w = wX X ad F' R' ∧ g_ok LK_wX F' ∧ g_okR LA_wX R' ∧ g_fr md_X3_piece_c1 F F' ∧ g_fr mr_X3_piece_c1 R R') := by
  refine g_mv (by decide +kernel) (Nat.le_of_ble_eq_true rfl) (fun E cx hret => ?_)
  refine g_aload_n cx 0 rfl e_X3_piece_0 ?_
  refine g_cViW cx [] [] (w_X3_sign l X ad F R hI hA) ml_X3_42 yV_X3_sign e_X3_piece_1 (by unfold g_rr; decide) (by decide) 33 rfl rfl rfl (Nat.le_of_ble_eq_true rfl) (fun r1 w2 h3 => ?_)
  obtain ⟨rfl, pr1⟩ := h3
  refine g_bipush cx 33 (by decide) e_X3_piece_4 ?_
  have J75 : ∀ (F4 : Nat → Int32) (R5 : Nat → Nat → Int32), (g_ok LK_wX F4) → (g_fr md_X3_piece_c1 F F4) → (g_okR LA_wX R5) → (g_fr mr_X3_piece_c1 R R5) → G X E 2 0 0 (wX X ad F4 R5) [] 75 [] := by
    intro F4 R5 oF4 fF4 oR5 fR5
    exact hret e_X3_piece_75 (Nat.le_of_ble_eq_true rfl) (Nat.le_of_ble_eq_true rfl) ⟨F4, R5, rfl, oF4, oR5, fF4, fR5⟩
  refine g_icmp_ne cx 37 e_X3_piece_6 (by decide) (fun zc6 => ?_) (fun zc6 => ?_)
  · refine g_aload_n cx 0 rfl e_X3_piece_37 ?_
    refine g_cViW cx [] [] (w_X3_sign l X ad F R hI hA) ml_X3_42 yV_X3_sign e_X3_piece_38 (by unfold g_rr; decide) (by decide) 33 rfl rfl rfl (Nat.le_of_ble_eq_true rfl) (fun r7 w8 h9 => ?_)
    obtain ⟨rfl, pr7⟩ := h9
    refine g_bipush cx 40 (by decide) e_X3_piece_41 ?_
    refine g_icmp_ne cx 70 e_X3_piece_43 (by decide) (fun zc10 => ?_) (fun zc10 => ?_)
    · refine g_aload_n cx 0 rfl e_X3_piece_70 ?_
      refine g_iload_n cx 1 rfl e_X3_piece_71 ?_
      refine g_cVvW cx [.int 1] [] (w_X3_comparison_c1 l X ad F R hI hA) ml_X3_93 yV_X3_comparison e_X3_piece_72 (by unfold g_rr; decide) (by decide) 33 rfl rfl rfl (Nat.le_of_ble_eq_true rfl) (fun w12 h13 => ?_)
      obtain ⟨F14, R15, rfl, oF14, oR15, cF14, cR15⟩ := h13
      have fF14 : g_fr md_X3_piece_c1 F F14 := g_fr_c (g_fr_rf F) cF14 rfl
      have fR15 : g_fr mr_X3_piece_c1 R R15 := g_fr_c (g_fr_rf R) cR15 rfl
      refine g_lsub [] [] rfl ?_
      exact J75 F14 R15 oF14 fF14 oR15 fR15
    · have p16 := gn_eq 40 40 (gc_eq zc10) pr7 (jv_k (x := 40) 40 (by decide)) (by decide)
      refine g_aload_n cx 0 rfl e_X3_piece_46 ?_
      refine g_iload_n cx 1 rfl e_X3_piece_47 ?_
      refine g_cViW cx [.int 1] [] (w_X3_opens_c1 l X ad F R hI hA) ml_X3_89 yV_X3_opens e_X3_piece_48 (by unfold g_rr; decide) (by decide) 33 rfl rfl rfl (Nat.le_of_ble_eq_true rfl) (fun r17 w18 h19 => ?_)
      obtain ⟨F20, R21, rfl, oF20, oR21, cF20, cR21, pr17⟩ := h19
      have fF20 : g_fr md_X3_piece_c1 F F20 := g_fr_c (g_fr_rf F) cF20 rfl
      have fR21 : g_fr mr_X3_piece_c1 R R21 := g_fr_c (g_fr_rf R) cR21 rfl
      refine g_if_eq cx 75 e_X3_piece_51 (by decide) (fun zc22 => ?_) (fun zc22 => ?_)
      · exact (gf_eq (gc_eq zc22) pr17 (jv_k (x := 0) 0 (by decide)) (by decide)).elim
      · refine g_aload_n cx 0 rfl e_X3_piece_54 ?_
        refine g_iload_n cx 1 rfl e_X3_piece_55 ?_
        refine g_iconst cx 1 (by decide) e_X3_piece_56 ?_
        refine g_iadd cx e_X3_piece_57 ?_
        refine g_toi 2 (by decide) ?_
        refine g_cVvW cx [.int 2] [] (w_X3_parts_c2 l X ad F20 R21 oF20 oR21) ml_X3_73 yV_X3_parts e_X3_piece_58 (by unfold g_rr; decide) (by decide) 33 rfl rfl rfl (Nat.le_of_ble_eq_true rfl) (fun w24 h25 => ?_)
        obtain ⟨F26, R27, rfl, oF26, oR27, cF26, cR27⟩ := h25
        have fF26 : g_fr md_X3_piece_c1 F F26 := g_fr_c fF20 cF26 rfl
        have fR27 : g_fr mr_X3_piece_c1 R R27 := g_fr_c fR21 cR27 rfl
        refine g_aload_n cx 0 rfl e_X3_piece_61 ?_
        refine g_bipush cx 41 (by decide) e_X3_piece_62 ?_
        refine g_cVvW cx [.int 41] [] (w_X3_pass l X ad F26 R27 oF26 oR27 41) ml_X3_70 yV_X3_pass e_X3_piece_64 (by unfold g_rr; decide) (by decide) 33 rfl rfl rfl (Nat.le_of_ble_eq_true rfl) (fun w29 h30 => ?_)
        obtain ⟨F31, R32, rfl, oF31, oR32, cF31, cR32⟩ := h30
        have fF31 : g_fr md_X3_piece_c1 F F31 := g_fr_c fF26 cF31 rfl
        have fR32 : g_fr mr_X3_piece_c1 R R32 := g_fr_c fR27 cR32 rfl
        refine g_goto cx 75 e_X3_piece_67 (by decide) ?_
        refine g_lsub [] [] rfl ?_
        exact J75 F31 R32 oF31 fF31 oR32 fR32
  · have p33 := gn_eq 33 33 (gc_eq zc6) pr1 (jv_k (x := 33) 33 (by decide)) (by decide)
    refine g_aload_n cx 0 rfl e_X3_piece_9 ?_
    refine g_iload_n cx 1 rfl e_X3_piece_10 ?_
    refine g_cViW cx [.int 1] [] (w_X3_opens_c1 l X ad F R hI hA) ml_X3_89 yV_X3_opens e_X3_piece_11 (by unfold g_rr; decide) (by decide) 33 rfl rfl rfl (Nat.le_of_ble_eq_true rfl) (fun r34 w35 h36 => ?_)
    obtain ⟨F37, R38, rfl, oF37, oR38, cF37, cR38, pr34⟩ := h36
    have fF37 : g_fr md_X3_piece_c1 F F37 := g_fr_c (g_fr_rf F) cF37 rfl
    have fR38 : g_fr mr_X3_piece_c1 R R38 := g_fr_c (g_fr_rf R) cR38 rfl
    refine g_if_eq cx 75 e_X3_piece_14 (by decide) (fun zc39 => ?_) (fun zc39 => ?_)
    · exact (gf_eq (gc_eq zc39) pr34 (jv_k (x := 0) 0 (by decide)) (by decide)).elim
    · refine g_aload_n cx 0 rfl e_X3_piece_17 ?_
      refine g_iload_n cx 1 rfl e_X3_piece_18 ?_
      refine g_iconst cx 1 (by decide) e_X3_piece_19 ?_
      refine g_iadd cx e_X3_piece_20 ?_
      refine g_toi 2 (by decide) ?_
      refine g_cVvW cx [.int 2] [] (w_X3_piece_c2 l X ad F37 R38 oF37 oR38) ml_X3_86 yV_X3_piece e_X3_piece_21 (by unfold g_rr; decide) (by decide) 33 rfl rfl rfl (Nat.le_of_ble_eq_true rfl) (fun w41 h42 => ?_)
      obtain ⟨F43, R44, rfl, oF43, oR44, cF43, cR44⟩ := h42
      have fF43 : g_fr md_X3_piece_c1 F F43 := g_fr_c fF37 cF43 rfl
      have fR44 : g_fr mr_X3_piece_c1 R R44 := g_fr_c fR38 cR44 rfl
      refine g_aload_n cx 0 rfl e_X3_piece_24 ?_
      refine g_get cx cl_X3 fl_X3_25 33 (.ref (ad 25)) e_X3_piece_25 rfl rfl ?_
      refine g_iconst cx 3 (by decide) e_X3_piece_28 ?_
      refine g_iconst cx 0 (by decide) e_X3_piece_29 ?_
      refine g_cViW cx [.int 3, .int 0] [] (w_X2_emit_25 l X ad F43 R44 oF43 oR44 3 0) ml_X3_66 yV_X2_emit e_X3_piece_30 (by unfold g_rr; decide) (by decide) 25 rfl rfl rfl (Nat.le_of_ble_eq_true rfl) (fun r45 w46 h47 => ?_)
      obtain ⟨F48, R49, rfl, oF48, oR49, cF48, cR49, pr45⟩ := h47
      have fF48 : g_fr md_X3_piece_c1 F F48 := g_fr_c fF43 cF48 rfl
      have fR49 : g_fr mr_X3_piece_c1 R R49 := g_fr_c fR44 cR49 rfl
      refine g_pop cx rfl e_X3_piece_33 ?_
      refine g_goto cx 75 e_X3_piece_34 (by decide) ?_
      refine g_lsub [] [] rfl ?_
      exact J75 F48 R49 oF48 fF48 oR49 fR49
def md_X3_pieces_c1 : List Nat := [402, 531, 532]
def mr_X3_pieces_c1 : List Nat := [26, 27]
set_option maxHeartbeats 4000000 in
set_option maxRecDepth 100000 in
theorem w_X3_pieces_c1 (l : Launch) (X : gX) (ad : Nat → Nat) (F : Nat → Int32) (R : Nat → Nat → Int32) (hI : g_ok LK_wX F) (hA : g_okR LA_wX R) : g_Cv l X yX3_pieces cX3_pieces 4 25 0 0 [.ref (ad 33), .int 1] (wX X ad F R) (fun w => ∃ (F' : Nat → Int32) (R' : Nat → Nat → Int32), w = wX X ad F' R' ∧ g_ok LK_wX F' ∧ g_okR LA_wX R' ∧ g_fr md_X3_pieces_c1 F F' ∧ g_fr mr_X3_pieces_c1 R R') := by
  refine g_mv (by decide +kernel) (Nat.le_of_ble_eq_true rfl) (fun E cx hret => ?_)
  refine g_aload_n cx 0 rfl e_X3_pieces_0 ?_
  refine g_iload_n cx 1 rfl e_X3_pieces_1 ?_
  refine g_cVvW cx [.int 1] [] (w_X3_piece_c1 l X ad F R hI hA) ml_X3_86 yV_X3_piece e_X3_pieces_2 (by unfold g_rr; decide) (by decide) 33 rfl rfl rfl (Nat.le_of_ble_eq_true rfl) (fun w2 h3 => ?_)
  obtain ⟨F4, R5, rfl, oF4, oR5, cF4, cR5⟩ := h3
  have fF4 : g_fr md_X3_pieces_c1 F F4 := g_fr_c (g_fr_rf F) cF4 rfl
  have fR5 : g_fr mr_X3_pieces_c1 R R5 := g_fr_c (g_fr_rf R) cR5 rfl
  refine g_iconst cx (-1) (by decide) e_X3_pieces_5 ?_
  refine g_istore_n cx [(2, .int (-1)), (0, .ref (ad 33)), (1, .int 1)] e_X3_pieces_6 (by decide) rfl ?_
  refine g_iconst cx 0 (by decide) e_X3_pieces_7 ?_
  refine g_istore_n cx [(3, .int 0), (2, .int (-1)), (0, .ref (ad 33)), (1, .int 1)] e_X3_pieces_8 (by decide) rfl ?_
  have J9 : ∀ (N : Nat) (F8 : Nat → Int32) (R9 : Nat → Nat → Int32) (y6 : Int32) (y7 : Int32), (g_ok LK_wX F8) → (g_fr md_X3_pieces_c1 F F8) → (g_okR LA_wX R9) → (g_fr mr_X3_pieces_c1 R R9) → (jv (-1) 256 y6) → (jv 0 200 y7) → (2147483647 - y7.toInt).toNat < N → G X E 4 0 0 (wX X ad F8 R9) [(0, .ref (ad 33)), (1, .int 1), (2, .int y6), (3, .int y7)] 9 [] := by
    intro N
    induction N with
    | zero => intro F8 R9 y6 y7 oF8 fF8 oR9 fR9 py6 py7 hm; exact absurd hm (Nat.not_lt_zero _)
    | succ N ih9 =>
      intro F8 R9 y6 y7 oF8 fF8 oR9 fR9 py6 py7 hm9
      refine g_iload_n cx 3 rfl e_X3_pieces_9 ?_
      refine g_sipush cx 200 (by decide) e_X3_pieces_10 ?_
      have J56 : G X E 4 0 0 (wX X ad F8 R9) [(0, .ref (ad 33)), (2, .int y6)] 56 [] := by
        refine g_aload_n cx 0 rfl e_X3_pieces_56 ?_
        refine g_get cx cl_X3 fl_X3_25 33 (.ref (ad 25)) e_X3_pieces_57 rfl rfl ?_
        refine g_iload_n cx 1 rfl e_X3_pieces_60 ?_
        refine g_cVvW cx [.int y6] [] (w_X2_landHere_25 l X ad F8 R9 oF8 oR9 y6) ml_X3_83 yV_X2_landHere e_X3_pieces_61 (by unfold g_rr; decide) (by decide) 25 rfl rfl rfl (Nat.le_of_ble_eq_true rfl) (fun w11 h12 => ?_)
        obtain ⟨F13, R14, rfl, oF13, oR14, cF13, cR14⟩ := h12
        have fF13 : g_fr md_X3_pieces_c1 F F13 := g_fr_c fF8 cF13 rfl
        have fR14 : g_fr mr_X3_pieces_c1 R R14 := g_fr_c fR9 cR14 rfl
        exact hret e_X3_pieces_64 (Nat.le_of_ble_eq_true rfl) (Nat.le_of_ble_eq_true rfl) ⟨F13, R14, rfl, oF13, oR14, fF13, fR14⟩
      refine g_icmp_ge cx 56 e_X3_pieces_13 (by decide) (fun zc15 => ?_) (fun zc15 => ?_)
      · have p16 := gn_ge 200 200 (gc_le zc15) py7 (jv_k (x := 200) 200 (by decide)) (by decide)
        refine g_lsub [0, 2] [(0, .ref (ad 33)), (2, .int y6)] rfl ?_
        exact J56  
      · have p17 := gn_lt 0 199 (gc_nle zc15) py7 (jv_k (x := 200) 200 (by decide)) (by decide)
        refine g_aload_n cx 0 rfl e_X3_pieces_16 ?_
        refine g_cViW cx [] [] (w_X3_sign l X ad F8 R9 oF8 oR9) ml_X3_42 yV_X3_sign e_X3_pieces_17 (by unfold g_rr; decide) (by decide) 33 rfl rfl rfl (Nat.le_of_ble_eq_true rfl) (fun r18 w19 h20 => ?_)
        obtain ⟨rfl, pr18⟩ := h20
        refine g_bipush cx 38 (by decide) e_X3_pieces_20 ?_
        refine g_icmp_ne cx 56 e_X3_pieces_22 (by decide) (fun zc21 => ?_) (fun zc21 => ?_)
        · refine g_lsub [0, 2] [(0, .ref (ad 33)), (2, .int y6)] rfl ?_
          exact J56  
        · have p22 := gn_eq 38 38 (gc_eq zc21) pr18 (jv_k (x := 38) 38 (by decide)) (by decide)
          refine g_aload_n cx 0 rfl e_X3_pieces_25 ?_
          refine g_dup cx rfl e_X3_pieces_26 ?_
          refine g_get cx cl_X3 fl_X3_19 33 (.int (F8 531)) e_X3_pieces_27 rfl rfl ?_
          refine g_iconst cx 1 (by decide) e_X3_pieces_30 ?_
          refine g_iadd cx e_X3_pieces_31 ?_
          refine g_topi (fun x23 ex23 => ?_)
          refine g_put cx cl_X3 fl_X3_19 33 (wX X ad (upd F8 531 x23) R9) e_X3_pieces_32 rfl rfl rfl rfl (Nat.le_of_ble_eq_true rfl) rfl ?_
          obtain ⟨F24, hF24⟩ : ∃ z, z = upd F8 531 x23 := ⟨_, rfl⟩
          rw [← hF24]
          have oF24 : g_ok LK_wX F24 := by rw [hF24]; exact g_ok_u oF8 rfl
          have fF24 : g_fr md_X3_pieces_c1 F F24 := by rw [hF24]; exact g_fr_u fF8 rfl
          refine g_aload_n cx 0 rfl e_X3_pieces_35 ?_
          refine g_get cx cl_X3 fl_X3_25 33 (.ref (ad 25)) e_X3_pieces_36 rfl rfl ?_
          refine g_iconst cx 4 (by decide) e_X3_pieces_39 ?_
          refine g_iload_n cx 2 rfl e_X3_pieces_40 ?_
          refine g_cViW cx [.int 4, .int y6] [] (w_X2_emit_25 l X ad F24 R9 oF24 oR9 4 y6) ml_X3_66 yV_X2_emit e_X3_pieces_41 (by unfold g_rr; decide) (by decide) 25 rfl rfl rfl (Nat.le_of_ble_eq_true rfl) (fun r25 w26 h27 => ?_)
          obtain ⟨F28, R29, rfl, oF28, oR29, cF28, cR29, pr25⟩ := h27
          have fF28 : g_fr md_X3_pieces_c1 F F28 := g_fr_c fF24 cF28 rfl
          have fR29 : g_fr mr_X3_pieces_c1 R R29 := g_fr_c fR9 cR29 rfl
          refine g_istore_n cx [(2, .int r25), (0, .ref (ad 33)), (1, .int 1), (3, .int y7)] e_X3_pieces_44 (by decide) rfl ?_
          refine g_aload_n cx 1 rfl e_X3_pieces_45 ?_
          refine g_iload_n cx 2 rfl e_X3_pieces_46 ?_
          refine g_cVvW cx [.int 1] [] (w_X3_piece_c1 l X ad F28 R29 oF28 oR29) ml_X3_86 yV_X3_piece e_X3_pieces_47 (by unfold g_rr; decide) (by decide) 33 rfl rfl rfl (Nat.le_of_ble_eq_true rfl) (fun w31 h32 => ?_)
          obtain ⟨F33, R34, rfl, oF33, oR34, cF33, cR34⟩ := h32
          have fF33 : g_fr md_X3_pieces_c1 F F33 := g_fr_c fF28 cF33 rfl
          have fR34 : g_fr mr_X3_pieces_c1 R R34 := g_fr_c fR29 cR34 rfl
          obtain ⟨x35, ex35⟩ : ∃ z : Int32, z = y7 + Int32.ofInt 1 := ⟨_, rfl⟩
          refine g_iinc cx x35 [(3, .int x35), (2, .int r25), (0, .ref (ad 33)), (1, .int 1)] 3 e_X3_pieces_50 rfl ex35.symm (by decide) rfl ?_
          have zx35 := jv_add 1 200 (show x35 = y7 + 1 from ex35) p17 (jv_k (x := 1) 1 (by decide)) (by decide)
          refine g_goto cx 9 e_X3_pieces_53 (by decide) ?_
          refine g_lsub [2, 3, 1, 0] [(0, .ref (ad 33)), (1, .int 1), (2, .int r25), (3, .int x35)] rfl ?_
          exact ih9 F33 R34 r25 x35 oF33 fF33 oR34 fR34 (jv_w pr25 (by decide)) (jv_w zx35.2 (by decide)) (Nat.lt_of_lt_of_le (show (2147483647 - x35.toInt).toNat < (2147483647 - y7.toInt).toNat from by have q0 := (jv_k (x := 1) 1 (by decide)).1; have q1 := (jv_k (x := 1) 1 (by decide)).2; have q2 := (jv_k (x := 200) 200 (by decide)).1; have q3 := (jv_k (x := 200) 200 (by decide)).2; have q4 := zx35.2.1; have q5 := zx35.2.2; have q6 := p17.1; have q7 := p17.2; have q8 := (gc_nle zc15); have q9 := (g_eq0 zx35.1); omega) (Nat.le_of_lt_succ hm9))
  refine g_lsub [2, 3, 1, 0] [(0, .ref (ad 33)), (1, .int 1), (2, .int (-1)), (3, .int 0)] rfl ?_
  exact J9 _ F4 R5 (-1) 0 oF4 fF4 oR5 fR5 (jv_w (jv_k (x := (-1)) (-1) (by decide)) (by decide)) (jv_w (jv_k (x := 0) 0 (by decide)) (by decide)) (Nat.lt_succ_self _)
def md_X3_parts_c1 : List Nat := [402, 531, 532]
def mr_X3_parts_c1 : List Nat := [26, 27]
set_option maxHeartbeats 4000000 in
set_option maxRecDepth 100000 in
theorem w_X3_parts_c1 (l : Launch) (X : gX) (ad : Nat → Nat) (F : Nat → Int32) (R : Nat → Nat → Int32) (hI : g_ok LK_wX F) (hA : g_okR LA_wX R) : g_Cv l X yX3_parts cX3_parts 4 26 0 0 [.ref (ad 33), .int 1] (wX X ad F R) (fun w => ∃ (F' : Nat → Int32) (R' : Nat → Nat → Int32), w = wX X ad F' R' ∧ g_ok LK_wX F' ∧ g_okR LA_wX R' ∧ g_fr md_X3_parts_c1 F F' ∧ g_fr mr_X3_parts_c1 R R') := by
  refine g_mv (by decide +kernel) (Nat.le_of_ble_eq_true rfl) (fun E cx hret => ?_)
  refine g_aload_n cx 0 rfl e_X3_parts_0 ?_
  refine g_iload_n cx 1 rfl e_X3_parts_1 ?_
  refine g_cVvW cx [.int 1] [] (w_X3_pieces_c1 l X ad F R hI hA) ml_X3_80 yV_X3_pieces e_X3_parts_2 (by unfold g_rr; decide) (by decide) 33 rfl rfl rfl (Nat.le_of_ble_eq_true rfl) (fun w2 h3 => ?_)
  obtain ⟨F4, R5, rfl, oF4, oR5, cF4, cR5⟩ := h3
  have fF4 : g_fr md_X3_parts_c1 F F4 := g_fr_c (g_fr_rf F) cF4 rfl
  have fR5 : g_fr mr_X3_parts_c1 R R5 := g_fr_c (g_fr_rf R) cR5 rfl
  refine g_iconst cx (-1) (by decide) e_X3_parts_5 ?_
  refine g_istore_n cx [(2, .int (-1)), (0, .ref (ad 33)), (1, .int 1)] e_X3_parts_6 (by decide) rfl ?_
  refine g_iconst cx 0 (by decide) e_X3_parts_7 ?_
  refine g_istore_n cx [(3, .int 0), (2, .int (-1)), (0, .ref (ad 33)), (1, .int 1)] e_X3_parts_8 (by decide) rfl ?_
  have J9 : ∀ (N : Nat) (F8 : Nat → Int32) (R9 : Nat → Nat → Int32) (y6 : Int32) (y7 : Int32), (g_ok LK_wX F8) → (g_fr md_X3_parts_c1 F F8) → (g_okR LA_wX R9) → (g_fr mr_X3_parts_c1 R R9) → (jv (-1) 256 y6) → (jv 0 200 y7) → (2147483647 - y7.toInt).toNat < N → G X E 4 0 0 (wX X ad F8 R9) [(0, .ref (ad 33)), (1, .int 1), (2, .int y6), (3, .int y7)] 9 [] := by
    intro N
    induction N with
    | zero => intro F8 R9 y6 y7 oF8 fF8 oR9 fR9 py6 py7 hm; exact absurd hm (Nat.not_lt_zero _)
    | succ N ih9 =>
      intro F8 R9 y6 y7 oF8 fF8 oR9 fR9 py6 py7 hm9
      refine g_iload_n cx 3 rfl e_X3_parts_9 ?_
      refine g_sipush cx 200 (by decide) e_X3_parts_10 ?_
      have J56 : G X E 4 0 0 (wX X ad F8 R9) [(0, .ref (ad 33)), (2, .int y6)] 56 [] := by
        refine g_aload_n cx 0 rfl e_X3_parts_56 ?_
        refine g_get cx cl_X3 fl_X3_25 33 (.ref (ad 25)) e_X3_parts_57 rfl rfl ?_
        refine g_iload_n cx 1 rfl e_X3_parts_60 ?_
        refine g_cVvW cx [.int y6] [] (w_X2_landHere_25 l X ad F8 R9 oF8 oR9 y6) ml_X3_83 yV_X2_landHere e_X3_parts_61 (by unfold g_rr; decide) (by decide) 25 rfl rfl rfl (Nat.le_of_ble_eq_true rfl) (fun w11 h12 => ?_)
        obtain ⟨F13, R14, rfl, oF13, oR14, cF13, cR14⟩ := h12
        have fF13 : g_fr md_X3_parts_c1 F F13 := g_fr_c fF8 cF13 rfl
        have fR14 : g_fr mr_X3_parts_c1 R R14 := g_fr_c fR9 cR14 rfl
        exact hret e_X3_parts_64 (Nat.le_of_ble_eq_true rfl) (Nat.le_of_ble_eq_true rfl) ⟨F13, R14, rfl, oF13, oR14, fF13, fR14⟩
      refine g_icmp_ge cx 56 e_X3_parts_13 (by decide) (fun zc15 => ?_) (fun zc15 => ?_)
      · have p16 := gn_ge 200 200 (gc_le zc15) py7 (jv_k (x := 200) 200 (by decide)) (by decide)
        refine g_lsub [0, 2] [(0, .ref (ad 33)), (2, .int y6)] rfl ?_
        exact J56  
      · have p17 := gn_lt 0 199 (gc_nle zc15) py7 (jv_k (x := 200) 200 (by decide)) (by decide)
        refine g_aload_n cx 0 rfl e_X3_parts_16 ?_
        refine g_cViW cx [] [] (w_X3_sign l X ad F8 R9 oF8 oR9) ml_X3_42 yV_X3_sign e_X3_parts_17 (by unfold g_rr; decide) (by decide) 33 rfl rfl rfl (Nat.le_of_ble_eq_true rfl) (fun r18 w19 h20 => ?_)
        obtain ⟨rfl, pr18⟩ := h20
        refine g_bipush cx 124 (by decide) e_X3_parts_20 ?_
        refine g_icmp_ne cx 56 e_X3_parts_22 (by decide) (fun zc21 => ?_) (fun zc21 => ?_)
        · refine g_lsub [0, 2] [(0, .ref (ad 33)), (2, .int y6)] rfl ?_
          exact J56  
        · have p22 := gn_eq 124 124 (gc_eq zc21) pr18 (jv_k (x := 124) 124 (by decide)) (by decide)
          refine g_aload_n cx 0 rfl e_X3_parts_25 ?_
          refine g_dup cx rfl e_X3_parts_26 ?_
          refine g_get cx cl_X3 fl_X3_19 33 (.int (F8 531)) e_X3_parts_27 rfl rfl ?_
          refine g_iconst cx 1 (by decide) e_X3_parts_30 ?_
          refine g_iadd cx e_X3_parts_31 ?_
          refine g_topi (fun x23 ex23 => ?_)
          refine g_put cx cl_X3 fl_X3_19 33 (wX X ad (upd F8 531 x23) R9) e_X3_parts_32 rfl rfl rfl rfl (Nat.le_of_ble_eq_true rfl) rfl ?_
          obtain ⟨F24, hF24⟩ : ∃ z, z = upd F8 531 x23 := ⟨_, rfl⟩
          rw [← hF24]
          have oF24 : g_ok LK_wX F24 := by rw [hF24]; exact g_ok_u oF8 rfl
          have fF24 : g_fr md_X3_parts_c1 F F24 := by rw [hF24]; exact g_fr_u fF8 rfl
          refine g_aload_n cx 0 rfl e_X3_parts_35 ?_
          refine g_get cx cl_X3 fl_X3_25 33 (.ref (ad 25)) e_X3_parts_36 rfl rfl ?_
          refine g_iconst cx 5 (by decide) e_X3_parts_39 ?_
          refine g_iload_n cx 2 rfl e_X3_parts_40 ?_
          refine g_cViW cx [.int 5, .int y6] [] (w_X2_emit_25 l X ad F24 R9 oF24 oR9 5 y6) ml_X3_66 yV_X2_emit e_X3_parts_41 (by unfold g_rr; decide) (by decide) 25 rfl rfl rfl (Nat.le_of_ble_eq_true rfl) (fun r25 w26 h27 => ?_)
          obtain ⟨F28, R29, rfl, oF28, oR29, cF28, cR29, pr25⟩ := h27
          have fF28 : g_fr md_X3_parts_c1 F F28 := g_fr_c fF24 cF28 rfl
          have fR29 : g_fr mr_X3_parts_c1 R R29 := g_fr_c fR9 cR29 rfl
          refine g_istore_n cx [(2, .int r25), (0, .ref (ad 33)), (1, .int 1), (3, .int y7)] e_X3_parts_44 (by decide) rfl ?_
          refine g_aload_n cx 1 rfl e_X3_parts_45 ?_
          refine g_iload_n cx 2 rfl e_X3_parts_46 ?_
          refine g_cVvW cx [.int 1] [] (w_X3_pieces_c1 l X ad F28 R29 oF28 oR29) ml_X3_80 yV_X3_pieces e_X3_parts_47 (by unfold g_rr; decide) (by decide) 33 rfl rfl rfl (Nat.le_of_ble_eq_true rfl) (fun w31 h32 => ?_)
          obtain ⟨F33, R34, rfl, oF33, oR34, cF33, cR34⟩ := h32
          have fF33 : g_fr md_X3_parts_c1 F F33 := g_fr_c fF28 cF33 rfl
          have fR34 : g_fr mr_X3_parts_c1 R R34 := g_fr_c fR29 cR34 rfl
          obtain ⟨x35, ex35⟩ : ∃ z : Int32, z = y7 + Int32.ofInt 1 := ⟨_, rfl⟩
          refine g_iinc cx x35 [(3, .int x35), (2, .int r25), (0, .ref (ad 33)), (1, .int 1)] 3 e_X3_parts_50 rfl ex35.symm (by decide) rfl ?_
          have zx35 := jv_add 1 200 (show x35 = y7 + 1 from ex35) p17 (jv_k (x := 1) 1 (by decide)) (by decide)
          refine g_goto cx 9 e_X3_parts_53 (by decide) ?_
          refine g_lsub [2, 3, 1, 0] [(0, .ref (ad 33)), (1, .int 1), (2, .int r25), (3, .int x35)] rfl ?_
          exact ih9 F33 R34 r25 x35 oF33 fF33 oR34 fR34 (jv_w pr25 (by decide)) (jv_w zx35.2 (by decide)) (Nat.lt_of_lt_of_le (show (2147483647 - x35.toInt).toNat < (2147483647 - y7.toInt).toNat from by have q0 := (jv_k (x := 1) 1 (by decide)).1; have q1 := (jv_k (x := 1) 1 (by decide)).2; have q2 := (jv_k (x := 200) 200 (by decide)).1; have q3 := (jv_k (x := 200) 200 (by decide)).2; have q4 := zx35.2.1; have q5 := zx35.2.2; have q6 := p17.1; have q7 := p17.2; have q8 := (gc_nle zc15); have q9 := (g_eq0 zx35.1); omega) (Nat.le_of_lt_succ hm9))
  refine g_lsub [2, 3, 1, 0] [(0, .ref (ad 33)), (1, .int 1), (2, .int (-1)), (3, .int 0)] rfl ?_
  exact J9 _ F4 R5 (-1) 0 oF4 fF4 oR5 fR5 (jv_w (jv_k (x := (-1)) (-1) (by decide)) (by decide)) (jv_w (jv_k (x := 0) 0 (by decide)) (by decide)) (Nat.lt_succ_self _)
theorem e_X2_addClause_0 : g_dc cX2_addClause 0 (.aload_n 0) 1 1 := ⟨by decide +kernel, rfl⟩
theorem e_X2_addClause_1 : g_dc cX2_addClause 1 (.getfield 31) 3 4 := ⟨by decide +kernel, rfl⟩
theorem e_X2_addClause_4 : g_dc cX2_addClause 4 (.bipush 14) 2 6 := ⟨by decide +kernel, rfl⟩
theorem e_X2_addClause_6 : g_dc cX2_addClause 6 (.if_icmp .ge 43) 3 9 := ⟨by decide +kernel, rfl⟩
theorem e_X2_addClause_9 : g_dc cX2_addClause 9 (.aload_n 0) 1 10 := ⟨by decide +kernel, rfl⟩
theorem e_X2_addClause_10 : g_dc cX2_addClause 10 (.getfield 22) 3 13 := ⟨by decide +kernel, rfl⟩
theorem e_X2_addClause_13 : g_dc cX2_addClause 13 (.aload_n 0) 1 14 := ⟨by decide +kernel, rfl⟩
theorem e_X2_addClause_14 : g_dc cX2_addClause 14 (.getfield 31) 3 17 := ⟨by decide +kernel, rfl⟩
theorem e_X2_addClause_17 : g_dc cX2_addClause 17 (.iload_n 1) 1 18 := ⟨by decide +kernel, rfl⟩
theorem e_X2_addClause_18 : g_dc cX2_addClause 18 (.iastore) 1 19 := ⟨by decide +kernel, rfl⟩
theorem e_X2_addClause_19 : g_dc cX2_addClause 19 (.aload_n 0) 1 20 := ⟨by decide +kernel, rfl⟩
theorem e_X2_addClause_20 : g_dc cX2_addClause 20 (.getfield 25) 3 23 := ⟨by decide +kernel, rfl⟩
theorem e_X2_addClause_23 : g_dc cX2_addClause 23 (.aload_n 0) 1 24 := ⟨by decide +kernel, rfl⟩
theorem e_X2_addClause_24 : g_dc cX2_addClause 24 (.getfield 31) 3 27 := ⟨by decide +kernel, rfl⟩
theorem e_X2_addClause_27 : g_dc cX2_addClause 27 (.iload_n 2) 1 28 := ⟨by decide +kernel, rfl⟩
theorem e_X2_addClause_28 : g_dc cX2_addClause 28 (.iastore) 1 29 := ⟨by decide +kernel, rfl⟩
theorem e_X2_addClause_29 : g_dc cX2_addClause 29 (.aload_n 0) 1 30 := ⟨by decide +kernel, rfl⟩
theorem e_X2_addClause_30 : g_dc cX2_addClause 30 (.getfield 28) 3 33 := ⟨by decide +kernel, rfl⟩
theorem e_X2_addClause_33 : g_dc cX2_addClause 33 (.aload_n 0) 1 34 := ⟨by decide +kernel, rfl⟩
theorem e_X2_addClause_34 : g_dc cX2_addClause 34 (.getfield 31) 3 37 := ⟨by decide +kernel, rfl⟩
theorem e_X2_addClause_37 : g_dc cX2_addClause 37 (.iload_n 3) 1 38 := ⟨by decide +kernel, rfl⟩
theorem e_X2_addClause_38 : g_dc cX2_addClause 38 (.iastore) 1 39 := ⟨by decide +kernel, rfl⟩
theorem e_X2_addClause_39 : g_dc cX2_addClause 39 (.aload_n 0) 1 40 := ⟨by decide +kernel, rfl⟩
theorem e_X2_addClause_40 : g_dc cX2_addClause 40 (.dup) 1 41 := ⟨by decide +kernel, rfl⟩
theorem e_X2_addClause_41 : g_dc cX2_addClause 41 (.getfield 31) 3 44 := ⟨by decide +kernel, rfl⟩
theorem e_X2_addClause_44 : g_dc cX2_addClause 44 (.iconst 1) 1 45 := ⟨by decide +kernel, rfl⟩
theorem e_X2_addClause_45 : g_dc cX2_addClause 45 (.iadd) 1 46 := ⟨by decide +kernel, rfl⟩
theorem e_X2_addClause_46 : g_dc cX2_addClause 46 (.putfield 31) 3 49 := ⟨by decide +kernel, rfl⟩
theorem e_X2_addClause_49 : g_dc cX2_addClause 49 (.return_) 1 50 := ⟨by decide +kernel, rfl⟩
def md_X2_addClause_25 : List Nat := [406]
def mr_X2_addClause_25 : List Nat := [28, 29, 30]
set_option maxHeartbeats 4000000 in
set_option maxRecDepth 100000 in
theorem w_X2_addClause_25 (l : Launch) (X : gX) (ad : Nat → Nat) (F : Nat → Int32) (R : Nat → Nat → Int32) (hI : g_ok LK_wX F) (hA : g_okR LA_wX R) (a0 : Int32) (a1 : Int32) (a2 : Int32) : g_Cv l X yX2_addClause cX2_addClause 4 1 0 0 [.ref (ad 25), .int a0, .int a1, .int a2] (wX X ad F R) (fun w => ∃ (F' : Nat → Int32) (R' : Nat → Nat → Int32), w = wX X ad F' R' ∧ g_ok LK_wX F' ∧ g_okR LA_wX R' ∧ g_fr md_X2_addClause_25 F F' ∧ g_fr mr_X2_addClause_25 R R') := by
  refine g_mv (by decide +kernel) (Nat.le_of_ble_eq_true rfl) (fun E cx hret => ?_)
  refine g_aload_n cx 0 rfl e_X2_addClause_0 ?_
  refine g_get cx cl_X2 fl_X2_31 25 (.int (F 406)) e_X2_addClause_1 rfl rfl ?_
  refine g_bipush cx 14 (by decide) e_X2_addClause_4 ?_
  have J49 : ∀ (F1 : Nat → Int32) (R2 : Nat → Nat → Int32), (g_ok LK_wX F1) → (g_fr md_X2_addClause_25 F F1) → (g_okR LA_wX R2) → (g_fr mr_X2_addClause_25 R R2) → G X E 4 0 0 (wX X ad F1 R2) [] 49 [] := by
    intro F1 R2 oF1 fF1 oR2 fR2
    exact hret e_X2_addClause_49 (Nat.le_of_ble_eq_true rfl) (Nat.le_of_ble_eq_true rfl) ⟨F1, R2, rfl, oF1, oR2, fF1, fR2⟩
  refine g_icmp_ge cx 49 e_X2_addClause_6 (by decide) (fun zc3 => ?_) (fun zc3 => ?_)
  · have p4 := gn_ge 14 14 (gc_le zc3) (g_ok_g hI 8 rfl) (jv_k (x := 14) 14 (by decide)) (by decide)
    refine g_lsub [] [] rfl ?_
    exact J49 F R hI (g_fr_rf F) hA (g_fr_rf R)
  · have p5 := gn_lt 0 13 (gc_nle zc3) (g_ok_g hI 8 rfl) (jv_k (x := 14) 14 (by decide)) (by decide)
    refine g_aload_n cx 0 rfl e_X2_addClause_9 ?_
    refine g_get cx cl_X2 fl_X2_22 25 (.ref (ad 28)) e_X2_addClause_10 rfl rfl ?_
    refine g_aload_n cx 0 rfl e_X2_addClause_13 ?_
    refine g_get cx cl_X2 fl_X2_31 25 (.int (F 406)) e_X2_addClause_14 rfl rfl ?_
    refine g_iload_n cx 1 rfl e_X2_addClause_17 ?_
    refine g_iast cx 28 (wX X ad F (g_u R 28 (upd (R 28) (Int32.toNatClampNeg (F 406)) a0))) e_X2_addClause_18 rfl (jv_ix 14 p5 (by decide)) rfl ?_
    obtain ⟨R6, hR6⟩ : ∃ z, z = g_u R 28 (upd (R 28) (Int32.toNatClampNeg (F 406)) a0) := ⟨_, rfl⟩
    rw [← hR6]
    have oR6 : g_okR LA_wX R6 := by rw [hR6]; exact g_okR_u hA rfl
    have fR6 : g_fr mr_X2_addClause_25 R R6 := by rw [hR6]; exact g_fr_r (g_fr_rf R) rfl
    refine g_aload_n cx 0 rfl e_X2_addClause_19 ?_
    refine g_get cx cl_X2 fl_X2_25 25 (.ref (ad 29)) e_X2_addClause_20 rfl rfl ?_
    refine g_aload_n cx 0 rfl e_X2_addClause_23 ?_
    refine g_get cx cl_X2 fl_X2_31 25 (.int (F 406)) e_X2_addClause_24 rfl rfl ?_
    refine g_iload_n cx 2 rfl e_X2_addClause_27 ?_
    refine g_iast cx 29 (wX X ad F (g_u R6 29 (upd (R6 29) (Int32.toNatClampNeg (F 406)) a1))) e_X2_addClause_28 rfl (jv_ix 14 p5 (by decide)) rfl ?_
    obtain ⟨R7, hR7⟩ : ∃ z, z = g_u R6 29 (upd (R6 29) (Int32.toNatClampNeg (F 406)) a1) := ⟨_, rfl⟩
    rw [← hR7]
    have oR7 : g_okR LA_wX R7 := by rw [hR7]; exact g_okR_u oR6 rfl
    have fR7 : g_fr mr_X2_addClause_25 R R7 := by rw [hR7]; exact g_fr_r fR6 rfl
    refine g_aload_n cx 0 rfl e_X2_addClause_29 ?_
    refine g_get cx cl_X2 fl_X2_28 25 (.ref (ad 30)) e_X2_addClause_30 rfl rfl ?_
    refine g_aload_n cx 0 rfl e_X2_addClause_33 ?_
    refine g_get cx cl_X2 fl_X2_31 25 (.int (F 406)) e_X2_addClause_34 rfl rfl ?_
    refine g_iload_n cx 3 rfl e_X2_addClause_37 ?_
    refine g_iast cx 30 (wX X ad F (g_u R7 30 (upd (R7 30) (Int32.toNatClampNeg (F 406)) a2))) e_X2_addClause_38 rfl (jv_ix 14 p5 (by decide)) rfl ?_
    obtain ⟨R8, hR8⟩ : ∃ z, z = g_u R7 30 (upd (R7 30) (Int32.toNatClampNeg (F 406)) a2) := ⟨_, rfl⟩
    rw [← hR8]
    have oR8 : g_okR LA_wX R8 := by rw [hR8]; exact g_okR_u oR7 rfl
    have fR8 : g_fr mr_X2_addClause_25 R R8 := by rw [hR8]; exact g_fr_r fR7 rfl
    refine g_aload_n cx 0 rfl e_X2_addClause_39 ?_
    refine g_dup cx rfl e_X2_addClause_40 ?_
    refine g_get cx cl_X2 fl_X2_31 25 (.int (F 406)) e_X2_addClause_41 rfl rfl ?_
    refine g_iconst cx 1 (by decide) e_X2_addClause_44 ?_
    refine g_iadd cx e_X2_addClause_45 ?_
    refine g_topi (fun x9 ex9 => ?_)
    have zx9 := jv_add 1 14 ex9 p5 (jv_k (x := 1) 1 (by decide)) (by decide)
    refine g_put cx cl_X2 fl_X2_31 25 (wX X ad (upd F 406 x9) R8) e_X2_addClause_46 rfl rfl rfl rfl (Nat.le_of_ble_eq_true rfl) rfl ?_
    obtain ⟨F10, hF10⟩ : ∃ z, z = upd F 406 x9 := ⟨_, rfl⟩
    rw [← hF10]
    have oF10 : g_ok LK_wX F10 := by rw [hF10]; exact g_ok_p hI zx9.2 rfl
    have fF10 : g_fr md_X2_addClause_25 F F10 := by rw [hF10]; exact g_fr_u (g_fr_rf F) rfl
    refine g_lsub [] [] rfl ?_
    exact J49 F10 R8 oF10 fF10 oR8 fR8
theorem e_X3_clause_0 : g_dc cX3_clause 0 (.aload_n 0) 1 1 := ⟨by decide +kernel, rfl⟩
theorem e_X3_clause_1 : g_dc cX3_clause 1 (.invokevirtual 42) 3 4 := ⟨by decide +kernel, rfl⟩
theorem e_X3_clause_4 : g_dc cX3_clause 4 (.iconst (-1)) 1 5 := ⟨by decide +kernel, rfl⟩
theorem e_X3_clause_5 : g_dc cX3_clause 5 (.if_icmp .ne 7) 3 8 := ⟨by decide +kernel, rfl⟩
theorem e_X3_clause_8 : g_dc cX3_clause 8 (.iconst (-1)) 1 9 := ⟨by decide +kernel, rfl⟩
theorem e_X3_clause_9 : g_dc cX3_clause 9 (.goto 13) 3 12 := ⟨by decide +kernel, rfl⟩
theorem e_X3_clause_12 : g_dc cX3_clause 12 (.ldc 50) 2 14 := ⟨by decide +kernel, rfl⟩
theorem e_X3_clause_14 : g_dc cX3_clause 14 (.aload_n 0) 1 15 := ⟨by decide +kernel, rfl⟩
theorem e_X3_clause_15 : g_dc cX3_clause 15 (.invokevirtual 42) 3 18 := ⟨by decide +kernel, rfl⟩
theorem e_X3_clause_18 : g_dc cX3_clause 18 (.i2c) 1 19 := ⟨by decide +kernel, rfl⟩
theorem e_X3_clause_19 : g_dc cX3_clause 19 (.invokevirtual 52) 3 22 := ⟨by decide +kernel, rfl⟩
theorem e_X3_clause_22 : g_dc cX3_clause 22 (.istore_n 1) 1 23 := ⟨by decide +kernel, rfl⟩
theorem e_X3_clause_23 : g_dc cX3_clause 23 (.iload_n 1) 1 24 := ⟨by decide +kernel, rfl⟩
theorem e_X3_clause_24 : g_dc cX3_clause 24 (.ifCond .ge 9) 3 27 := ⟨by decide +kernel, rfl⟩
theorem e_X3_clause_27 : g_dc cX3_clause 27 (.aload_n 0) 1 28 := ⟨by decide +kernel, rfl⟩
theorem e_X3_clause_28 : g_dc cX3_clause 28 (.iconst 1) 1 29 := ⟨by decide +kernel, rfl⟩
theorem e_X3_clause_29 : g_dc cX3_clause 29 (.invokevirtual 46) 3 32 := ⟨by decide +kernel, rfl⟩
theorem e_X3_clause_32 : g_dc cX3_clause 32 (.return_) 1 33 := ⟨by decide +kernel, rfl⟩
theorem e_X3_clause_33 : g_dc cX3_clause 33 (.aload_n 0) 1 34 := ⟨by decide +kernel, rfl⟩
theorem e_X3_clause_34 : g_dc cX3_clause 34 (.getfield 25) 3 37 := ⟨by decide +kernel, rfl⟩
theorem e_X3_clause_37 : g_dc cX3_clause 37 (.getfield 57) 3 40 := ⟨by decide +kernel, rfl⟩
theorem e_X3_clause_40 : g_dc cX3_clause 40 (.bipush 14) 2 42 := ⟨by decide +kernel, rfl⟩
theorem e_X3_clause_42 : g_dc cX3_clause 42 (.if_icmp .lt 9) 3 45 := ⟨by decide +kernel, rfl⟩
theorem e_X3_clause_45 : g_dc cX3_clause 45 (.aload_n 0) 1 46 := ⟨by decide +kernel, rfl⟩
theorem e_X3_clause_46 : g_dc cX3_clause 46 (.iconst 4) 1 47 := ⟨by decide +kernel, rfl⟩
theorem e_X3_clause_47 : g_dc cX3_clause 47 (.invokevirtual 46) 3 50 := ⟨by decide +kernel, rfl⟩
theorem e_X3_clause_50 : g_dc cX3_clause 50 (.return_) 1 51 := ⟨by decide +kernel, rfl⟩
theorem e_X3_clause_51 : g_dc cX3_clause 51 (.aload_n 0) 1 52 := ⟨by decide +kernel, rfl⟩
theorem e_X3_clause_52 : g_dc cX3_clause 52 (.dup) 1 53 := ⟨by decide +kernel, rfl⟩
theorem e_X3_clause_53 : g_dc cX3_clause 53 (.getfield 19) 3 56 := ⟨by decide +kernel, rfl⟩
theorem e_X3_clause_56 : g_dc cX3_clause 56 (.iconst 1) 1 57 := ⟨by decide +kernel, rfl⟩
theorem e_X3_clause_57 : g_dc cX3_clause 57 (.iadd) 1 58 := ⟨by decide +kernel, rfl⟩
theorem e_X3_clause_58 : g_dc cX3_clause 58 (.putfield 19) 3 61 := ⟨by decide +kernel, rfl⟩
theorem e_X3_clause_61 : g_dc cX3_clause 61 (.aload_n 0) 1 62 := ⟨by decide +kernel, rfl⟩
theorem e_X3_clause_62 : g_dc cX3_clause 62 (.getfield 25) 3 65 := ⟨by decide +kernel, rfl⟩
theorem e_X3_clause_65 : g_dc cX3_clause 65 (.getfield 60) 3 68 := ⟨by decide +kernel, rfl⟩
theorem e_X3_clause_68 : g_dc cX3_clause 68 (.istore_n 2) 1 69 := ⟨by decide +kernel, rfl⟩
theorem e_X3_clause_69 : g_dc cX3_clause 69 (.aload_n 0) 1 70 := ⟨by decide +kernel, rfl⟩
theorem e_X3_clause_70 : g_dc cX3_clause 70 (.iconst 0) 1 71 := ⟨by decide +kernel, rfl⟩
theorem e_X3_clause_71 : g_dc cX3_clause 71 (.invokevirtual 63) 3 74 := ⟨by decide +kernel, rfl⟩
theorem e_X3_clause_74 : g_dc cX3_clause 74 (.aload_n 0) 1 75 := ⟨by decide +kernel, rfl⟩
theorem e_X3_clause_75 : g_dc cX3_clause 75 (.getfield 25) 3 78 := ⟨by decide +kernel, rfl⟩
theorem e_X3_clause_78 : g_dc cX3_clause 78 (.iconst 0) 1 79 := ⟨by decide +kernel, rfl⟩
theorem e_X3_clause_79 : g_dc cX3_clause 79 (.iconst 0) 1 80 := ⟨by decide +kernel, rfl⟩
theorem e_X3_clause_80 : g_dc cX3_clause 80 (.invokevirtual 66) 3 83 := ⟨by decide +kernel, rfl⟩
theorem e_X3_clause_83 : g_dc cX3_clause 83 (.pop) 1 84 := ⟨by decide +kernel, rfl⟩
theorem e_X3_clause_84 : g_dc cX3_clause 84 (.aload_n 0) 1 85 := ⟨by decide +kernel, rfl⟩
theorem e_X3_clause_85 : g_dc cX3_clause 85 (.getfield 25) 3 88 := ⟨by decide +kernel, rfl⟩
theorem e_X3_clause_88 : g_dc cX3_clause 88 (.getfield 60) 3 91 := ⟨by decide +kernel, rfl⟩
theorem e_X3_clause_91 : g_dc cX3_clause 91 (.istore_n 3) 1 92 := ⟨by decide +kernel, rfl⟩
theorem e_X3_clause_92 : g_dc cX3_clause 92 (.aload_n 0) 1 93 := ⟨by decide +kernel, rfl⟩
theorem e_X3_clause_93 : g_dc cX3_clause 93 (.bipush 40) 2 95 := ⟨by decide +kernel, rfl⟩
theorem e_X3_clause_95 : g_dc cX3_clause 95 (.invokevirtual 70) 3 98 := ⟨by decide +kernel, rfl⟩
theorem e_X3_clause_98 : g_dc cX3_clause 98 (.aload_n 0) 1 99 := ⟨by decide +kernel, rfl⟩
theorem e_X3_clause_99 : g_dc cX3_clause 99 (.iconst 1) 1 100 := ⟨by decide +kernel, rfl⟩
theorem e_X3_clause_100 : g_dc cX3_clause 100 (.invokevirtual 73) 3 103 := ⟨by decide +kernel, rfl⟩
theorem e_X3_clause_103 : g_dc cX3_clause 103 (.aload_n 0) 1 104 := ⟨by decide +kernel, rfl⟩
theorem e_X3_clause_104 : g_dc cX3_clause 104 (.bipush 41) 2 106 := ⟨by decide +kernel, rfl⟩
theorem e_X3_clause_106 : g_dc cX3_clause 106 (.invokevirtual 70) 3 109 := ⟨by decide +kernel, rfl⟩
theorem e_X3_clause_109 : g_dc cX3_clause 109 (.aload_n 0) 1 110 := ⟨by decide +kernel, rfl⟩
theorem e_X3_clause_110 : g_dc cX3_clause 110 (.getfield 25) 3 113 := ⟨by decide +kernel, rfl⟩
theorem e_X3_clause_113 : g_dc cX3_clause 113 (.iconst 0) 1 114 := ⟨by decide +kernel, rfl⟩
theorem e_X3_clause_114 : g_dc cX3_clause 114 (.iconst 0) 1 115 := ⟨by decide +kernel, rfl⟩
theorem e_X3_clause_115 : g_dc cX3_clause 115 (.invokevirtual 66) 3 118 := ⟨by decide +kernel, rfl⟩
theorem e_X3_clause_118 : g_dc cX3_clause 118 (.pop) 1 119 := ⟨by decide +kernel, rfl⟩
theorem e_X3_clause_119 : g_dc cX3_clause 119 (.aload_n 0) 1 120 := ⟨by decide +kernel, rfl⟩
theorem e_X3_clause_120 : g_dc cX3_clause 120 (.getfield 25) 3 123 := ⟨by decide +kernel, rfl⟩
theorem e_X3_clause_123 : g_dc cX3_clause 123 (.iload_n 1) 1 124 := ⟨by decide +kernel, rfl⟩
theorem e_X3_clause_124 : g_dc cX3_clause 124 (.iload_n 2) 1 125 := ⟨by decide +kernel, rfl⟩
theorem e_X3_clause_125 : g_dc cX3_clause 125 (.iload_n 3) 1 126 := ⟨by decide +kernel, rfl⟩
theorem e_X3_clause_126 : g_dc cX3_clause 126 (.invokevirtual 76) 3 129 := ⟨by decide +kernel, rfl⟩
theorem e_X3_clause_129 : g_dc cX3_clause 129 (.return_) 1 130 := ⟨by decide +kernel, rfl⟩
def md_X3_clause : List Nat := [402, 406, 531, 532]
def mr_X3_clause : List Nat := [26, 27, 28, 29, 30]
set_option maxHeartbeats 4000000 in
set_option maxRecDepth 100000 in
theorem w_X3_clause (l : Launch) (X : gX) (ad : Nat → Nat) (F : Nat → Int32) (R : Nat → Nat → Int32) (hI : g_ok LK_wX F) (hA : g_okR LA_wX R) : g_Cv l X yX3_clause cX3_clause 4 27 0 0 [.ref (ad 33)] (wX X ad F R) (fun w => ∃ (F' : Nat → Int32) (R' : Nat → Nat → Int32), w = wX X ad F' R' ∧ g_ok LK_wX F' ∧ g_okR LA_wX R' ∧ g_fr md_X3_clause F F' ∧ g_fr mr_X3_clause R R') := by
  refine g_mv (by decide +kernel) (Nat.le_of_ble_eq_true rfl) (fun E cx hret => ?_)
  refine g_aload_n cx 0 rfl e_X3_clause_0 ?_
  refine g_cViW cx [] [] (w_X3_sign l X ad F R hI hA) ml_X3_42 yV_X3_sign e_X3_clause_1 (by unfold g_rr; decide) (by decide) 33 rfl rfl rfl (Nat.le_of_ble_eq_true rfl) (fun r1 w2 h3 => ?_)
  obtain ⟨rfl, pr1⟩ := h3
  refine g_iconst cx (-1) (by decide) e_X3_clause_4 ?_
  have J22 : ∀ (y4 : Int32), (jv (-1) 5 y4) → G X E 4 0 0 (wX X ad F R) [(0, .ref (ad 33))] 22 [.int y4] := by
    intro y4 py4
    refine g_istore_n cx [(1, .int y4), (0, .ref (ad 33))] e_X3_clause_22 (by decide) rfl ?_
    refine g_iload_n cx 0 rfl e_X3_clause_23 ?_
    refine g_if_ge cx 33 e_X3_clause_24 (by decide) (fun zc5 => ?_) (fun zc5 => ?_)
    · have p6 := gn_ge 0 5 (gc_le zc5) py4 (jv_k (x := 0) 0 (by decide)) (by decide)
      refine g_aload_n cx 1 rfl e_X3_clause_33 ?_
      refine g_get cx cl_X3 fl_X3_25 33 (.ref (ad 25)) e_X3_clause_34 rfl rfl ?_
      refine g_getN cx cl_X2 fn_X3_57 25 (.int (F 406)) e_X3_clause_37 rfl rfl ?_
      refine g_bipush cx 14 (by decide) e_X3_clause_40 ?_
      refine g_icmp_lt cx 51 e_X3_clause_42 (by decide) (fun zc7 => ?_) (fun zc7 => ?_)
      · have p8 := gn_lt 0 13 (gc_lt zc7) (g_ok_g hI 8 rfl) (jv_k (x := 14) 14 (by decide)) (by decide)
        refine g_aload_n cx 1 rfl e_X3_clause_51 ?_
        refine g_dup cx rfl e_X3_clause_52 ?_
        refine g_get cx cl_X3 fl_X3_19 33 (.int (F 531)) e_X3_clause_53 rfl rfl ?_
        refine g_iconst cx 1 (by decide) e_X3_clause_56 ?_
        refine g_iadd cx e_X3_clause_57 ?_
        refine g_topi (fun x9 ex9 => ?_)
        refine g_put cx cl_X3 fl_X3_19 33 (wX X ad (upd F 531 x9) R) e_X3_clause_58 rfl rfl rfl rfl (Nat.le_of_ble_eq_true rfl) rfl ?_
        obtain ⟨F10, hF10⟩ : ∃ z, z = upd F 531 x9 := ⟨_, rfl⟩
        rw [← hF10]
        have oF10 : g_ok LK_wX F10 := by rw [hF10]; exact g_ok_u hI rfl
        have fF10 : g_fr md_X3_clause F F10 := by rw [hF10]; exact g_fr_u (g_fr_rf F) rfl
        refine g_aload_n cx 1 rfl e_X3_clause_61 ?_
        refine g_get cx cl_X3 fl_X3_25 33 (.ref (ad 25)) e_X3_clause_62 rfl rfl ?_
        refine g_getN cx cl_X2 fn_X3_60 25 (.int (F10 402)) e_X3_clause_65 rfl rfl ?_
        refine g_toi (F 402) (g_pu2 hF10 rfl) ?_
        refine g_istore_n cx [(2, .int (F 402)), (1, .int y4), (0, .ref (ad 33))] e_X3_clause_68 (by decide) rfl ?_
        refine g_aload_n cx 2 rfl e_X3_clause_69 ?_
        refine g_iconst cx 0 (by decide) e_X3_clause_70 ?_
        refine g_cVvW cx [.int 0] [] (w_X3_sum_c0 l X ad F10 R oF10 hA) ml_X3_63 yV_X3_sum e_X3_clause_71 (by unfold g_rr; decide) (by decide) 33 rfl rfl rfl (Nat.le_of_ble_eq_true rfl) (fun w12 h13 => ?_)
        obtain ⟨F14, R15, rfl, oF14, oR15, cF14, cR15⟩ := h13
        have fF14 : g_fr md_X3_clause F F14 := g_fr_c fF10 cF14 rfl
        have fR15 : g_fr mr_X3_clause R R15 := g_fr_c (g_fr_rf R) cR15 rfl
        refine g_aload_n cx 2 rfl e_X3_clause_74 ?_
        refine g_get cx cl_X3 fl_X3_25 33 (.ref (ad 25)) e_X3_clause_75 rfl rfl ?_
        refine g_iconst cx 0 (by decide) e_X3_clause_78 ?_
        refine g_iconst cx 0 (by decide) e_X3_clause_79 ?_
        refine g_cViW cx [.int 0, .int 0] [] (w_X2_emit_25 l X ad F14 R15 oF14 oR15 0 0) ml_X3_66 yV_X2_emit e_X3_clause_80 (by unfold g_rr; decide) (by decide) 25 rfl rfl rfl (Nat.le_of_ble_eq_true rfl) (fun r16 w17 h18 => ?_)
        obtain ⟨F19, R20, rfl, oF19, oR20, cF19, cR20, pr16⟩ := h18
        have fF19 : g_fr md_X3_clause F F19 := g_fr_c fF14 cF19 rfl
        have fR20 : g_fr mr_X3_clause R R20 := g_fr_c fR15 cR20 rfl
        refine g_pop cx rfl e_X3_clause_83 ?_
        refine g_aload_n cx 2 rfl e_X3_clause_84 ?_
        refine g_get cx cl_X3 fl_X3_25 33 (.ref (ad 25)) e_X3_clause_85 rfl rfl ?_
        refine g_getN cx cl_X2 fn_X3_60 25 (.int (F19 402)) e_X3_clause_88 rfl rfl ?_
        refine g_istore_n cx [(3, .int (F19 402)), (2, .int (F 402)), (1, .int y4), (0, .ref (ad 33))] e_X3_clause_91 (by decide) rfl ?_
        refine g_aload_n cx 3 rfl e_X3_clause_92 ?_
        refine g_bipush cx 40 (by decide) e_X3_clause_93 ?_
        refine g_cVvW cx [.int 40] [] (w_X3_pass l X ad F19 R20 oF19 oR20 40) ml_X3_70 yV_X3_pass e_X3_clause_95 (by unfold g_rr; decide) (by decide) 33 rfl rfl rfl (Nat.le_of_ble_eq_true rfl) (fun w22 h23 => ?_)
        obtain ⟨F24, R25, rfl, oF24, oR25, cF24, cR25⟩ := h23
        have fF24 : g_fr md_X3_clause F F24 := g_fr_c fF19 cF24 rfl
        have fR25 : g_fr mr_X3_clause R R25 := g_fr_c fR20 cR25 rfl
        refine g_aload_n cx 3 rfl e_X3_clause_98 ?_
        refine g_iconst cx 1 (by decide) e_X3_clause_99 ?_
        refine g_cVvW cx [.int 1] [] (w_X3_parts_c1 l X ad F24 R25 oF24 oR25) ml_X3_73 yV_X3_parts e_X3_clause_100 (by unfold g_rr; decide) (by decide) 33 rfl rfl rfl (Nat.le_of_ble_eq_true rfl) (fun w27 h28 => ?_)
        obtain ⟨F29, R30, rfl, oF29, oR30, cF29, cR30⟩ := h28
        have fF29 : g_fr md_X3_clause F F29 := g_fr_c fF24 cF29 rfl
        have fR30 : g_fr mr_X3_clause R R30 := g_fr_c fR25 cR30 rfl
        refine g_aload_n cx 3 rfl e_X3_clause_103 ?_
        refine g_bipush cx 41 (by decide) e_X3_clause_104 ?_
        refine g_cVvW cx [.int 41] [] (w_X3_pass l X ad F29 R30 oF29 oR30 41) ml_X3_70 yV_X3_pass e_X3_clause_106 (by unfold g_rr; decide) (by decide) 33 rfl rfl rfl (Nat.le_of_ble_eq_true rfl) (fun w32 h33 => ?_)
        obtain ⟨F34, R35, rfl, oF34, oR35, cF34, cR35⟩ := h33
        have fF34 : g_fr md_X3_clause F F34 := g_fr_c fF29 cF34 rfl
        have fR35 : g_fr mr_X3_clause R R35 := g_fr_c fR30 cR35 rfl
        refine g_aload_n cx 3 rfl e_X3_clause_109 ?_
        refine g_get cx cl_X3 fl_X3_25 33 (.ref (ad 25)) e_X3_clause_110 rfl rfl ?_
        refine g_iconst cx 0 (by decide) e_X3_clause_113 ?_
        refine g_iconst cx 0 (by decide) e_X3_clause_114 ?_
        refine g_cViW cx [.int 0, .int 0] [] (w_X2_emit_25 l X ad F34 R35 oF34 oR35 0 0) ml_X3_66 yV_X2_emit e_X3_clause_115 (by unfold g_rr; decide) (by decide) 25 rfl rfl rfl (Nat.le_of_ble_eq_true rfl) (fun r36 w37 h38 => ?_)
        obtain ⟨F39, R40, rfl, oF39, oR40, cF39, cR40, pr36⟩ := h38
        have fF39 : g_fr md_X3_clause F F39 := g_fr_c fF34 cF39 rfl
        have fR40 : g_fr mr_X3_clause R R40 := g_fr_c fR35 cR40 rfl
        refine g_pop cx rfl e_X3_clause_118 ?_
        refine g_aload_n cx 3 rfl e_X3_clause_119 ?_
        refine g_get cx cl_X3 fl_X3_25 33 (.ref (ad 25)) e_X3_clause_120 rfl rfl ?_
        refine g_iload_n cx 2 rfl e_X3_clause_123 ?_
        refine g_iload_n cx 1 rfl e_X3_clause_124 ?_
        refine g_iload_n cx 0 rfl e_X3_clause_125 ?_
        refine g_cVvW cx [.int y4, .int (F 402), .int (F19 402)] [] (w_X2_addClause_25 l X ad F39 R40 oF39 oR40 y4 (F 402) (F19 402)) ml_X3_76 yV_X2_addClause e_X3_clause_126 (by unfold g_rr; decide) (by decide) 25 rfl rfl rfl (Nat.le_of_ble_eq_true rfl) (fun w42 h43 => ?_)
        obtain ⟨F44, R45, rfl, oF44, oR45, cF44, cR45⟩ := h43
        have fF44 : g_fr md_X3_clause F F44 := g_fr_c fF39 cF44 rfl
        have fR45 : g_fr mr_X3_clause R R45 := g_fr_c fR40 cR45 rfl
        exact hret e_X3_clause_129 (Nat.le_of_ble_eq_true rfl) (Nat.le_of_ble_eq_true rfl) ⟨F44, R45, rfl, oF44, oR45, fF44, fR45⟩
      · have p46 := gn_ge 14 14 (gc_nlt zc7) (g_ok_g hI 8 rfl) (jv_k (x := 14) 14 (by decide)) (by decide)
        refine g_aload_n cx 1 rfl e_X3_clause_45 ?_
        refine g_iconst cx 4 (by decide) e_X3_clause_46 ?_
        refine g_cVvW cx [.int 4] [] (w_X3_fail l X ad F R hI hA 4) ml_X3_46 yV_X3_fail e_X3_clause_47 (by unfold g_rr; decide) (by decide) 33 rfl rfl rfl (Nat.le_of_ble_eq_true rfl) (fun w48 h49 => ?_)
        obtain ⟨F50, R51, rfl, oF50, oR51, cF50, cR51⟩ := h49
        have fF50 : g_fr md_X3_clause F F50 := g_fr_c (g_fr_rf F) cF50 rfl
        have fR51 : g_fr mr_X3_clause R R51 := g_fr_c (g_fr_rf R) cR51 rfl
        exact hret e_X3_clause_50 (Nat.le_of_ble_eq_true rfl) (Nat.le_of_ble_eq_true rfl) ⟨F50, R51, rfl, oF50, oR51, fF50, fR51⟩
    · have p52 := gn_lt (-1) (-1) (gc_nle zc5) py4 (jv_k (x := 0) 0 (by decide)) (by decide)
      refine g_aload_n cx 1 rfl e_X3_clause_27 ?_
      refine g_iconst cx 1 (by decide) e_X3_clause_28 ?_
      refine g_cVvW cx [.int 1] [] (w_X3_fail l X ad F R hI hA 1) ml_X3_46 yV_X3_fail e_X3_clause_29 (by unfold g_rr; decide) (by decide) 33 rfl rfl rfl (Nat.le_of_ble_eq_true rfl) (fun w54 h55 => ?_)
      obtain ⟨F56, R57, rfl, oF56, oR57, cF56, cR57⟩ := h55
      have fF56 : g_fr md_X3_clause F F56 := g_fr_c (g_fr_rf F) cF56 rfl
      have fR57 : g_fr mr_X3_clause R R57 := g_fr_c (g_fr_rf R) cR57 rfl
      exact hret e_X3_clause_32 (Nat.le_of_ble_eq_true rfl) (Nat.le_of_ble_eq_true rfl) ⟨F56, R57, rfl, oF56, oR57, fF56, fR57⟩
  refine g_icmp_ne cx 12 e_X3_clause_5 (by decide) (fun zc58 => ?_) (fun zc58 => ?_)
  · refine g_ldcS0 cx rfl e_X3_clause_12 ?_
    refine g_aload_n cx 0 rfl e_X3_clause_14 ?_
    refine g_cViW cx [] [.ref (X.1.2.2.2.1 0)] (w_X3_sign l X ad F R hI hA) ml_X3_42 yV_X3_sign e_X3_clause_15 (by unfold g_rr; decide) (by decide) 33 rfl rfl rfl (Nat.le_of_ble_eq_true rfl) (fun r59 w60 h61 => ?_)
    obtain ⟨rfl, pr59⟩ := h61
    refine g_i2c cx e_X3_clause_18 ?_
    refine g_topi (fun x62 ex62 => ?_)
    refine g_cVsW cx [.int x62] [] 0 (by decide) rfl (w_J0_indexOf_0f7a4_s0 l X (wX X ad F R) x62) ml_X3_52 yV_J0_indexOf_0f7a4 e_X3_clause_19 (by unfold g_rr; decide) (by decide) rfl (Nat.le_of_ble_eq_true rfl) (fun r63 w64 h65 => ?_)
    obtain ⟨rfl, pr63⟩ := h65
    exact J22 r63 pr63
  · have p66 := gn_eq (-1) (-1) (gc_eq zc58) pr1 (jv_k (x := (-1)) (-1) (by decide)) (by decide)
    refine g_iconst cx (-1) (by decide) e_X3_clause_8 ?_
    refine g_goto cx 22 e_X3_clause_9 (by decide) ?_
    exact J22 (-1) (jv_w (jv_k (x := (-1)) (-1) (by decide)) (by decide))
theorem e_X3_read_0 : g_dc cX3_read 0 (.aload_n 0) 1 1 := ⟨by decide +kernel, rfl⟩
theorem e_X3_read_1 : g_dc cX3_read 1 (.iconst 0) 1 2 := ⟨by decide +kernel, rfl⟩
theorem e_X3_read_2 : g_dc cX3_read 2 (.putfield 15) 3 5 := ⟨by decide +kernel, rfl⟩
theorem e_X3_read_5 : g_dc cX3_read 5 (.iconst 0) 1 6 := ⟨by decide +kernel, rfl⟩
theorem e_X3_read_6 : g_dc cX3_read 6 (.istore_n 3) 1 7 := ⟨by decide +kernel, rfl⟩
theorem e_X3_read_7 : g_dc cX3_read 7 (.aload_n 1) 1 8 := ⟨by decide +kernel, rfl⟩
theorem e_X3_read_8 : g_dc cX3_read 8 (.ifnull 42) 3 11 := ⟨by decide +kernel, rfl⟩
theorem e_X3_read_11 : g_dc cX3_read 11 (.iload_n 3) 1 12 := ⟨by decide +kernel, rfl⟩
theorem e_X3_read_12 : g_dc cX3_read 12 (.iload_n 2) 1 13 := ⟨by decide +kernel, rfl⟩
theorem e_X3_read_13 : g_dc cX3_read 13 (.if_icmp .ge 37) 3 16 := ⟨by decide +kernel, rfl⟩
theorem e_X3_read_16 : g_dc cX3_read 16 (.iload_n 3) 1 17 := ⟨by decide +kernel, rfl⟩
theorem e_X3_read_17 : g_dc cX3_read 17 (.sipush 200) 3 20 := ⟨by decide +kernel, rfl⟩
theorem e_X3_read_20 : g_dc cX3_read 20 (.if_icmp .ge 30) 3 23 := ⟨by decide +kernel, rfl⟩
theorem e_X3_read_23 : g_dc cX3_read 23 (.aload_n 0) 1 24 := ⟨by decide +kernel, rfl⟩
theorem e_X3_read_24 : g_dc cX3_read 24 (.getfield 9) 3 27 := ⟨by decide +kernel, rfl⟩
theorem e_X3_read_27 : g_dc cX3_read 27 (.iload_n 3) 1 28 := ⟨by decide +kernel, rfl⟩
theorem e_X3_read_28 : g_dc cX3_read 28 (.aload_n 1) 1 29 := ⟨by decide +kernel, rfl⟩
theorem e_X3_read_29 : g_dc cX3_read 29 (.iload_n 3) 1 30 := ⟨by decide +kernel, rfl⟩
theorem e_X3_read_30 : g_dc cX3_read 30 (.invokevirtual 29) 3 33 := ⟨by decide +kernel, rfl⟩
theorem e_X3_read_33 : g_dc cX3_read 33 (.iastore) 1 34 := ⟨by decide +kernel, rfl⟩
theorem e_X3_read_34 : g_dc cX3_read 34 (.aload_n 0) 1 35 := ⟨by decide +kernel, rfl⟩
theorem e_X3_read_35 : g_dc cX3_read 35 (.dup) 1 36 := ⟨by decide +kernel, rfl⟩
theorem e_X3_read_36 : g_dc cX3_read 36 (.getfield 15) 3 39 := ⟨by decide +kernel, rfl⟩
theorem e_X3_read_39 : g_dc cX3_read 39 (.iconst 1) 1 40 := ⟨by decide +kernel, rfl⟩
theorem e_X3_read_40 : g_dc cX3_read 40 (.iadd) 1 41 := ⟨by decide +kernel, rfl⟩
theorem e_X3_read_41 : g_dc cX3_read 41 (.putfield 15) 3 44 := ⟨by decide +kernel, rfl⟩
theorem e_X3_read_44 : g_dc cX3_read 44 (.iinc 3 1) 3 47 := ⟨by decide +kernel, rfl⟩
theorem e_X3_read_47 : g_dc cX3_read 47 (.goto (-40)) 3 50 := ⟨by decide +kernel, rfl⟩
theorem e_X3_read_50 : g_dc cX3_read 50 (.aload_n 0) 1 51 := ⟨by decide +kernel, rfl⟩
theorem e_X3_read_51 : g_dc cX3_read 51 (.iconst 0) 1 52 := ⟨by decide +kernel, rfl⟩
theorem e_X3_read_52 : g_dc cX3_read 52 (.putfield 19) 3 55 := ⟨by decide +kernel, rfl⟩
theorem e_X3_read_55 : g_dc cX3_read 55 (.aload_n 0) 1 56 := ⟨by decide +kernel, rfl⟩
theorem e_X3_read_56 : g_dc cX3_read 56 (.iconst 0) 1 57 := ⟨by decide +kernel, rfl⟩
theorem e_X3_read_57 : g_dc cX3_read 57 (.putfield 22) 3 60 := ⟨by decide +kernel, rfl⟩
theorem e_X3_read_60 : g_dc cX3_read 60 (.aload_n 0) 1 61 := ⟨by decide +kernel, rfl⟩
theorem e_X3_read_61 : g_dc cX3_read 61 (.getfield 25) 3 64 := ⟨by decide +kernel, rfl⟩
theorem e_X3_read_64 : g_dc cX3_read 64 (.invokevirtual 34) 3 67 := ⟨by decide +kernel, rfl⟩
theorem e_X3_read_67 : g_dc cX3_read 67 (.aload_n 0) 1 68 := ⟨by decide +kernel, rfl⟩
theorem e_X3_read_68 : g_dc cX3_read 68 (.invokevirtual 39) 3 71 := ⟨by decide +kernel, rfl⟩
theorem e_X3_read_71 : g_dc cX3_read 71 (.iconst 0) 1 72 := ⟨by decide +kernel, rfl⟩
theorem e_X3_read_72 : g_dc cX3_read 72 (.istore_n 3) 1 73 := ⟨by decide +kernel, rfl⟩
theorem e_X3_read_73 : g_dc cX3_read 73 (.iload_n 3) 1 74 := ⟨by decide +kernel, rfl⟩
theorem e_X3_read_74 : g_dc cX3_read 74 (.sipush 200) 3 77 := ⟨by decide +kernel, rfl⟩
theorem e_X3_read_77 : g_dc cX3_read 77 (.if_icmp .ge 32) 3 80 := ⟨by decide +kernel, rfl⟩
theorem e_X3_read_80 : g_dc cX3_read 80 (.aload_n 0) 1 81 := ⟨by decide +kernel, rfl⟩
theorem e_X3_read_81 : g_dc cX3_read 81 (.invokevirtual 42) 3 84 := ⟨by decide +kernel, rfl⟩
theorem e_X3_read_84 : g_dc cX3_read 84 (.bipush 59) 2 86 := ⟨by decide +kernel, rfl⟩
theorem e_X3_read_86 : g_dc cX3_read 86 (.if_icmp .ne 23) 3 89 := ⟨by decide +kernel, rfl⟩
theorem e_X3_read_89 : g_dc cX3_read 89 (.aload_n 0) 1 90 := ⟨by decide +kernel, rfl⟩
theorem e_X3_read_90 : g_dc cX3_read 90 (.dup) 1 91 := ⟨by decide +kernel, rfl⟩
theorem e_X3_read_91 : g_dc cX3_read 91 (.getfield 19) 3 94 := ⟨by decide +kernel, rfl⟩
theorem e_X3_read_94 : g_dc cX3_read 94 (.iconst 1) 1 95 := ⟨by decide +kernel, rfl⟩
theorem e_X3_read_95 : g_dc cX3_read 95 (.iadd) 1 96 := ⟨by decide +kernel, rfl⟩
theorem e_X3_read_96 : g_dc cX3_read 96 (.putfield 19) 3 99 := ⟨by decide +kernel, rfl⟩
theorem e_X3_read_99 : g_dc cX3_read 99 (.aload_n 0) 1 100 := ⟨by decide +kernel, rfl⟩
theorem e_X3_read_100 : g_dc cX3_read 100 (.invokevirtual 39) 3 103 := ⟨by decide +kernel, rfl⟩
theorem e_X3_read_103 : g_dc cX3_read 103 (.iinc 3 1) 3 106 := ⟨by decide +kernel, rfl⟩
theorem e_X3_read_106 : g_dc cX3_read 106 (.goto (-33)) 3 109 := ⟨by decide +kernel, rfl⟩
theorem e_X3_read_109 : g_dc cX3_read 109 (.aload_n 0) 1 110 := ⟨by decide +kernel, rfl⟩
theorem e_X3_read_110 : g_dc cX3_read 110 (.getfield 22) 3 113 := ⟨by decide +kernel, rfl⟩
theorem e_X3_read_113 : g_dc cX3_read 113 (.ifCond .ne 19) 3 116 := ⟨by decide +kernel, rfl⟩
theorem e_X3_read_116 : g_dc cX3_read 116 (.aload_n 0) 1 117 := ⟨by decide +kernel, rfl⟩
theorem e_X3_read_117 : g_dc cX3_read 117 (.getfield 19) 3 120 := ⟨by decide +kernel, rfl⟩
theorem e_X3_read_120 : g_dc cX3_read 120 (.aload_n 0) 1 121 := ⟨by decide +kernel, rfl⟩
theorem e_X3_read_121 : g_dc cX3_read 121 (.getfield 15) 3 124 := ⟨by decide +kernel, rfl⟩
theorem e_X3_read_124 : g_dc cX3_read 124 (.if_icmp .ge 8) 3 127 := ⟨by decide +kernel, rfl⟩
theorem e_X3_read_127 : g_dc cX3_read 127 (.aload_n 0) 1 128 := ⟨by decide +kernel, rfl⟩
theorem e_X3_read_128 : g_dc cX3_read 128 (.iconst 1) 1 129 := ⟨by decide +kernel, rfl⟩
theorem e_X3_read_129 : g_dc cX3_read 129 (.invokevirtual 46) 3 132 := ⟨by decide +kernel, rfl⟩
theorem e_X3_read_132 : g_dc cX3_read 132 (.aload_n 0) 1 133 := ⟨by decide +kernel, rfl⟩
theorem e_X3_read_133 : g_dc cX3_read 133 (.getfield 22) 3 136 := ⟨by decide +kernel, rfl⟩
theorem e_X3_read_136 : g_dc cX3_read 136 (.ireturn) 1 137 := ⟨by decide +kernel, rfl⟩
def md_X3_read : List Nat := [402, 406, 530, 531, 532]
def mr_X3_read : List Nat := [26, 27, 28, 29, 30, 34]
set_option maxHeartbeats 4000000 in
set_option maxRecDepth 100000 in
theorem w_X3_read (l : Launch) (X : gX) (ad : Nat → Nat) (F : Nat → Int32) (R : Nat → Nat → Int32) (hI : g_ok LK_wX F) (hA : g_okR LA_wX R) (a1 : Int32) : g_Ci l X yX3_read cX3_read 4 (some .int) 28 0 0 [.ref (ad 33), .ref (ad 9), .int a1] (wX X ad F R) (fun r w => ∃ (F' : Nat → Int32) (R' : Nat → Nat → Int32), w = wX X ad F' R' ∧ g_ok LK_wX F' ∧ g_okR LA_wX R' ∧ g_fr md_X3_read F F' ∧ g_fr mr_X3_read R R' ∧ jv (-2147483648) 2147483647 r) := by
  refine g_mi (by decide +kernel) (Nat.le_of_ble_eq_true rfl) (fun E cx hret => ?_)
  refine g_aload_n cx 0 rfl e_X3_read_0 ?_
  refine g_iconst cx 0 (by decide) e_X3_read_1 ?_
  refine g_put cx cl_X3 fl_X3_15 33 (wX X ad (upd F 530 0) R) e_X3_read_2 rfl rfl rfl rfl (Nat.le_of_ble_eq_true rfl) rfl ?_
  obtain ⟨F1, hF1⟩ : ∃ z, z = upd F 530 0 := ⟨_, rfl⟩
  rw [← hF1]
  have oF1 : g_ok LK_wX F1 := by rw [hF1]; exact g_ok_u hI rfl
  have fF1 : g_fr md_X3_read F F1 := by rw [hF1]; exact g_fr_u (g_fr_rf F) rfl
  refine g_iconst cx 0 (by decide) e_X3_read_5 ?_
  refine g_istore_n cx [(3, .int 0), (0, .ref (ad 33)), (1, .ref (ad 9)), (2, .int a1)] e_X3_read_6 (by decide) rfl ?_
  have J7 : ∀ (N : Nat) (F3 : Nat → Int32) (R4 : Nat → Nat → Int32) (y2 : Int32), (g_ok LK_wX F3) → (g_fr md_X3_read F F3) → (g_okR LA_wX R4) → (g_fr mr_X3_read R R4) → (jv 0 200 y2) → (2147483647 - y2.toInt).toNat < N → G X E 4 0 0 (wX X ad F3 R4) [(0, .ref (ad 33)), (1, .ref (ad 9)), (2, .int a1), (3, .int y2)] 7 [] := by
    intro N
    induction N with
    | zero => intro F3 R4 y2 oF3 fF3 oR4 fR4 py2 hm; exact absurd hm (Nat.not_lt_zero _)
    | succ N ih7 =>
      intro F3 R4 y2 oF3 fF3 oR4 fR4 py2 hm7
      refine g_aload_n cx 1 rfl e_X3_read_7 ?_
      refine g_ifnull cx e_X3_read_8 ?_
      refine g_iload_n cx 3 rfl e_X3_read_11 ?_
      refine g_iload_n cx 2 rfl e_X3_read_12 ?_
      have J50 : G X E 4 0 0 (wX X ad F3 R4) [(0, .ref (ad 33))] 50 [] := by
        refine g_aload_n cx 0 rfl e_X3_read_50 ?_
        refine g_iconst cx 0 (by decide) e_X3_read_51 ?_
        refine g_put cx cl_X3 fl_X3_19 33 (wX X ad (upd F3 531 0) R4) e_X3_read_52 rfl rfl rfl rfl (Nat.le_of_ble_eq_true rfl) rfl ?_
        obtain ⟨F5, hF5⟩ : ∃ z, z = upd F3 531 0 := ⟨_, rfl⟩
        rw [← hF5]
        have oF5 : g_ok LK_wX F5 := by rw [hF5]; exact g_ok_u oF3 rfl
        have fF5 : g_fr md_X3_read F F5 := by rw [hF5]; exact g_fr_u fF3 rfl
        refine g_aload_n cx 0 rfl e_X3_read_55 ?_
        refine g_iconst cx 0 (by decide) e_X3_read_56 ?_
        refine g_put cx cl_X3 fl_X3_22 33 (wX X ad (upd F5 532 0) R4) e_X3_read_57 rfl rfl rfl rfl (Nat.le_of_ble_eq_true rfl) rfl ?_
        obtain ⟨F6, hF6⟩ : ∃ z, z = upd F5 532 0 := ⟨_, rfl⟩
        rw [← hF6]
        have oF6 : g_ok LK_wX F6 := by rw [hF6]; exact g_ok_u oF5 rfl
        have fF6 : g_fr md_X3_read F F6 := by rw [hF6]; exact g_fr_u fF5 rfl
        refine g_aload_n cx 0 rfl e_X3_read_60 ?_
        refine g_get cx cl_X3 fl_X3_25 33 (.ref (ad 25)) e_X3_read_61 rfl rfl ?_
        refine g_cVvW cx [] [] (w_X2_clear_25 l X ad F6 R4 oF6 oR4) ml_X3_34 yV_X2_clear e_X3_read_64 (by unfold g_rr; decide) (by decide) 25 rfl rfl rfl (Nat.le_of_ble_eq_true rfl) (fun w8 h9 => ?_)
        obtain ⟨F10, R11, rfl, oF10, oR11, cF10, cR11⟩ := h9
        have fF10 : g_fr md_X3_read F F10 := g_fr_c fF6 cF10 rfl
        have fR11 : g_fr mr_X3_read R R11 := g_fr_c fR4 cR11 rfl
        refine g_aload_n cx 0 rfl e_X3_read_67 ?_
        refine g_cVvW cx [] [] (w_X3_clause l X ad F10 R11 oF10 oR11) ml_X3_39 yV_X3_clause e_X3_read_68 (by unfold g_rr; decide) (by decide) 33 rfl rfl rfl (Nat.le_of_ble_eq_true rfl) (fun w13 h14 => ?_)
        obtain ⟨F15, R16, rfl, oF15, oR16, cF15, cR16⟩ := h14
        have fF15 : g_fr md_X3_read F F15 := g_fr_c fF10 cF15 rfl
        have fR16 : g_fr mr_X3_read R R16 := g_fr_c fR11 cR16 rfl
        refine g_iconst cx 0 (by decide) e_X3_read_71 ?_
        refine g_istore_n cx [(3, .int 0), (0, .ref (ad 33))] e_X3_read_72 (by decide) rfl ?_
        have J73 : ∀ (N : Nat) (F18 : Nat → Int32) (R19 : Nat → Nat → Int32) (y17 : Int32), (g_ok LK_wX F18) → (g_fr md_X3_read F F18) → (g_okR LA_wX R19) → (g_fr mr_X3_read R R19) → (jv 0 200 y17) → (2147483647 - y17.toInt).toNat < N → G X E 4 0 0 (wX X ad F18 R19) [(0, .ref (ad 33)), (3, .int y17)] 73 [] := by
          intro N
          induction N with
          | zero => intro F18 R19 y17 oF18 fF18 oR19 fR19 py17 hm; exact absurd hm (Nat.not_lt_zero _)
          | succ N ih73 =>
            intro F18 R19 y17 oF18 fF18 oR19 fR19 py17 hm73
            refine g_iload_n cx 1 rfl e_X3_read_73 ?_
            refine g_sipush cx 200 (by decide) e_X3_read_74 ?_
            have J109 : G X E 4 0 0 (wX X ad F18 R19) [(0, .ref (ad 33))] 109 [] := by
              refine g_aload_n cx 0 rfl e_X3_read_109 ?_
              refine g_get cx cl_X3 fl_X3_22 33 (.int (F18 532)) e_X3_read_110 rfl rfl ?_
              have J132 : ∀ (F20 : Nat → Int32) (R21 : Nat → Nat → Int32), (g_ok LK_wX F20) → (g_fr md_X3_read F F20) → (g_okR LA_wX R21) → (g_fr mr_X3_read R R21) → G X E 4 0 0 (wX X ad F20 R21) [(0, .ref (ad 33))] 132 [] := by
                intro F20 R21 oF20 fF20 oR21 fR21
                refine g_aload_n cx 0 rfl e_X3_read_132 ?_
                refine g_get cx cl_X3 fl_X3_22 33 (.int (F20 532)) e_X3_read_133 rfl rfl ?_
                exact hret e_X3_read_136 (Nat.le_of_ble_eq_true rfl) (Nat.le_of_ble_eq_true rfl) rfl ⟨F20, R21, rfl, oF20, oR21, fF20, fR21, (jv_t (F20 532))⟩
              refine g_if_ne cx 132 e_X3_read_113 (by decide) (fun zc22 => ?_) (fun zc22 => ?_)
              · exact J132 F18 R19 oF18 fF18 oR19 fR19
              · have p23 := gn_eq 0 0 (gc_eq zc22) (jv_t (F18 532)) (jv_k (x := 0) 0 (by decide)) (by decide)
                refine g_aload_n cx 0 rfl e_X3_read_116 ?_
                refine g_get cx cl_X3 fl_X3_19 33 (.int (F18 531)) e_X3_read_117 rfl rfl ?_
                refine g_aload_n cx 0 rfl e_X3_read_120 ?_
                refine g_get cx cl_X3 fl_X3_15 33 (.int (F18 530)) e_X3_read_121 rfl rfl ?_
                refine g_icmp_ge cx 132 e_X3_read_124 (by decide) (fun zc24 => ?_) (fun zc24 => ?_)
                · exact J132 F18 R19 oF18 fF18 oR19 fR19
                · have p25 := gn_lt (-2147483648) 2147483646 (gc_nle zc24) (jv_t (F18 531)) (jv_t (F18 530)) (by decide)
                  have p26 := gn_gt (-2147483647) 2147483647 (gc_nle zc24) (jv_t (F18 530)) (jv_t (F18 531)) (by decide)
                  refine g_aload_n cx 0 rfl e_X3_read_127 ?_
                  refine g_iconst cx 1 (by decide) e_X3_read_128 ?_
                  refine g_cVvW cx [.int 1] [] (w_X3_fail l X ad F18 R19 oF18 oR19 1) ml_X3_46 yV_X3_fail e_X3_read_129 (by unfold g_rr; decide) (by decide) 33 rfl rfl rfl (Nat.le_of_ble_eq_true rfl) (fun w28 h29 => ?_)
                  obtain ⟨F30, R31, rfl, oF30, oR31, cF30, cR31⟩ := h29
                  have fF30 : g_fr md_X3_read F F30 := g_fr_c fF18 cF30 rfl
                  have fR31 : g_fr mr_X3_read R R31 := g_fr_c fR19 cR31 rfl
                  exact J132 F30 R31 oF30 fF30 oR31 fR31
            refine g_icmp_ge cx 109 e_X3_read_77 (by decide) (fun zc32 => ?_) (fun zc32 => ?_)
            · have p33 := gn_ge 200 200 (gc_le zc32) py17 (jv_k (x := 200) 200 (by decide)) (by decide)
              refine g_lsub [0] [(0, .ref (ad 33))] rfl ?_
              exact J109  
            · have p34 := gn_lt 0 199 (gc_nle zc32) py17 (jv_k (x := 200) 200 (by decide)) (by decide)
              refine g_aload_n cx 0 rfl e_X3_read_80 ?_
              refine g_cViW cx [] [] (w_X3_sign l X ad F18 R19 oF18 oR19) ml_X3_42 yV_X3_sign e_X3_read_81 (by unfold g_rr; decide) (by decide) 33 rfl rfl rfl (Nat.le_of_ble_eq_true rfl) (fun r35 w36 h37 => ?_)
              obtain ⟨rfl, pr35⟩ := h37
              refine g_bipush cx 59 (by decide) e_X3_read_84 ?_
              refine g_icmp_ne cx 109 e_X3_read_86 (by decide) (fun zc38 => ?_) (fun zc38 => ?_)
              · refine g_lsub [0] [(0, .ref (ad 33))] rfl ?_
                exact J109  
              · have p39 := gn_eq 59 59 (gc_eq zc38) pr35 (jv_k (x := 59) 59 (by decide)) (by decide)
                refine g_aload_n cx 0 rfl e_X3_read_89 ?_
                refine g_dup cx rfl e_X3_read_90 ?_
                refine g_get cx cl_X3 fl_X3_19 33 (.int (F18 531)) e_X3_read_91 rfl rfl ?_
                refine g_iconst cx 1 (by decide) e_X3_read_94 ?_
                refine g_iadd cx e_X3_read_95 ?_
                refine g_topi (fun x40 ex40 => ?_)
                refine g_put cx cl_X3 fl_X3_19 33 (wX X ad (upd F18 531 x40) R19) e_X3_read_96 rfl rfl rfl rfl (Nat.le_of_ble_eq_true rfl) rfl ?_
                obtain ⟨F41, hF41⟩ : ∃ z, z = upd F18 531 x40 := ⟨_, rfl⟩
                rw [← hF41]
                have oF41 : g_ok LK_wX F41 := by rw [hF41]; exact g_ok_u oF18 rfl
                have fF41 : g_fr md_X3_read F F41 := by rw [hF41]; exact g_fr_u fF18 rfl
                refine g_aload_n cx 0 rfl e_X3_read_99 ?_
                refine g_cVvW cx [] [] (w_X3_clause l X ad F41 R19 oF41 oR19) ml_X3_39 yV_X3_clause e_X3_read_100 (by unfold g_rr; decide) (by decide) 33 rfl rfl rfl (Nat.le_of_ble_eq_true rfl) (fun w43 h44 => ?_)
                obtain ⟨F45, R46, rfl, oF45, oR46, cF45, cR46⟩ := h44
                have fF45 : g_fr md_X3_read F F45 := g_fr_c fF41 cF45 rfl
                have fR46 : g_fr mr_X3_read R R46 := g_fr_c fR19 cR46 rfl
                obtain ⟨x47, ex47⟩ : ∃ z : Int32, z = y17 + Int32.ofInt 1 := ⟨_, rfl⟩
                refine g_iinc cx x47 [(3, .int x47), (0, .ref (ad 33))] 1 e_X3_read_103 rfl ex47.symm (by decide) rfl ?_
                have zx47 := jv_add 1 200 (show x47 = y17 + 1 from ex47) p34 (jv_k (x := 1) 1 (by decide)) (by decide)
                refine g_goto cx 73 e_X3_read_106 (by decide) ?_
                refine g_lsub [1, 0] [(0, .ref (ad 33)), (3, .int x47)] rfl ?_
                exact ih73 F45 R46 x47 oF45 fF45 oR46 fR46 (jv_w zx47.2 (by decide)) (Nat.lt_of_lt_of_le (show (2147483647 - x47.toInt).toNat < (2147483647 - y17.toInt).toNat from by have q0 := (jv_k (x := 1) 1 (by decide)).1; have q1 := (jv_k (x := 1) 1 (by decide)).2; have q2 := (jv_k (x := 200) 200 (by decide)).1; have q3 := (jv_k (x := 200) 200 (by decide)).2; have q4 := zx47.2.1; have q5 := zx47.2.2; have q6 := p34.1; have q7 := p34.2; have q8 := (gc_nle zc32); have q9 := (g_eq0 zx47.1); omega) (Nat.le_of_lt_succ hm73))
        refine g_lsub [1, 0] [(0, .ref (ad 33)), (3, .int 0)] rfl ?_
        exact J73 _ F15 R16 0 oF15 fF15 oR16 fR16 (jv_w (jv_k (x := 0) 0 (by decide)) (by decide)) (Nat.lt_succ_self _)
      refine g_icmp_ge cx 50 e_X3_read_13 (by decide) (fun zc48 => ?_) (fun zc48 => ?_)
      · have p49 := gn_le (-2147483648) 200 (gc_le zc48) (jv_t a1) py2 (by decide)
        refine g_lsub [0] [(0, .ref (ad 33))] rfl ?_
        exact J50  
      · have p50 := gn_gt 1 2147483647 (gc_nle zc48) (jv_t a1) py2 (by decide)
        refine g_iload_n cx 3 rfl e_X3_read_16 ?_
        refine g_sipush cx 200 (by decide) e_X3_read_17 ?_
        refine g_icmp_ge cx 50 e_X3_read_20 (by decide) (fun zc51 => ?_) (fun zc51 => ?_)
        · have p52 := gn_ge 200 200 (gc_le zc51) py2 (jv_k (x := 200) 200 (by decide)) (by decide)
          refine g_lsub [0] [(0, .ref (ad 33))] rfl ?_
          exact J50  
        · have p53 := gn_lt 0 199 (gc_nle zc51) py2 (jv_k (x := 200) 200 (by decide)) (by decide)
          refine g_aload_n cx 0 rfl e_X3_read_23 ?_
          refine g_get cx cl_X3 fl_X3_9 33 (.ref (ad 34)) e_X3_read_24 rfl rfl ?_
          refine g_iload_n cx 3 rfl e_X3_read_27 ?_
          refine g_aload_n cx 1 rfl e_X3_read_28 ?_
          refine g_iload_n cx 3 rfl e_X3_read_29 ?_
          refine g_cViW cx [.int y2] [.int y2, .ref (ad 34)] (w_X9_at l X ad F3 R4 oF3 oR4 y2) ml_X3_29 yV_X9_at e_X3_read_30 (by unfold g_rr; decide) (by decide) 9 rfl rfl rfl (Nat.le_of_ble_eq_true rfl) (fun r54 w55 h56 => ?_)
          obtain ⟨rfl, pr54⟩ := h56
          refine g_iast cx 34 (wX X ad F3 (g_u R4 34 (upd (R4 34) (Int32.toNatClampNeg y2) r54))) e_X3_read_33 rfl (jv_ix 200 p53 (by decide)) rfl ?_
          obtain ⟨R57, hR57⟩ : ∃ z, z = g_u R4 34 (upd (R4 34) (Int32.toNatClampNeg y2) r54) := ⟨_, rfl⟩
          rw [← hR57]
          have oR57 : g_okR LA_wX R57 := by rw [hR57]; exact g_okR_u oR4 rfl
          have fR57 : g_fr mr_X3_read R R57 := by rw [hR57]; exact g_fr_r fR4 rfl
          refine g_aload_n cx 0 rfl e_X3_read_34 ?_
          refine g_dup cx rfl e_X3_read_35 ?_
          refine g_get cx cl_X3 fl_X3_15 33 (.int (F3 530)) e_X3_read_36 rfl rfl ?_
          refine g_iconst cx 1 (by decide) e_X3_read_39 ?_
          refine g_iadd cx e_X3_read_40 ?_
          refine g_topi (fun x58 ex58 => ?_)
          refine g_put cx cl_X3 fl_X3_15 33 (wX X ad (upd F3 530 x58) R57) e_X3_read_41 rfl rfl rfl rfl (Nat.le_of_ble_eq_true rfl) rfl ?_
          obtain ⟨F59, hF59⟩ : ∃ z, z = upd F3 530 x58 := ⟨_, rfl⟩
          rw [← hF59]
          have oF59 : g_ok LK_wX F59 := by rw [hF59]; exact g_ok_u oF3 rfl
          have fF59 : g_fr md_X3_read F F59 := by rw [hF59]; exact g_fr_u fF3 rfl
          obtain ⟨x60, ex60⟩ : ∃ z : Int32, z = y2 + Int32.ofInt 1 := ⟨_, rfl⟩
          refine g_iinc cx x60 [(3, .int x60), (0, .ref (ad 33)), (1, .ref (ad 9)), (2, .int a1)] 3 e_X3_read_44 rfl ex60.symm (by decide) rfl ?_
          have zx60 := jv_add 1 200 (show x60 = y2 + 1 from ex60) p53 (jv_k (x := 1) 1 (by decide)) (by decide)
          refine g_goto cx 7 e_X3_read_47 (by decide) ?_
          refine g_lsub [1, 2, 3, 0] [(0, .ref (ad 33)), (1, .ref (ad 9)), (2, .int a1), (3, .int x60)] rfl ?_
          exact ih7 F59 R57 x60 oF59 fF59 oR57 fR57 (jv_w zx60.2 (by decide)) (Nat.lt_of_lt_of_le (show (2147483647 - x60.toInt).toNat < (2147483647 - y2.toInt).toNat from by have q0 := (jv_k (x := 1) 1 (by decide)).1; have q1 := (jv_k (x := 1) 1 (by decide)).2; have q2 := (jv_k (x := 200) 200 (by decide)).1; have q3 := (jv_k (x := 200) 200 (by decide)).2; have q4 := p50.1; have q5 := p50.2; have q6 := zx60.2.1; have q7 := zx60.2.2; have q8 := p53.1; have q9 := p53.2; have q10 := (gc_nle zc48); have q11 := (gc_nle zc51); have q12 := (g_eq0 zx60.1); omega) (Nat.le_of_lt_succ hm7))
  refine g_lsub [1, 2, 3, 0] [(0, .ref (ad 33)), (1, .ref (ad 9)), (2, .int a1), (3, .int 0)] rfl ?_
  exact J7 _ F1 R 0 oF1 fF1 hA (g_fr_rf R) (jv_w (jv_k (x := 0) 0 (by decide)) (by decide)) (Nat.lt_succ_self _)
theorem e_X2_copy_0 : g_dc cX2_copy 0 (.aload_n 1) 1 1 := ⟨by decide +kernel, rfl⟩
theorem e_X2_copy_1 : g_dc cX2_copy 1 (.ifnonnull 4) 3 4 := ⟨by decide +kernel, rfl⟩
theorem e_X2_copy_5 : g_dc cX2_copy 5 (.aload_n 0) 1 6 := ⟨by decide +kernel, rfl⟩
theorem e_X2_copy_6 : g_dc cX2_copy 6 (.aload_n 1) 1 7 := ⟨by decide +kernel, rfl⟩
theorem e_X2_copy_7 : g_dc cX2_copy 7 (.getfield 18) 3 10 := ⟨by decide +kernel, rfl⟩
theorem e_X2_copy_10 : g_dc cX2_copy 10 (.putfield 18) 3 13 := ⟨by decide +kernel, rfl⟩
theorem e_X2_copy_13 : g_dc cX2_copy 13 (.aload_n 0) 1 14 := ⟨by decide +kernel, rfl⟩
theorem e_X2_copy_14 : g_dc cX2_copy 14 (.aload_n 1) 1 15 := ⟨by decide +kernel, rfl⟩
theorem e_X2_copy_15 : g_dc cX2_copy 15 (.getfield 31) 3 18 := ⟨by decide +kernel, rfl⟩
theorem e_X2_copy_18 : g_dc cX2_copy 18 (.putfield 31) 3 21 := ⟨by decide +kernel, rfl⟩
theorem e_X2_copy_21 : g_dc cX2_copy 21 (.aload_n 1) 1 22 := ⟨by decide +kernel, rfl⟩
theorem e_X2_copy_22 : g_dc cX2_copy 22 (.getfield 11) 3 25 := ⟨by decide +kernel, rfl⟩
theorem e_X2_copy_25 : g_dc cX2_copy 25 (.iconst 0) 1 26 := ⟨by decide +kernel, rfl⟩
theorem e_X2_copy_26 : g_dc cX2_copy 26 (.aload_n 0) 1 27 := ⟨by decide +kernel, rfl⟩
theorem e_X2_copy_27 : g_dc cX2_copy 27 (.getfield 11) 3 30 := ⟨by decide +kernel, rfl⟩
theorem e_X2_copy_30 : g_dc cX2_copy 30 (.iconst 0) 1 31 := ⟨by decide +kernel, rfl⟩
theorem e_X2_copy_31 : g_dc cX2_copy 31 (.sipush 256) 3 34 := ⟨by decide +kernel, rfl⟩
theorem e_X2_copy_34 : g_dc cX2_copy 34 (.invokestatic 40) 3 37 := ⟨by decide +kernel, rfl⟩
theorem e_X2_copy_37 : g_dc cX2_copy 37 (.aload_n 1) 1 38 := ⟨by decide +kernel, rfl⟩
theorem e_X2_copy_38 : g_dc cX2_copy 38 (.getfield 15) 3 41 := ⟨by decide +kernel, rfl⟩
theorem e_X2_copy_41 : g_dc cX2_copy 41 (.iconst 0) 1 42 := ⟨by decide +kernel, rfl⟩
theorem e_X2_copy_42 : g_dc cX2_copy 42 (.aload_n 0) 1 43 := ⟨by decide +kernel, rfl⟩
theorem e_X2_copy_43 : g_dc cX2_copy 43 (.getfield 15) 3 46 := ⟨by decide +kernel, rfl⟩
theorem e_X2_copy_46 : g_dc cX2_copy 46 (.iconst 0) 1 47 := ⟨by decide +kernel, rfl⟩
theorem e_X2_copy_47 : g_dc cX2_copy 47 (.sipush 256) 3 50 := ⟨by decide +kernel, rfl⟩
theorem e_X2_copy_50 : g_dc cX2_copy 50 (.invokestatic 40) 3 53 := ⟨by decide +kernel, rfl⟩
theorem e_X2_copy_53 : g_dc cX2_copy 53 (.aload_n 1) 1 54 := ⟨by decide +kernel, rfl⟩
theorem e_X2_copy_54 : g_dc cX2_copy 54 (.getfield 22) 3 57 := ⟨by decide +kernel, rfl⟩
theorem e_X2_copy_57 : g_dc cX2_copy 57 (.iconst 0) 1 58 := ⟨by decide +kernel, rfl⟩
theorem e_X2_copy_58 : g_dc cX2_copy 58 (.aload_n 0) 1 59 := ⟨by decide +kernel, rfl⟩
theorem e_X2_copy_59 : g_dc cX2_copy 59 (.getfield 22) 3 62 := ⟨by decide +kernel, rfl⟩
theorem e_X2_copy_62 : g_dc cX2_copy 62 (.iconst 0) 1 63 := ⟨by decide +kernel, rfl⟩
theorem e_X2_copy_63 : g_dc cX2_copy 63 (.bipush 14) 2 65 := ⟨by decide +kernel, rfl⟩
theorem e_X2_copy_65 : g_dc cX2_copy 65 (.invokestatic 40) 3 68 := ⟨by decide +kernel, rfl⟩
theorem e_X2_copy_68 : g_dc cX2_copy 68 (.aload_n 1) 1 69 := ⟨by decide +kernel, rfl⟩
theorem e_X2_copy_69 : g_dc cX2_copy 69 (.getfield 25) 3 72 := ⟨by decide +kernel, rfl⟩
theorem e_X2_copy_72 : g_dc cX2_copy 72 (.iconst 0) 1 73 := ⟨by decide +kernel, rfl⟩
theorem e_X2_copy_73 : g_dc cX2_copy 73 (.aload_n 0) 1 74 := ⟨by decide +kernel, rfl⟩
theorem e_X2_copy_74 : g_dc cX2_copy 74 (.getfield 25) 3 77 := ⟨by decide +kernel, rfl⟩
theorem e_X2_copy_77 : g_dc cX2_copy 77 (.iconst 0) 1 78 := ⟨by decide +kernel, rfl⟩
theorem e_X2_copy_78 : g_dc cX2_copy 78 (.bipush 14) 2 80 := ⟨by decide +kernel, rfl⟩
theorem e_X2_copy_80 : g_dc cX2_copy 80 (.invokestatic 40) 3 83 := ⟨by decide +kernel, rfl⟩
theorem e_X2_copy_83 : g_dc cX2_copy 83 (.aload_n 1) 1 84 := ⟨by decide +kernel, rfl⟩
theorem e_X2_copy_84 : g_dc cX2_copy 84 (.getfield 28) 3 87 := ⟨by decide +kernel, rfl⟩
theorem e_X2_copy_87 : g_dc cX2_copy 87 (.iconst 0) 1 88 := ⟨by decide +kernel, rfl⟩
theorem e_X2_copy_88 : g_dc cX2_copy 88 (.aload_n 0) 1 89 := ⟨by decide +kernel, rfl⟩
theorem e_X2_copy_89 : g_dc cX2_copy 89 (.getfield 28) 3 92 := ⟨by decide +kernel, rfl⟩
theorem e_X2_copy_92 : g_dc cX2_copy 92 (.iconst 0) 1 93 := ⟨by decide +kernel, rfl⟩
theorem e_X2_copy_93 : g_dc cX2_copy 93 (.bipush 14) 2 95 := ⟨by decide +kernel, rfl⟩
theorem e_X2_copy_95 : g_dc cX2_copy 95 (.invokestatic 40) 3 98 := ⟨by decide +kernel, rfl⟩
theorem e_X2_copy_98 : g_dc cX2_copy 98 (.return_) 1 99 := ⟨by decide +kernel, rfl⟩
def md_X2_copy_17_r25 : List Nat := [274, 278]
def mr_X2_copy_17_r25 : List Nat := [18, 19, 20, 21, 22]
set_option maxHeartbeats 4000000 in
set_option maxRecDepth 100000 in
theorem w_X2_copy_17_r25 (l : Launch) (X : gX) (ad : Nat → Nat) (F : Nat → Int32) (R : Nat → Nat → Int32) (hI : g_ok LK_wX F) (hA : g_okR LA_wX R) : g_Cv l X yX2_copy cX2_copy 2 1 0 0 [.ref (ad 17), .ref (ad 25)] (wX X ad F R) (fun w => ∃ (F' : Nat → Int32) (R' : Nat → Nat → Int32), w = wX X ad F' R' ∧ g_ok LK_wX F' ∧ g_okR LA_wX R' ∧ g_fr md_X2_copy_17_r25 F F' ∧ g_fr mr_X2_copy_17_r25 R R') := by
  refine g_mv (by decide +kernel) (Nat.le_of_ble_eq_true rfl) (fun E cx hret => ?_)
  refine g_aload_n cx 1 rfl e_X2_copy_0 ?_
  refine g_ifnonnull cx 5 e_X2_copy_1 (by decide) ?_
  refine g_aload_n cx 0 rfl e_X2_copy_5 ?_
  refine g_aload_n cx 1 rfl e_X2_copy_6 ?_
  refine g_get cx cl_X2 fl_X2_18 25 (.int (F 402)) e_X2_copy_7 rfl rfl ?_
  refine g_put cx cl_X2 fl_X2_18 17 (wX X ad (upd F 274 (F 402)) R) e_X2_copy_10 rfl rfl rfl rfl (Nat.le_of_ble_eq_true rfl) rfl ?_
  obtain ⟨F1, hF1⟩ : ∃ z, z = upd F 274 (F 402) := ⟨_, rfl⟩
  rw [← hF1]
  have oF1 : g_ok LK_wX F1 := by rw [hF1]; exact g_ok_p hI (g_ok_g hI 6 rfl) rfl
  have fF1 : g_fr md_X2_copy_17_r25 F F1 := by rw [hF1]; exact g_fr_u (g_fr_rf F) rfl
  refine g_aload_n cx 0 rfl e_X2_copy_13 ?_
  refine g_aload_n cx 1 rfl e_X2_copy_14 ?_
  refine g_get cx cl_X2 fl_X2_31 25 (.int (F1 406)) e_X2_copy_15 rfl rfl ?_
  refine g_toi (F 406) (g_pu2 hF1 rfl) ?_
  refine g_put cx cl_X2 fl_X2_31 17 (wX X ad (upd F1 278 (F 406)) R) e_X2_copy_18 rfl rfl rfl rfl (Nat.le_of_ble_eq_true rfl) rfl ?_
  obtain ⟨F2, hF2⟩ : ∃ z, z = upd F1 278 (F 406) := ⟨_, rfl⟩
  rw [← hF2]
  have oF2 : g_ok LK_wX F2 := by rw [hF2]; exact g_ok_p oF1 (g_ok_g hI 8 rfl) rfl
  have fF2 : g_fr md_X2_copy_17_r25 F F2 := by rw [hF2]; exact g_fr_u fF1 rfl
  refine g_aload_n cx 1 rfl e_X2_copy_21 ?_
  refine g_get cx cl_X2 fl_X2_11 25 (.ref (ad 26)) e_X2_copy_22 rfl rfl ?_
  refine g_iconst cx 0 (by decide) e_X2_copy_25 ?_
  refine g_aload_n cx 0 rfl e_X2_copy_26 ?_
  refine g_get cx cl_X2 fl_X2_11 17 (.ref (ad 18)) e_X2_copy_27 rfl rfl ?_
  refine g_iconst cx 0 (by decide) e_X2_copy_30 ?_
  refine g_sipush cx 256 (by decide) e_X2_copy_31 ?_
  refine g_copy cx 26 18 (wX X ad F2 (g_u R 18 (va_cpy (R 26) (R 18) 0 0 256))) ml_X2_40 e_X2_copy_34 rfl rfl (by decide) (by decide) (by decide) (by decide) rfl ?_
  obtain ⟨R3, hR3⟩ : ∃ z, z = g_u R 18 (va_cpy (R 26) (R 18) 0 0 256) := ⟨_, rfl⟩
  rw [← hR3]
  have oR3 : g_okR LA_wX R3 := by rw [hR3]; exact g_okR_u hA rfl
  have fR3 : g_fr mr_X2_copy_17_r25 R R3 := by rw [hR3]; exact g_fr_r (g_fr_rf R) rfl
  refine g_aload_n cx 1 rfl e_X2_copy_37 ?_
  refine g_get cx cl_X2 fl_X2_15 25 (.ref (ad 27)) e_X2_copy_38 rfl rfl ?_
  refine g_iconst cx 0 (by decide) e_X2_copy_41 ?_
  refine g_aload_n cx 0 rfl e_X2_copy_42 ?_
  refine g_get cx cl_X2 fl_X2_15 17 (.ref (ad 19)) e_X2_copy_43 rfl rfl ?_
  refine g_iconst cx 0 (by decide) e_X2_copy_46 ?_
  refine g_sipush cx 256 (by decide) e_X2_copy_47 ?_
  refine g_copy cx 27 19 (wX X ad F2 (g_u R3 19 (va_cpy (R3 27) (R3 19) 0 0 256))) ml_X2_40 e_X2_copy_50 rfl rfl (by decide) (by decide) (by decide) (by decide) rfl ?_
  obtain ⟨R4, hR4⟩ : ∃ z, z = g_u R3 19 (va_cpy (R3 27) (R3 19) 0 0 256) := ⟨_, rfl⟩
  rw [← hR4]
  have oR4 : g_okR LA_wX R4 := by rw [hR4]; exact g_okR_u oR3 rfl
  have fR4 : g_fr mr_X2_copy_17_r25 R R4 := by rw [hR4]; exact g_fr_r fR3 rfl
  refine g_aload_n cx 1 rfl e_X2_copy_53 ?_
  refine g_get cx cl_X2 fl_X2_22 25 (.ref (ad 28)) e_X2_copy_54 rfl rfl ?_
  refine g_iconst cx 0 (by decide) e_X2_copy_57 ?_
  refine g_aload_n cx 0 rfl e_X2_copy_58 ?_
  refine g_get cx cl_X2 fl_X2_22 17 (.ref (ad 20)) e_X2_copy_59 rfl rfl ?_
  refine g_iconst cx 0 (by decide) e_X2_copy_62 ?_
  refine g_bipush cx 14 (by decide) e_X2_copy_63 ?_
  refine g_copy cx 28 20 (wX X ad F2 (g_u R4 20 (va_cpy (R4 28) (R4 20) 0 0 14))) ml_X2_40 e_X2_copy_65 rfl rfl (by decide) (by decide) (by decide) (by decide) rfl ?_
  obtain ⟨R5, hR5⟩ : ∃ z, z = g_u R4 20 (va_cpy (R4 28) (R4 20) 0 0 14) := ⟨_, rfl⟩
  rw [← hR5]
  have oR5 : g_okR LA_wX R5 := by rw [hR5]; exact g_okR_u oR4 rfl
  have fR5 : g_fr mr_X2_copy_17_r25 R R5 := by rw [hR5]; exact g_fr_r fR4 rfl
  refine g_aload_n cx 1 rfl e_X2_copy_68 ?_
  refine g_get cx cl_X2 fl_X2_25 25 (.ref (ad 29)) e_X2_copy_69 rfl rfl ?_
  refine g_iconst cx 0 (by decide) e_X2_copy_72 ?_
  refine g_aload_n cx 0 rfl e_X2_copy_73 ?_
  refine g_get cx cl_X2 fl_X2_25 17 (.ref (ad 21)) e_X2_copy_74 rfl rfl ?_
  refine g_iconst cx 0 (by decide) e_X2_copy_77 ?_
  refine g_bipush cx 14 (by decide) e_X2_copy_78 ?_
  refine g_copy cx 29 21 (wX X ad F2 (g_u R5 21 (va_cpy (R5 29) (R5 21) 0 0 14))) ml_X2_40 e_X2_copy_80 rfl rfl (by decide) (by decide) (by decide) (by decide) rfl ?_
  obtain ⟨R6, hR6⟩ : ∃ z, z = g_u R5 21 (va_cpy (R5 29) (R5 21) 0 0 14) := ⟨_, rfl⟩
  rw [← hR6]
  have oR6 : g_okR LA_wX R6 := by rw [hR6]; exact g_okR_u oR5 rfl
  have fR6 : g_fr mr_X2_copy_17_r25 R R6 := by rw [hR6]; exact g_fr_r fR5 rfl
  refine g_aload_n cx 1 rfl e_X2_copy_83 ?_
  refine g_get cx cl_X2 fl_X2_28 25 (.ref (ad 30)) e_X2_copy_84 rfl rfl ?_
  refine g_iconst cx 0 (by decide) e_X2_copy_87 ?_
  refine g_aload_n cx 0 rfl e_X2_copy_88 ?_
  refine g_get cx cl_X2 fl_X2_28 17 (.ref (ad 22)) e_X2_copy_89 rfl rfl ?_
  refine g_iconst cx 0 (by decide) e_X2_copy_92 ?_
  refine g_bipush cx 14 (by decide) e_X2_copy_93 ?_
  refine g_copy cx 30 22 (wX X ad F2 (g_u R6 22 (va_cpy (R6 30) (R6 22) 0 0 14))) ml_X2_40 e_X2_copy_95 rfl rfl (by decide) (by decide) (by decide) (by decide) rfl ?_
  obtain ⟨R7, hR7⟩ : ∃ z, z = g_u R6 22 (va_cpy (R6 30) (R6 22) 0 0 14) := ⟨_, rfl⟩
  rw [← hR7]
  have oR7 : g_okR LA_wX R7 := by rw [hR7]; exact g_okR_u oR6 rfl
  have fR7 : g_fr mr_X2_copy_17_r25 R R7 := by rw [hR7]; exact g_fr_r fR6 rfl
  exact hret e_X2_copy_98 (Nat.le_of_ble_eq_true rfl) (Nat.le_of_ble_eq_true rfl) ⟨F2, R7, rfl, oF2, oR7, fF2, fR7⟩
theorem e_X10_law_0 : g_dc cX10_law 0 (.iload_n 1) 1 1 := ⟨by decide +kernel, rfl⟩
theorem e_X10_law_1 : g_dc cX10_law 1 (.iconst 1) 1 2 := ⟨by decide +kernel, rfl⟩
theorem e_X10_law_2 : g_dc cX10_law 2 (.sipush 200) 3 5 := ⟨by decide +kernel, rfl⟩
theorem e_X10_law_5 : g_dc cX10_law 5 (.invokestatic 82) 3 8 := ⟨by decide +kernel, rfl⟩
theorem e_X10_law_8 : g_dc cX10_law 8 (.ifCond .eq 14) 3 11 := ⟨by decide +kernel, rfl⟩
theorem e_X10_law_11 : g_dc cX10_law 11 (.iload_n 1) 1 12 := ⟨by decide +kernel, rfl⟩
theorem e_X10_law_12 : g_dc cX10_law 12 (.aload_n 0) 1 13 := ⟨by decide +kernel, rfl⟩
theorem e_X10_law_13 : g_dc cX10_law 13 (.getfield 22) 3 16 := ⟨by decide +kernel, rfl⟩
theorem e_X10_law_16 : g_dc cX10_law 16 (.getfield 110) 3 19 := ⟨by decide +kernel, rfl⟩
theorem e_X10_law_19 : g_dc cX10_law 19 (.if_icmp .le 5) 3 22 := ⟨by decide +kernel, rfl⟩
theorem e_X10_law_22 : g_dc cX10_law 22 (.iconst (-1)) 1 23 := ⟨by decide +kernel, rfl⟩
theorem e_X10_law_23 : g_dc cX10_law 23 (.ireturn) 1 24 := ⟨by decide +kernel, rfl⟩
theorem e_X10_law_24 : g_dc cX10_law 24 (.aload_n 0) 1 25 := ⟨by decide +kernel, rfl⟩
theorem e_X10_law_25 : g_dc cX10_law 25 (.getfield 51) 3 28 := ⟨by decide +kernel, rfl⟩
theorem e_X10_law_28 : g_dc cX10_law 28 (.aload_n 0) 1 29 := ⟨by decide +kernel, rfl⟩
theorem e_X10_law_29 : g_dc cX10_law 29 (.getfield 22) 3 32 := ⟨by decide +kernel, rfl⟩
theorem e_X10_law_32 : g_dc cX10_law 32 (.iload_n 1) 1 33 := ⟨by decide +kernel, rfl⟩
theorem e_X10_law_33 : g_dc cX10_law 33 (.invokevirtual 127) 3 36 := ⟨by decide +kernel, rfl⟩
theorem e_X10_law_36 : g_dc cX10_law 36 (.istore_n 2) 1 37 := ⟨by decide +kernel, rfl⟩
theorem e_X10_law_37 : g_dc cX10_law 37 (.aload_n 0) 1 38 := ⟨by decide +kernel, rfl⟩
theorem e_X10_law_38 : g_dc cX10_law 38 (.getfield 22) 3 41 := ⟨by decide +kernel, rfl⟩
theorem e_X10_law_41 : g_dc cX10_law 41 (.iconst 0) 1 42 := ⟨by decide +kernel, rfl⟩
theorem e_X10_law_42 : g_dc cX10_law 42 (.putfield 110) 3 45 := ⟨by decide +kernel, rfl⟩
theorem e_X10_law_45 : g_dc cX10_law 45 (.iload_n 2) 1 46 := ⟨by decide +kernel, rfl⟩
theorem e_X10_law_46 : g_dc cX10_law 46 (.ifCond .eq 5) 3 49 := ⟨by decide +kernel, rfl⟩
theorem e_X10_law_49 : g_dc cX10_law 49 (.iload_n 2) 1 50 := ⟨by decide +kernel, rfl⟩
theorem e_X10_law_50 : g_dc cX10_law 50 (.ireturn) 1 51 := ⟨by decide +kernel, rfl⟩
theorem e_X10_law_51 : g_dc cX10_law 51 (.aload_n 0) 1 52 := ⟨by decide +kernel, rfl⟩
theorem e_X10_law_52 : g_dc cX10_law 52 (.getfield 39) 3 55 := ⟨by decide +kernel, rfl⟩
theorem e_X10_law_55 : g_dc cX10_law 55 (.aload_n 0) 1 56 := ⟨by decide +kernel, rfl⟩
theorem e_X10_law_56 : g_dc cX10_law 56 (.getfield 43) 3 59 := ⟨by decide +kernel, rfl⟩
theorem e_X10_law_59 : g_dc cX10_law 59 (.invokevirtual 128) 3 62 := ⟨by decide +kernel, rfl⟩
theorem e_X10_law_62 : g_dc cX10_law 62 (.aload_n 0) 1 63 := ⟨by decide +kernel, rfl⟩
theorem e_X10_law_63 : g_dc cX10_law 63 (.dup) 1 64 := ⟨by decide +kernel, rfl⟩
theorem e_X10_law_64 : g_dc cX10_law 64 (.getfield 78) 3 67 := ⟨by decide +kernel, rfl⟩
theorem e_X10_law_67 : g_dc cX10_law 67 (.iconst 1) 1 68 := ⟨by decide +kernel, rfl⟩
theorem e_X10_law_68 : g_dc cX10_law 68 (.iadd) 1 69 := ⟨by decide +kernel, rfl⟩
theorem e_X10_law_69 : g_dc cX10_law 69 (.putfield 78) 3 72 := ⟨by decide +kernel, rfl⟩
theorem e_X10_law_72 : g_dc cX10_law 72 (.aload_n 0) 1 73 := ⟨by decide +kernel, rfl⟩
theorem e_X10_law_73 : g_dc cX10_law 73 (.getfield 39) 3 76 := ⟨by decide +kernel, rfl⟩
theorem e_X10_law_76 : g_dc cX10_law 76 (.getfield 130) 3 79 := ⟨by decide +kernel, rfl⟩
theorem e_X10_law_79 : g_dc cX10_law 79 (.ireturn) 1 80 := ⟨by decide +kernel, rfl⟩
def md_X10_law : List Nat := [12, 145, 274, 278, 402, 406, 530, 531, 532]
def mr_X10_law : List Nat := [18, 19, 20, 21, 22, 26, 27, 28, 29, 30, 34]
set_option maxHeartbeats 4000000 in
set_option maxRecDepth 100000 in
theorem w_X10_law (l : Launch) (X : gX) (ad : Nat → Nat) (F : Nat → Int32) (R : Nat → Nat → Int32) (hI : g_ok LK_wX F) (hA : g_okR LA_wX R) (a0 : Int32) : g_Ci l X yX10_law cX10_law 3 (some .int) 29 0 0 [.ref (ad 0), .int a0] (wX X ad F R) (fun r w => ∃ (F' : Nat → Int32) (R' : Nat → Nat → Int32), w = wX X ad F' R' ∧ g_ok LK_wX F' ∧ g_okR LA_wX R' ∧ g_fr md_X10_law F F' ∧ g_fr mr_X10_law R R' ∧ jv (-2147483648) 2147483647 r) := by
  refine g_mi (by decide +kernel) (Nat.le_of_ble_eq_true rfl) (fun E cx hret => ?_)
  refine g_iload_n cx 1 rfl e_X10_law_0 ?_
  refine g_iconst cx 1 (by decide) e_X10_law_1 ?_
  refine g_sipush cx 200 (by decide) e_X10_law_2 ?_
  refine g_cSiW cx [.int a0, .int 1, .int 200] [] (c_X10_within l X (wX X ad F R) a0 1 200) ml_X10_82 yS_X10_within rfl e_X10_law_5 (by unfold g_rr; decide) (by decide) rfl (Nat.le_of_ble_eq_true rfl) (fun r1 w2 h3 => ?_)
  obtain ⟨rfl, hr1⟩ := h3
  have pr1 : jv 0 1 r1 := by rw [hr1]; exact gi_01 _ _ _
  have J22 : G X E 3 0 0 (wX X ad F R) [] 22 [] := by
    refine g_iconst cx (-1) (by decide) e_X10_law_22 ?_
    exact hret e_X10_law_23 (Nat.le_of_ble_eq_true rfl) (Nat.le_of_ble_eq_true rfl) rfl ⟨F, R, rfl, hI, hA, (g_fr_rf F), (g_fr_rf R), (jv_w (jv_k (x := (-1)) (-1) (by decide)) (by decide))⟩
  refine g_if_eq cx 22 e_X10_law_8 (by decide) (fun zc4 => ?_) (fun zc4 => ?_)
  · have p5 := gn_eq 0 0 (gc_eq zc4) pr1 (jv_k (x := 0) 0 (by decide)) (by decide)
    refine g_lsub [] [] rfl ?_
    exact J22  
  · have p6 := gn_neL 1 1 (gc_ne zc4) pr1 (jv_k (x := 0) 0 (by decide)) (by decide)
    have p7 := jv_i 1 200 (jv_t a0) (gi_in (A := 1) (B := 200) hr1 zc4 (by decide) (by decide)) (by decide)
    refine g_iload_n cx 1 rfl e_X10_law_11 ?_
    refine g_aload_n cx 0 rfl e_X10_law_12 ?_
    refine g_get cx cl_X10 fl_X10_22 0 (.ref (ad 9)) e_X10_law_13 rfl rfl ?_
    refine g_getN cx cl_X9 fn_X10_110 9 (.int (F 145)) e_X10_law_16 rfl rfl ?_
    refine g_icmp_le cx 24 e_X10_law_19 (by decide) (fun zc8 => ?_) (fun zc8 => ?_)
    · have p9 := gn_ge 1 220 (gc_le zc8) (g_ok_g hI 1 rfl) p7 (by decide)
      refine g_aload_n cx 0 rfl e_X10_law_24 ?_
      refine g_get cx cl_X10 fl_X10_51 0 (.ref (ad 33)) e_X10_law_25 rfl rfl ?_
      refine g_aload_n cx 0 rfl e_X10_law_28 ?_
      refine g_get cx cl_X10 fl_X10_22 0 (.ref (ad 9)) e_X10_law_29 rfl rfl ?_
      refine g_iload_n cx 1 rfl e_X10_law_32 ?_
      refine g_cViW cx [.ref (ad 9), .int a0] [] (w_X3_read l X ad F R hI hA a0) ml_X10_127 yV_X3_read e_X10_law_33 (by unfold g_rr; decide) (by decide) 33 rfl rfl rfl (Nat.le_of_ble_eq_true rfl) (fun r10 w11 h12 => ?_)
      obtain ⟨F13, R14, rfl, oF13, oR14, cF13, cR14, pr10⟩ := h12
      have fF13 : g_fr md_X10_law F F13 := g_fr_c (g_fr_rf F) cF13 rfl
      have fR14 : g_fr mr_X10_law R R14 := g_fr_c (g_fr_rf R) cR14 rfl
      refine g_istore_n cx [(2, .int r10), (0, .ref (ad 0)), (1, .int a0)] e_X10_law_36 (by decide) rfl ?_
      refine g_aload_n cx 1 rfl e_X10_law_37 ?_
      refine g_get cx cl_X10 fl_X10_22 0 (.ref (ad 9)) e_X10_law_38 rfl rfl ?_
      refine g_iconst cx 0 (by decide) e_X10_law_41 ?_
      refine g_putN cx cl_X9 fn_X10_110 9 (wX X ad (upd F13 145 0) R14) e_X10_law_42 rfl rfl rfl rfl (Nat.le_of_ble_eq_true rfl) rfl ?_
      obtain ⟨F15, hF15⟩ : ∃ z, z = upd F13 145 0 := ⟨_, rfl⟩
      rw [← hF15]
      have oF15 : g_ok LK_wX F15 := by rw [hF15]; exact g_ok_p oF13 (jv_k (x := 0) 0 (by decide)) rfl
      have fF15 : g_fr md_X10_law F F15 := by rw [hF15]; exact g_fr_u fF13 rfl
      refine g_iload_n cx 0 rfl e_X10_law_45 ?_
      refine g_if_eq cx 51 e_X10_law_46 (by decide) (fun zc16 => ?_) (fun zc16 => ?_)
      · have p17 := gn_eq 0 0 (gc_eq zc16) pr10 (jv_k (x := 0) 0 (by decide)) (by decide)
        refine g_aload_n cx 1 rfl e_X10_law_51 ?_
        refine g_get cx cl_X10 fl_X10_39 0 (.ref (ad 17)) e_X10_law_52 rfl rfl ?_
        refine g_aload_n cx 1 rfl e_X10_law_55 ?_
        refine g_get cx cl_X10 fl_X10_43 0 (.ref (ad 25)) e_X10_law_56 rfl rfl ?_
        refine g_cVvW cx [.ref (ad 25)] [] (w_X2_copy_17_r25 l X ad F15 R14 oF15 oR14) ml_X10_128 yV_X2_copy e_X10_law_59 (by unfold g_rr; decide) (by decide) 17 rfl rfl rfl (Nat.le_of_ble_eq_true rfl) (fun w19 h20 => ?_)
        obtain ⟨F21, R22, rfl, oF21, oR22, cF21, cR22⟩ := h20
        have fF21 : g_fr md_X10_law F F21 := g_fr_c fF15 cF21 rfl
        have fR22 : g_fr mr_X10_law R R22 := g_fr_c fR14 cR22 rfl
        refine g_aload_n cx 1 rfl e_X10_law_62 ?_
        refine g_dup cx rfl e_X10_law_63 ?_
        refine g_get cx cl_X10 fl_X10_78 0 (.int (F21 12)) e_X10_law_64 rfl rfl ?_
        refine g_toi (F 12) (((cF21 12 rfl).trans (g_pu2 hF15 rfl)).trans (cF13 12 rfl)) ?_
        refine g_iconst cx 1 (by decide) e_X10_law_67 ?_
        refine g_iadd cx e_X10_law_68 ?_
        refine g_topi (fun x23 ex23 => ?_)
        refine g_put cx cl_X10 fl_X10_78 0 (wX X ad (upd F21 12 x23) R22) e_X10_law_69 rfl rfl rfl rfl (Nat.le_of_ble_eq_true rfl) rfl ?_
        obtain ⟨F24, hF24⟩ : ∃ z, z = upd F21 12 x23 := ⟨_, rfl⟩
        rw [← hF24]
        have oF24 : g_ok LK_wX F24 := by rw [hF24]; exact g_ok_u oF21 rfl
        have fF24 : g_fr md_X10_law F F24 := by rw [hF24]; exact g_fr_u fF21 rfl
        refine g_aload_n cx 1 rfl e_X10_law_72 ?_
        refine g_get cx cl_X10 fl_X10_39 0 (.ref (ad 17)) e_X10_law_73 rfl rfl ?_
        refine g_getN cx cl_X2 fn_X10_130 17 (.int (F24 278)) e_X10_law_76 rfl rfl ?_
        refine g_toi (F21 278) (g_pu2 hF24 rfl) ?_
        exact hret e_X10_law_79 (Nat.le_of_ble_eq_true rfl) (Nat.le_of_ble_eq_true rfl) rfl ⟨F24, R22, rfl, oF24, oR22, fF24, fR22, (jv_w (g_ok_g oF21 7 rfl) (by decide))⟩
      · refine g_iload_n cx 0 rfl e_X10_law_49 ?_
        exact hret e_X10_law_50 (Nat.le_of_ble_eq_true rfl) (Nat.le_of_ble_eq_true rfl) rfl ⟨F15, R14, rfl, oF15, oR14, fF15, fR14, pr10⟩
    · have p25 := gn_lt 0 199 (gc_nle zc8) (g_ok_g hI 1 rfl) p7 (by decide)
      refine g_lsub [] [] rfl ?_
      exact J22  
